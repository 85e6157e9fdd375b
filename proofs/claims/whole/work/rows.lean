section
-- ===== PART A: goes FIRST, ahead of the names: the tables' words, and 'selects' of the private methods out of them =====
/-- a private method of a class that the tables say can be made, by its rows of tables_1 -/
def lw_okq (q : MethodName × Nat) : Prop := (q.1.cls ≠ "java/lang/invoke/MethodHandle" ∧ q.1.cls ≠ "java/lang/invoke/VarHandle") ∧ Cond.instantiable q.1.cls q.2 ∈ tables_1 ∧ Cond.privateMethod q.1 ∈ tables_1 ∧ Cond.instanceMethod q.1 ∈ tables_1
theorem lw_p0 : lw_okq (⟨"Harbourmint", "settle", "(I)Z"⟩, 7) := ⟨⟨by decide +kernel, by decide +kernel⟩, List.mem_of_getElem? (i := 41) (by decide +kernel), List.mem_of_getElem? (i := 217) (by decide +kernel), List.mem_of_getElem? (i := 218) (by decide +kernel)⟩
theorem lw_p1 : lw_okq (⟨"Harbourmint", "firstOpenLiable", "(I)I"⟩, 7) := ⟨⟨by decide +kernel, by decide +kernel⟩, List.mem_of_getElem? (i := 41) (by decide +kernel), List.mem_of_getElem? (i := 233) (by decide +kernel), List.mem_of_getElem? (i := 234) (by decide +kernel)⟩
theorem lw_p2 : lw_okq (⟨"Harbourmint", "isMetalWhole", "(I)Z"⟩, 7) := ⟨⟨by decide +kernel, by decide +kernel⟩, List.mem_of_getElem? (i := 41) (by decide +kernel), List.mem_of_getElem? (i := 261) (by decide +kernel), List.mem_of_getElem? (i := 262) (by decide +kernel)⟩
theorem lw_p3 : lw_okq (⟨"Harbourmint", "areClaimsSound", "()Z"⟩, 7) := ⟨⟨by decide +kernel, by decide +kernel⟩, List.mem_of_getElem? (i := 41) (by decide +kernel), List.mem_of_getElem? (i := 281) (by decide +kernel), List.mem_of_getElem? (i := 282) (by decide +kernel)⟩
theorem lw_p4 : lw_okq (⟨"java/lang/Throwable", "fillInStackTrace", "(I)Ljava/lang/Throwable;"⟩, 6) := ⟨⟨by decide +kernel, by decide +kernel⟩, List.mem_of_getElem? (i := 358) (by decide +kernel), List.mem_of_getElem? (i := 356) (by decide +kernel), List.mem_of_getElem? (i := 357) (by decide +kernel)⟩
theorem lw_p5 : lw_okq (⟨"Harbourmint", "needHouse", "(I)V"⟩, 7) := ⟨⟨by decide +kernel, by decide +kernel⟩, List.mem_of_getElem? (i := 41) (by decide +kernel), List.mem_of_getElem? (i := 439) (by decide +kernel), List.mem_of_getElem? (i := 440) (by decide +kernel)⟩
theorem lw_p6 : lw_okq (⟨"Harbourmint", "metalNumber", "(C)I"⟩, 7) := ⟨⟨by decide +kernel, by decide +kernel⟩, List.mem_of_getElem? (i := 41) (by decide +kernel), List.mem_of_getElem? (i := 467) (by decide +kernel), List.mem_of_getElem? (i := 468) (by decide +kernel)⟩
theorem lw_p7 : lw_okq (⟨"Harbourmint", "needRange", "(II)V"⟩, 7) := ⟨⟨by decide +kernel, by decide +kernel⟩, List.mem_of_getElem? (i := 41) (by decide +kernel), List.mem_of_getElem? (i := 472) (by decide +kernel), List.mem_of_getElem? (i := 473) (by decide +kernel)⟩
theorem lw_p8 : lw_okq (⟨"Harbourmint", "needOpen", "(I)V"⟩, 7) := ⟨⟨by decide +kernel, by decide +kernel⟩, List.mem_of_getElem? (i := 41) (by decide +kernel), List.mem_of_getElem? (i := 477) (by decide +kernel), List.mem_of_getElem? (i := 478) (by decide +kernel)⟩
theorem lw_p9 : lw_okq (⟨"Harbourmint", "strike", "(III)I"⟩, 7) := ⟨⟨by decide +kernel, by decide +kernel⟩, List.mem_of_getElem? (i := 41) (by decide +kernel), List.mem_of_getElem? (i := 543) (by decide +kernel), List.mem_of_getElem? (i := 544) (by decide +kernel)⟩
theorem lw_p10 : lw_okq (⟨"Harbourmint", "needCoin", "(I)V"⟩, 7) := ⟨⟨by decide +kernel, by decide +kernel⟩, List.mem_of_getElem? (i := 41) (by decide +kernel), List.mem_of_getElem? (i := 563) (by decide +kernel), List.mem_of_getElem? (i := 564) (by decide +kernel)⟩
theorem lw_p11 : lw_okq (⟨"Harbourmint", "needWhole", "(I)V"⟩, 7) := ⟨⟨by decide +kernel, by decide +kernel⟩, List.mem_of_getElem? (i := 41) (by decide +kernel), List.mem_of_getElem? (i := 568) (by decide +kernel), List.mem_of_getElem? (i := 569) (by decide +kernel)⟩
theorem lw_p12 : lw_okq (⟨"Harbourmint$Coins", "isLoose", "(III)Z"⟩, 7) := ⟨⟨by decide +kernel, by decide +kernel⟩, List.mem_of_getElem? (i := 87) (by decide +kernel), List.mem_of_getElem? (i := 616) (by decide +kernel), List.mem_of_getElem? (i := 617) (by decide +kernel)⟩
theorem lw_p13 : lw_okq (⟨"Harbourmint", "needDifferent", "(II)V"⟩, 7) := ⟨⟨by decide +kernel, by decide +kernel⟩, List.mem_of_getElem? (i := 41) (by decide +kernel), List.mem_of_getElem? (i := 627) (by decide +kernel), List.mem_of_getElem? (i := 628) (by decide +kernel)⟩
theorem lw_p14 : lw_okq (⟨"Harbourmint", "needLoose", "(III)V"⟩, 7) := ⟨⟨by decide +kernel, by decide +kernel⟩, List.mem_of_getElem? (i := 41) (by decide +kernel), List.mem_of_getElem? (i := 632) (by decide +kernel), List.mem_of_getElem? (i := 633) (by decide +kernel)⟩
theorem lw_p15 : lw_okq (⟨"Harbourmint$Coins", "lightest", "(II)I"⟩, 7) := ⟨⟨by decide +kernel, by decide +kernel⟩, List.mem_of_getElem? (i := 87) (by decide +kernel), List.mem_of_getElem? (i := 645) (by decide +kernel), List.mem_of_getElem? (i := 646) (by decide +kernel)⟩
def lw_privs_1 : List (MethodName × Nat) := [(⟨"Harbourmint", "settle", "(I)Z"⟩, 7), (⟨"Harbourmint", "firstOpenLiable", "(I)I"⟩, 7), (⟨"Harbourmint", "isMetalWhole", "(I)Z"⟩, 7), (⟨"Harbourmint", "areClaimsSound", "()Z"⟩, 7), (⟨"java/lang/Throwable", "fillInStackTrace", "(I)Ljava/lang/Throwable;"⟩, 6), (⟨"Harbourmint", "needHouse", "(I)V"⟩, 7), (⟨"Harbourmint", "metalNumber", "(C)I"⟩, 7), (⟨"Harbourmint", "needRange", "(II)V"⟩, 7), (⟨"Harbourmint", "needOpen", "(I)V"⟩, 7), (⟨"Harbourmint", "strike", "(III)I"⟩, 7), (⟨"Harbourmint", "needCoin", "(I)V"⟩, 7), (⟨"Harbourmint", "needWhole", "(I)V"⟩, 7), (⟨"Harbourmint$Coins", "isLoose", "(III)Z"⟩, 7), (⟨"Harbourmint", "needDifferent", "(II)V"⟩, 7), (⟨"Harbourmint", "needLoose", "(III)V"⟩, 7), (⟨"Harbourmint$Coins", "lightest", "(II)I"⟩, 7)]
theorem lw_r1 : ∀ q ∈ lw_privs_1, lw_okq q := List.forall_mem_cons.mpr ⟨lw_p0, List.forall_mem_cons.mpr ⟨lw_p1, List.forall_mem_cons.mpr ⟨lw_p2, List.forall_mem_cons.mpr ⟨lw_p3, List.forall_mem_cons.mpr ⟨lw_p4, List.forall_mem_cons.mpr ⟨lw_p5, List.forall_mem_cons.mpr ⟨lw_p6, List.forall_mem_cons.mpr ⟨lw_p7, List.forall_mem_cons.mpr ⟨lw_p8, List.forall_mem_cons.mpr ⟨lw_p9, List.forall_mem_cons.mpr ⟨lw_p10, List.forall_mem_cons.mpr ⟨lw_p11, List.forall_mem_cons.mpr ⟨lw_p12, List.forall_mem_cons.mpr ⟨lw_p13, List.forall_mem_cons.mpr ⟨lw_p14, List.forall_mem_cons.mpr ⟨lw_p15, fun _ h => absurd h List.not_mem_nil⟩⟩⟩⟩⟩⟩⟩⟩⟩⟩⟩⟩⟩⟩⟩⟩
theorem lw_p16 : lw_okq (⟨"Harbourmint", "needCustomer", "(II)V"⟩, 7) := ⟨⟨by decide +kernel, by decide +kernel⟩, List.mem_of_getElem? (i := 41) (by decide +kernel), List.mem_of_getElem? (i := 656) (by decide +kernel), List.mem_of_getElem? (i := 657) (by decide +kernel)⟩
theorem lw_p17 : lw_okq (⟨"Harbourmint", "needClaim", "(III)V"⟩, 7) := ⟨⟨by decide +kernel, by decide +kernel⟩, List.mem_of_getElem? (i := 41) (by decide +kernel), List.mem_of_getElem? (i := 669) (by decide +kernel), List.mem_of_getElem? (i := 670) (by decide +kernel)⟩
theorem lw_p18 : lw_okq (⟨"Harbourmint", "fail", "(I)V"⟩, 7) := ⟨⟨by decide +kernel, by decide +kernel⟩, List.mem_of_getElem? (i := 41) (by decide +kernel), List.mem_of_getElem? (i := 674) (by decide +kernel), List.mem_of_getElem? (i := 675) (by decide +kernel)⟩
theorem lw_p19 : lw_okq (⟨"Harbourmint", "partCoins", "(I)V"⟩, 7) := ⟨⟨by decide +kernel, by decide +kernel⟩, List.mem_of_getElem? (i := 41) (by decide +kernel), List.mem_of_getElem? (i := 682) (by decide +kernel), List.mem_of_getElem? (i := 683) (by decide +kernel)⟩
theorem lw_p20 : lw_okq (⟨"Harbourmint$Coins", "isAhead", "(II)Z"⟩, 7) := ⟨⟨by decide +kernel, by decide +kernel⟩, List.mem_of_getElem? (i := 87) (by decide +kernel), List.mem_of_getElem? (i := 690) (by decide +kernel), List.mem_of_getElem? (i := 691) (by decide +kernel)⟩
theorem lw_p21 : lw_okq (⟨"Harbourmint", "needBill", "(I)V"⟩, 7) := ⟨⟨by decide +kernel, by decide +kernel⟩, List.mem_of_getElem? (i := 41) (by decide +kernel), List.mem_of_getElem? (i := 765) (by decide +kernel), List.mem_of_getElem? (i := 766) (by decide +kernel)⟩
theorem lw_p22 : lw_okq (⟨"Harbourmint", "needVoyage", "(I)V"⟩, 7) := ⟨⟨by decide +kernel, by decide +kernel⟩, List.mem_of_getElem? (i := 41) (by decide +kernel), List.mem_of_getElem? (i := 794) (by decide +kernel), List.mem_of_getElem? (i := 795) (by decide +kernel)⟩
theorem lw_p23 : lw_okq (⟨"Harbourmint", "needOpenSharers", "(I)V"⟩, 7) := ⟨⟨by decide +kernel, by decide +kernel⟩, List.mem_of_getElem? (i := 41) (by decide +kernel), List.mem_of_getElem? (i := 814) (by decide +kernel), List.mem_of_getElem? (i := 815) (by decide +kernel)⟩
theorem lw_p24 : lw_okq (⟨"Harbourmint$Voyages", "valueOfAll", "(I)I"⟩, 3) := ⟨⟨by decide +kernel, by decide +kernel⟩, List.mem_of_getElem? (i := 159) (by decide +kernel), List.mem_of_getElem? (i := 823) (by decide +kernel), List.mem_of_getElem? (i := 824) (by decide +kernel)⟩
theorem lw_p25 : lw_okq (⟨"Harbourmint$Voyages", "greatestRemainder", "()I"⟩, 3) := ⟨⟨by decide +kernel, by decide +kernel⟩, List.mem_of_getElem? (i := 159) (by decide +kernel), List.mem_of_getElem? (i := 828) (by decide +kernel), List.mem_of_getElem? (i := 829) (by decide +kernel)⟩
theorem lw_p26 : lw_okq (⟨"Harbourmint", "needCoins", "()I"⟩, 7) := ⟨⟨by decide +kernel, by decide +kernel⟩, List.mem_of_getElem? (i := 41) (by decide +kernel), List.mem_of_getElem? (i := 907) (by decide +kernel), List.mem_of_getElem? (i := 908) (by decide +kernel)⟩
theorem lw_p27 : lw_okq (⟨"java/util/ArrayList", "add", "(Ljava/lang/Object;[Ljava/lang/Object;I)V"⟩, 3) := ⟨⟨by decide +kernel, by decide +kernel⟩, List.mem_of_getElem? (i := 939) (by decide +kernel), List.mem_of_getElem? (i := 995) (by decide +kernel), List.mem_of_getElem? (i := 996) (by decide +kernel)⟩
theorem lw_p28 : lw_okq (⟨"java/util/ArrayList", "grow", "()[Ljava/lang/Object;"⟩, 3) := ⟨⟨by decide +kernel, by decide +kernel⟩, List.mem_of_getElem? (i := 939) (by decide +kernel), List.mem_of_getElem? (i := 999) (by decide +kernel), List.mem_of_getElem? (i := 1000) (by decide +kernel)⟩
theorem lw_p29 : lw_okq (⟨"java/util/ArrayList", "grow", "(I)[Ljava/lang/Object;"⟩, 3) := ⟨⟨by decide +kernel, by decide +kernel⟩, List.mem_of_getElem? (i := 939) (by decide +kernel), List.mem_of_getElem? (i := 1003) (by decide +kernel), List.mem_of_getElem? (i := 1004) (by decide +kernel)⟩
theorem lw_p30 : lw_okq (⟨"HarbourmintModel", "isWrong", "(I)Z"⟩, 11) := ⟨⟨by decide +kernel, by decide +kernel⟩, List.mem_of_getElem? (i := 933) (by decide +kernel), List.mem_of_getElem? (i := 1105) (by decide +kernel), List.mem_of_getElem? (i := 1106) (by decide +kernel)⟩
theorem lw_p31 : lw_okq (⟨"HarbourmintModel", "isHouse", "(I)Z"⟩, 11) := ⟨⟨by decide +kernel, by decide +kernel⟩, List.mem_of_getElem? (i := 933) (by decide +kernel), List.mem_of_getElem? (i := 1113) (by decide +kernel), List.mem_of_getElem? (i := 1114) (by decide +kernel)⟩
def lw_privs_2 : List (MethodName × Nat) := [(⟨"Harbourmint", "needCustomer", "(II)V"⟩, 7), (⟨"Harbourmint", "needClaim", "(III)V"⟩, 7), (⟨"Harbourmint", "fail", "(I)V"⟩, 7), (⟨"Harbourmint", "partCoins", "(I)V"⟩, 7), (⟨"Harbourmint$Coins", "isAhead", "(II)Z"⟩, 7), (⟨"Harbourmint", "needBill", "(I)V"⟩, 7), (⟨"Harbourmint", "needVoyage", "(I)V"⟩, 7), (⟨"Harbourmint", "needOpenSharers", "(I)V"⟩, 7), (⟨"Harbourmint$Voyages", "valueOfAll", "(I)I"⟩, 3), (⟨"Harbourmint$Voyages", "greatestRemainder", "()I"⟩, 3), (⟨"Harbourmint", "needCoins", "()I"⟩, 7), (⟨"java/util/ArrayList", "add", "(Ljava/lang/Object;[Ljava/lang/Object;I)V"⟩, 3), (⟨"java/util/ArrayList", "grow", "()[Ljava/lang/Object;"⟩, 3), (⟨"java/util/ArrayList", "grow", "(I)[Ljava/lang/Object;"⟩, 3), (⟨"HarbourmintModel", "isWrong", "(I)Z"⟩, 11), (⟨"HarbourmintModel", "isHouse", "(I)Z"⟩, 11)]
theorem lw_r2 : ∀ q ∈ lw_privs_2, lw_okq q := List.forall_mem_cons.mpr ⟨lw_p16, List.forall_mem_cons.mpr ⟨lw_p17, List.forall_mem_cons.mpr ⟨lw_p18, List.forall_mem_cons.mpr ⟨lw_p19, List.forall_mem_cons.mpr ⟨lw_p20, List.forall_mem_cons.mpr ⟨lw_p21, List.forall_mem_cons.mpr ⟨lw_p22, List.forall_mem_cons.mpr ⟨lw_p23, List.forall_mem_cons.mpr ⟨lw_p24, List.forall_mem_cons.mpr ⟨lw_p25, List.forall_mem_cons.mpr ⟨lw_p26, List.forall_mem_cons.mpr ⟨lw_p27, List.forall_mem_cons.mpr ⟨lw_p28, List.forall_mem_cons.mpr ⟨lw_p29, List.forall_mem_cons.mpr ⟨lw_p30, List.forall_mem_cons.mpr ⟨lw_p31, fun _ h => absurd h List.not_mem_nil⟩⟩⟩⟩⟩⟩⟩⟩⟩⟩⟩⟩⟩⟩⟩⟩
theorem lw_p32 : lw_okq (⟨"HarbourmintModel", "hasFailed", "(I)Z"⟩, 11) := ⟨⟨by decide +kernel, by decide +kernel⟩, List.mem_of_getElem? (i := 933) (by decide +kernel), List.mem_of_getElem? (i := 1234) (by decide +kernel), List.mem_of_getElem? (i := 1235) (by decide +kernel)⟩
theorem lw_p33 : lw_okq (⟨"HarbourmintModel", "mints", "(III)V"⟩, 11) := ⟨⟨by decide +kernel, by decide +kernel⟩, List.mem_of_getElem? (i := 933) (by decide +kernel), List.mem_of_getElem? (i := 1246) (by decide +kernel), List.mem_of_getElem? (i := 1247) (by decide +kernel)⟩
theorem lw_p34 : lw_okq (⟨"HarbourmintModel", "isCoin", "(I)Z"⟩, 11) := ⟨⟨by decide +kernel, by decide +kernel⟩, List.mem_of_getElem? (i := 933) (by decide +kernel), List.mem_of_getElem? (i := 1284) (by decide +kernel), List.mem_of_getElem? (i := 1285) (by decide +kernel)⟩
theorem lw_p35 : lw_okq (⟨"HarbourmintModel", "isMelted", "(I)Z"⟩, 11) := ⟨⟨by decide +kernel, by decide +kernel⟩, List.mem_of_getElem? (i := 933) (by decide +kernel), List.mem_of_getElem? (i := 1288) (by decide +kernel), List.mem_of_getElem? (i := 1289) (by decide +kernel)⟩
theorem lw_p36 : lw_okq (⟨"HarbourmintModel", "isNoGiving", "(IICIZ)Z"⟩, 11) := ⟨⟨by decide +kernel, by decide +kernel⟩, List.mem_of_getElem? (i := 933) (by decide +kernel), List.mem_of_getElem? (i := 1356) (by decide +kernel), List.mem_of_getElem? (i := 1357) (by decide +kernel)⟩
theorem lw_p37 : lw_okq (⟨"HarbourmintModel", "wasBank", "(I)Z"⟩, 11) := ⟨⟨by decide +kernel, by decide +kernel⟩, List.mem_of_getElem? (i := 933) (by decide +kernel), List.mem_of_getElem? (i := 1360) (by decide +kernel), List.mem_of_getElem? (i := 1361) (by decide +kernel)⟩
theorem lw_p38 : lw_okq (⟨"HarbourmintModel", "lightest", "(III)Ljava/util/List;"⟩, 11) := ⟨⟨by decide +kernel, by decide +kernel⟩, List.mem_of_getElem? (i := 933) (by decide +kernel), List.mem_of_getElem? (i := 1364) (by decide +kernel), List.mem_of_getElem? (i := 1365) (by decide +kernel)⟩
theorem lw_p39 : lw_okq (⟨"HarbourmintModel", "fails", "(I)V"⟩, 11) := ⟨⟨by decide +kernel, by decide +kernel⟩, List.mem_of_getElem? (i := 933) (by decide +kernel), List.mem_of_getElem? (i := 1383) (by decide +kernel), List.mem_of_getElem? (i := 1384) (by decide +kernel)⟩
theorem lw_p40 : lw_okq (⟨"HarbourmintModel", "heaviest", "(I)LHarbourmintModel$Coin;"⟩, 11) := ⟨⟨by decide +kernel, by decide +kernel⟩, List.mem_of_getElem? (i := 933) (by decide +kernel), List.mem_of_getElem? (i := 1396) (by decide +kernel), List.mem_of_getElem? (i := 1397) (by decide +kernel)⟩
theorem lw_p41 : lw_okq (⟨"HarbourmintModel", "greatest", "(I)I"⟩, 11) := ⟨⟨by decide +kernel, by decide +kernel⟩, List.mem_of_getElem? (i := 933) (by decide +kernel), List.mem_of_getElem? (i := 1400) (by decide +kernel), List.mem_of_getElem? (i := 1401) (by decide +kernel)⟩
theorem lw_p42 : lw_okq (⟨"HarbourmintModel", "isBill", "(I)Z"⟩, 11) := ⟨⟨by decide +kernel, by decide +kernel⟩, List.mem_of_getElem? (i := 933) (by decide +kernel), List.mem_of_getElem? (i := 1465) (by decide +kernel), List.mem_of_getElem? (i := 1466) (by decide +kernel)⟩
theorem lw_p43 : lw_okq (⟨"java/util/ArrayList", "rangeCheckForAdd", "(I)V"⟩, 3) := ⟨⟨by decide +kernel, by decide +kernel⟩, List.mem_of_getElem? (i := 939) (by decide +kernel), List.mem_of_getElem? (i := 1498) (by decide +kernel), List.mem_of_getElem? (i := 1499) (by decide +kernel)⟩
theorem lw_p44 : lw_okq (⟨"java/util/ArrayList", "outOfBoundsMsg", "(I)Ljava/lang/String;"⟩, 3) := ⟨⟨by decide +kernel, by decide +kernel⟩, List.mem_of_getElem? (i := 939) (by decide +kernel), List.mem_of_getElem? (i := 1503) (by decide +kernel), List.mem_of_getElem? (i := 1504) (by decide +kernel)⟩
def lw_privs_3 : List (MethodName × Nat) := [(⟨"HarbourmintModel", "hasFailed", "(I)Z"⟩, 11), (⟨"HarbourmintModel", "mints", "(III)V"⟩, 11), (⟨"HarbourmintModel", "isCoin", "(I)Z"⟩, 11), (⟨"HarbourmintModel", "isMelted", "(I)Z"⟩, 11), (⟨"HarbourmintModel", "isNoGiving", "(IICIZ)Z"⟩, 11), (⟨"HarbourmintModel", "wasBank", "(I)Z"⟩, 11), (⟨"HarbourmintModel", "lightest", "(III)Ljava/util/List;"⟩, 11), (⟨"HarbourmintModel", "fails", "(I)V"⟩, 11), (⟨"HarbourmintModel", "heaviest", "(I)LHarbourmintModel$Coin;"⟩, 11), (⟨"HarbourmintModel", "greatest", "(I)I"⟩, 11), (⟨"HarbourmintModel", "isBill", "(I)Z"⟩, 11), (⟨"java/util/ArrayList", "rangeCheckForAdd", "(I)V"⟩, 3), (⟨"java/util/ArrayList", "outOfBoundsMsg", "(I)Ljava/lang/String;"⟩, 3)]
theorem lw_r3 : ∀ q ∈ lw_privs_3, lw_okq q := List.forall_mem_cons.mpr ⟨lw_p32, List.forall_mem_cons.mpr ⟨lw_p33, List.forall_mem_cons.mpr ⟨lw_p34, List.forall_mem_cons.mpr ⟨lw_p35, List.forall_mem_cons.mpr ⟨lw_p36, List.forall_mem_cons.mpr ⟨lw_p37, List.forall_mem_cons.mpr ⟨lw_p38, List.forall_mem_cons.mpr ⟨lw_p39, List.forall_mem_cons.mpr ⟨lw_p40, List.forall_mem_cons.mpr ⟨lw_p41, List.forall_mem_cons.mpr ⟨lw_p42, List.forall_mem_cons.mpr ⟨lw_p43, List.forall_mem_cons.mpr ⟨lw_p44, fun _ h => absurd h List.not_mem_nil⟩⟩⟩⟩⟩⟩⟩⟩⟩⟩⟩⟩⟩
def lw_privs : List (MethodName × Nat) := lw_privs_1 ++ (lw_privs_2 ++ (lw_privs_3))
def lw_tbl : List Cond := k2_sels lw_privs ++ tables_1
theorem lw_privs_ok : ∀ q ∈ lw_privs, lw_okq q := by
  show ∀ q ∈ lw_privs_1 ++ (lw_privs_2 ++ (lw_privs_3)), lw_okq q
  exact List.forall_mem_append.mpr ⟨lw_r1, List.forall_mem_append.mpr ⟨lw_r2, lw_r3⟩⟩
/-- the streams that the claim lets the run draw from -/
abbrev lw_cs : List Choice := [Jvm.Choice.named "NaN.bits"]
theorem lw_bits : nanBits ∈ lw_cs := by first | decide | exact List.mem_cons_self | simp [lw_cs, nanBits]
/-! ===== BEGIN words of one list among another's, by their places ===== -/
theorem goodIn_r {big : List Cond} (ws : List Cond) (ps : List Nat) (hp : ws = ps.filterMap (fun i => big[i]?)) (h : ws.all goodWord = true) : GoodIn big ws := by
  intro w hw
  have h1 := List.all_eq_true.mp h w hw
  rw [hp] at hw
  obtain ⟨i, -, hi⟩ := List.mem_filterMap.mp hw
  have hm : w ∈ big := by first | exact List.mem_of_getElem? hi | exact List.getElem?_mem hi
  exact ⟨hm, good_of_word h1⟩
theorem goodIn_app {big a b : List Cond} (ha : GoodIn big a) (hb : GoodIn big b) : GoodIn big (a ++ b) := fun w h => (List.mem_append.mp h).elim (ha w) (hb w)
theorem goodIn_ca {big a b : List Cond} {c : Cond} (ha : GoodIn big (c :: a)) (hb : GoodIn big b) : GoodIn big (c :: (a ++ b)) := fun w h => (List.mem_cons.mp h).elim (fun e => ha w (List.mem_cons.mpr (Or.inl e))) (fun h => (List.mem_append.mp h).elim (fun h => ha w (List.mem_cons.mpr (Or.inr h))) (hb w))
theorem goodIn_sub {big ws : List Cond} (hm : ∀ w ∈ ws, w ∈ big) (h : ws.all goodWord = true) : GoodIn big ws := fun w hw => ⟨hm w hw, good_of_word (List.all_eq_true.mp h w hw)⟩
/-! ===== END ===== -/


/-! ===== BEGIN exceptions that leave a method, and their catching by the caller (launches without stack traces) ===== -/
section VXA
/-! The laws vx_back, vx_callV, vx_callS, vx_callSW, vx_throw0, vx_throwS follow proofs of the library, with one case more: JvmDerived/Free/Laws.lean (Back.of_free), Shelf42/LK1.lean (callV, callS), Shelf/KitTraced.lean (throwNew0V, throwNewS). -/
/-- where a method has thrown q: the class by its name, the cell, what was written, the world -/
def vx_T (XC : String → State → State → Prop) (st : State) (q : Addr) (t : State) (mc ms : Nat) (free : Addr → Prop) : Prop :=
  ∃ (E : String) (ce : Cell) (L : List Loc), XC E st t ∧ t.heap[q]? = some ce ∧ ce.vm = .none ∧ st.vm.findClass E = some ce.cls ∧ st.WarmedH t.vm ∧ st.sameButNew ({ t with vm := st.vm } : State) L mc ms ∧ ∀ z ∈ L, free z.base
def vx_Q (Qc : Array Value → State → Outcome → State → Prop) (XC : String → State → State → Prop) (mc ms : Nat) (free : Addr → Prop) : Array Value → State → Outcome → State → Prop := fun a st o t =>
  (Qc a st o t ∧ ∃ L, FrameEnd st o t L mc ms ∧ ∀ q ∈ L, free q.base) ∨ ∃ q, o = .threw q ∧ vx_T XC st q t mc ms free
/-- a callee that returns or throws -/
def vx_Met (l : Launch) (y : MethodName) (ws : List Cond) (rm : Room) (Pc : Array Value → State → Prop) (Qc : Array Value → State → Outcome → State → Prop) (XC : String → State → State → Prop) (mc ms : Nat) (free : Addr → Prop) : Prop :=
  MetFree l y (headSpec ws rm) Pc (fun _ _ _ _ _ => True) (vx_Q Qc XC mc ms free)
def vx_Post (XC : String → State → State → Prop) (mc ms : Nat) (free : Addr → Prop) : Pt → Array Value → Addr → Pt → Prop := fun A a q B =>
  ∃ (g : JFrame) (mk : MethodId) (t : State) (L : List Loc) (E : String) (ce : Cell), B.U.heap = t.heap ∧ B.U.vm = t.vm ∧ XC E (A.U.calling g mk a) t ∧ t.heap[q]? = some ce ∧ ce.vm = .none ∧ A.U.vm.findClass E = some ce.cls ∧ B.locs = A.locs ++ L ∧ (∀ z ∈ L, free z.base) ∧ B.cells = A.cells + mc ∧ B.slots = A.slots + ms
def vx_Back (l : Launch) (R : Room) (p : Program) (e : Env) (below : List Frame) (s : State) (sargs : Array Value) (y : MethodName) (len W9 : Nat)
    (Pre : Pt → Array Value → Prop) (Post : Pt → Array Value → Option Value → Pt → Prop) (PostX : Pt → Array Value → Addr → Pt → Prop) : Prop :=
  ∀ (m : MethodId) (meth : Method) (c : Code) (A : Pt) (g : JFrame) (ig : Instr) (mk : MethodId) (a : Array Value),
    Stand p l e R s m sargs below meth c A.U A.locs A.cells A.slots → g.method = m → g.locals.size = c.maxLocals → decode c.code g.pc = .ok (ig, len) →
    2 * g.monitorRoom + (g.stack.map fun v => v.category).sum ≤ W9 → A.U.methodNamed? y = some mk → Pre A a →
    (∃ (v : Option Value) (B : Pt), Stand p l e R s m sargs below meth c B.U B.locs B.cells B.slots ∧ Post A a v B ∧
      Steps p.tables e below (doInvoke e (A.U.setTop g) [] mk a).1 (B.U.setTop { g with pc := g.pc + len, stack := v.toList ++ g.stack })) ∨
    (∃ (q : Addr) (B : Pt), Stand p l e R s m sargs below meth c B.U B.locs B.cells B.slots ∧ PostX A a q B ∧
      Steps p.tables e below (doInvoke e (A.U.setTop g) [] mk a).1 ((B.U.setTop g).pushFrame (.throwing q)))
section Payer
variable {l : Launch} {R : Room} {p : Program} {e : Env} {below : List Frame} {s : State} {sargs : Array Value} {y : MethodName} {len W9 : Nat}
theorem vx_back {ws : List Cond} {rm : Room} {Pc : Array Value → State → Prop} {Qc : Array Value → State → Outcome → State → Prop} {XC : String → State → State → Prop} {mc ms : Nat} {free : Addr → Prop} {bytes : ByteArray} {maxL : Nat} {ret : Option FieldType}
    (hM : vx_Met l y ws rm Pc Qc XC mc ms free) (hblind : FrameBlind Pc) (hrc : rm.cells = mc) (hrs : rm.slots = ms)
    (hframes : rm.frames + 1 ≤ R.frames) (hlocals : W9 + (maxL + 11) + rm.locals ≤ R.locals)
    (hws : ∀ w ∈ ws, ∀ a' U, s.WarmedH U.vm → w.before a' U = true) (hcode : Cond.code y bytes maxL ret ∈ ws) (hinit : ∀ a' U, s.WarmedH U.vm → (Cond.initialized y.cls).before a' U = true) :
    vx_Back l R p e below s sargs y len W9 (PreOf R mc ms Pc) (PostOf Qc mc ms free) (vx_Post XC mc ms free) := by
  intro m meth c A g ig mk a X hg hsize hdg hW hn hp
  have h1 : (headSpec ws rm).pre.before a A.U = true := atoms_intro fun w hw => hws w hw _ _ X.warmed
  have h2 : (Cond.code y bytes maxL ret).before a A.U = true := hws _ hcode _ _ X.warmed
  have h3 : (Cond.initialized y.cls).before a A.U = true := hinit _ _ X.warmed
  have h4 : A.cells + (headSpec ws rm).room.cells ≤ R.cells := by rw [show (headSpec ws rm).room.cells = mc from hrc]; exact hp.1
  have h5 : A.slots + (headSpec ws rm).room.slots ≤ R.slots := by rw [show (headSpec ws rm).room.slots = ms from hrs]; exact hp.2.1
  have hPc : Pc a (A.U.calling g mk a) := hblind _ _ _ _ hp.2.2
  obtain ⟨U, Ls, c0, s0⟩ := A
  dsimp only [Pt.U, Pt.locs, Pt.cells, Pt.slots] at h1 h2 h3 h4 h5 X hn hPc ⊢
  obtain ⟨methY, cY, hmY, hcY, -, hlY, -, -, -, -⟩ := Cond.code_spec hn h2
  obtain ⟨kY, hkY, -⟩ := className_of_methodNamed hn
  have hinitY : kY.init = .initialized := Cond.initialized_spec (findClass_of_methodNamed hn) hkY h3
  have h : At U g.method c below := by rw [hg]; exact X.here
  have hlocals9 : W9 + (maxL + 11) + (headSpec ws rm).room.locals ≤ R.locals := hlocals
  have happ : (headSpec ws rm).appliesLoose y e.platform (U.calling g mk a) = true :=
    Spec.appliesLoose_calling (g := g) h hdg hn hkY hinitY
      (X.room_calling (g := g) (R' := (headSpec ws rm).room) hsize hmY hcY hframes (by rw [hlY]; omega) h4 h5) h1
  obtain ⟨mid, hmid⟩ := h.above
  have hfr : (U.setTop g).frames = (.java g :: mid) ++ below := by rw [State.frames_setTop' g h.top, hmid]; rfl
  obtain ⟨o, s₂, hsteps, -, hend, hq⟩ := Steps.callFree hM p X.admits X.cas X.clock (acts := []) hfr happ hPc trivial
  have hq' : vx_Q Qc XC mc ms free a (U.calling g mk a) o s₂ := hq
  rw [State.frames_setTop' g h.top] at hend
  obtain ⟨g₀, hg0⟩ := Option.isSome_iff_exists.mp h.top
  obtain ⟨r, hr⟩ := State.topJava?_eq_some.mp hg0
  have hr' : (({ U with heap := s₂.heap, slotsUsed := s₂.slotsUsed } : State).setVm s₂.vm).frames = .java g₀ :: r := hr
  rcases hq' with ⟨hqc, L, hfe, hL⟩ | ⟨q, rfl, E, ce, L, hx, hce, hcv, hcl, hW₂, hsm, hL⟩
  · obtain ⟨⟨v, rfl⟩, hW₂, e2, q2, q3, q4, q5, q6⟩ := id hfe
    have e3 : s₂ = ({ (U.calling g mk a).setFrames s₂.frames with heap := s₂.heap, slotsUsed := s₂.slotsUsed } : State).setVm s₂.vm := by
      have : s₂ = ({ s₂ with vm := (U.calling g mk a).vm } : State).setVm s₂.vm := rfl
      rw [e2] at this
      exact this
    obtain ⟨c₂, i₂, len₂, hc₂, hd₂, hf₂⟩ := hend
    have hW' : U.WarmedH s₂.vm := hW₂
    have hcc : c₂ = c := by
      have h1 : s₂.code? g.method = U.code? g.method := by
        rw [State.code?_eq, State.code?_eq, hW'.alike.method?]
      exact Option.some.inj (hc₂.symm.trans (h1.trans h.code))
    subst hcc
    have hlen : len₂ = len := by rw [hdg] at hd₂; cases hd₂; rfl
    subst hlen
    have hs₂ : s₂ = (({ U with heap := s₂.heap, slotsUsed := s₂.slotsUsed } : State).setVm s₂.vm).setTop { g with pc := g.pc + len₂, stack := v.toList ++ g.stack } := by
      refine e3.trans ?_
      rw [hf₂, State.calling_eq h.top, State.setFrames_setFrames, State.setTop_of_frames _ hr', hr]
      rfl
    have hsame : U.sameButNew ({ U with heap := s₂.heap, slotsUsed := s₂.slotsUsed } : State) L mc ms := by
      refine ⟨?_, q2, q3, q4, q5, q6⟩
      obtain ⟨t, ht, -⟩ := State.frames_cons hr
      show ({ U with heap := s₂.heap, slotsUsed := s₂.slotsUsed } : State) = { U.setFrames U.frames with heap := s₂.heap, slotsUsed := s₂.slotsUsed }
      rw [State.setFrames_self ht]
    subst hg
    refine Or.inl ⟨v, ⟨(({ U with heap := s₂.heap, slotsUsed := s₂.slotsUsed } : State).setVm s₂.vm), Ls ++ L, c0 + mc, s0 + ms⟩,
      ⟨X.admits, X.cas, X.clock, X.frames, X.room, X.hears, X.method, X.code, (X.here.setHeapUsed s₂.heap s₂.slotsUsed).setVm hW'.alike, X.tail, State.WarmedH.trans X.warmed hW', X.limits, X.bytes, X.same.trans (hsame.setVm s.vm)⟩,
      ⟨g, mk, s₂, L, rfl, rfl, hqc, rfl, hL, rfl, rfl⟩, ?_⟩
    show Steps p.tables e below _ ((({ U with heap := s₂.heap, slotsUsed := s₂.slotsUsed } : State).setVm s₂.vm).setTop { g with pc := g.pc + len₂, stack := v.toList ++ g.stack })
    rw [← hs₂]
    exact hsteps
  · obtain ⟨e2, q2, q3, q4, q5, q6⟩ := id hsm
    have e3 : s₂ = ({ (U.calling g mk a).setFrames s₂.frames with heap := s₂.heap, slotsUsed := s₂.slotsUsed } : State).setVm s₂.vm := by
      have : s₂ = ({ s₂ with vm := (U.calling g mk a).vm } : State).setVm s₂.vm := rfl
      rw [e2] at this
      exact this
    have hf₂ : s₂.frames = .throwing q :: .java g :: U.frames.tail := hend
    have hW' : U.WarmedH s₂.vm := hW₂
    have hs₂ : s₂ = ((({ U with heap := s₂.heap, slotsUsed := s₂.slotsUsed } : State).setVm s₂.vm).setTop g).pushFrame (.throwing q) := by
      refine e3.trans ?_
      rw [hf₂, State.calling_eq h.top, State.setFrames_setFrames, State.pushFrame, State.frames_setTop _ hr', State.setTop_of_frames _ hr', State.setFrames_setFrames, hr]
      rfl
    have hsame : U.sameButNew ({ U with heap := s₂.heap, slotsUsed := s₂.slotsUsed } : State) L mc ms := by
      refine ⟨?_, q2, q3, q4, q5, q6⟩
      obtain ⟨t, ht, -⟩ := State.frames_cons hr
      show ({ U with heap := s₂.heap, slotsUsed := s₂.slotsUsed } : State) = { U.setFrames U.frames with heap := s₂.heap, slotsUsed := s₂.slotsUsed }
      rw [State.setFrames_self ht]
    subst hg
    refine Or.inr ⟨q, ⟨(({ U with heap := s₂.heap, slotsUsed := s₂.slotsUsed } : State).setVm s₂.vm), Ls ++ L, c0 + mc, s0 + ms⟩,
      ⟨X.admits, X.cas, X.clock, X.frames, X.room, X.hears, X.method, X.code, (X.here.setHeapUsed s₂.heap s₂.slotsUsed).setVm hW'.alike, X.tail, State.WarmedH.trans X.warmed hW', X.limits, X.bytes, X.same.trans (hsame.setVm s.vm)⟩,
      ⟨g, mk, s₂, L, E, ce, rfl, rfl, hx, hce, hcv, hcl, rfl, hL, rfl, rfl⟩, ?_⟩
    show Steps p.tables e below _ (((({ U with heap := s₂.heap, slotsUsed := s₂.slotsUsed } : State).setVm s₂.vm).setTop g).pushFrame (.throwing q))
    rw [← hs₂]
    exact hsteps
end Payer
section Calls
variable {p : Program} {l : Launch} {e : Env} {R : Room} {s : State} {m : MethodId} {args : Array Value} {below : List Frame} {meth : Method} {c : Code} {T : State} {locs : List Loc} {cells slots : Nat}
theorem vx_callV (X : Stand p l e R s m args below meth c T locs cells slots) (hexec : p.tables.exec = Jvm.exec) {own C : String} {index : Nat} {y : MethodName} {bytes : ByteArray} {maxL : Nat} {ret : Option FieldType}
    (hown : s.vm.findClass own = some m.cls) (hlink : (Cond.methodLink own index y).before args s = true) (hinst : (Cond.instanceMethod y).before args s = true) (hsel : (Cond.selects C y y).before args s = true)
    (hcode : (Cond.code y bytes maxL ret).before args s = true) (hy : y.cls ≠ "java/lang/invoke/MethodHandle" ∧ y.cls ≠ "java/lang/invoke/VarHandle")
    {W9 : Nat} {Pre : Pt → Array Value → Prop} {Post : Pt → Array Value → Option Value → Pt → Prop} {PostX : Pt → Array Value → Addr → Pt → Prop} (hK : vx_Back l R p e below s args y 3 W9 Pre Post PostX)
    {b : Addr} {cellB : Cell} (hcell : T.heap[b]? = some cellB) (hobj : cellB.vm.isStatics = false) (hcls : s.vm.findClass C = some cellB.cls)
    {g : JFrame} (hg : g.method = m) (hsize : g.locals.size = c.maxLocals) {argsL rest : List Value} (hlen : ∀ sig, parseMethodDescriptor y.desc = some sig → argsL.length = sig.parameters.length)
    (hstack : g.stack = argsL.reverse ++ .ref b :: rest) (hW : 2 * g.monitorRoom + (rest.map fun v => v.category).sum ≤ W9) (hdg : decode c.code g.pc = .ok (.invokevirtual index, 3))
    (hpre : ∀ vm₁, s.WarmedH vm₁ → Pre ⟨T.setVm vm₁, locs, cells, slots⟩ (Value.ref b :: argsL).toArray) :
    (∃ (v : Option Value) (vm₁ : Vm) (B : Pt), s.WarmedH vm₁ ∧ Stand p l e R s m args below meth c B.U B.locs B.cells B.slots ∧ Post ⟨T.setVm vm₁, locs, cells, slots⟩ (Value.ref b :: argsL).toArray v B ∧
      ∀ target, Steps p.tables e below (B.U.setTop { g with pc := g.pc + 3, stack := v.toList ++ rest }) target → Steps p.tables e below (T.setTop g) target) ∨
    (∃ (q : Addr) (vm₁ : Vm) (B : Pt), s.WarmedH vm₁ ∧ Stand p l e R s m args below meth c B.U B.locs B.cells B.slots ∧ PostX ⟨T.setVm vm₁, locs, cells, slots⟩ (Value.ref b :: argsL).toArray q B ∧
      Steps p.tables e below (T.setTop g) ((B.U.setTop { g with stack := rest }).pushFrame (.throwing q))) := by
  obtain ⟨mk, methM, hnamed, hmethM, hstM, habM⟩ := Cond.instanceMethod_spec hinst
  obtain ⟨methM', cM, hmethM', -, -, -, -, -, -, hsigM⟩ := Cond.code_spec hnamed hcode
  cases hmethM.symm.trans hmethM'
  obtain ⟨c2, r2, m2, q1, q2, q3, q4, kP, hkP, hkPi⟩ := Cond.selects_spec hsel
  cases hcls.symm.trans q1
  cases (State.methodFound?_of_named hnamed hy).symm.trans q2
  cases hnamed.symm.trans q3
  have hselP : selectMethod e.platform s.vm cellB.cls mk = .method mk := by rw [Launch.admits_selectMethod X.admits]; exact q4
  obtain ⟨vm₁, X₁, hstep₁⟩ := X.invokevirtual hexec hown hlink hnamed hmethM hstM hkP hkPi hy (a := b) (cell := cellB) hcell
    (fun z h => by rw [h] at hobj; cases hobj) hselP hmethM habM hkP hkPi (g := g) hg (argsL := argsL) (rest := rest) (hlen _ hsigM) hstack hdg
  rcases hK m meth c ⟨T.setVm vm₁, locs, cells, slots⟩ { g with stack := rest } (.invokevirtual index) mk (Value.ref b :: argsL).toArray X₁ hg hsize hdg hW (X₁.named hnamed) (hpre vm₁ X₁.warmed) with ⟨v, B, X', hpost, hsteps⟩ | ⟨q, B, X', hpost, hsteps⟩
  · exact Or.inl ⟨v, vm₁, B, X₁.warmed, X', hpost, fun target h => hstep₁ _ fun acts => by rw [doInvoke_state]; exact hsteps.trans h⟩
  · exact Or.inr ⟨q, vm₁, B, X₁.warmed, X', hpost, hstep₁ _ fun acts => by rw [doInvoke_state]; exact hsteps⟩
theorem vx_callS (X : Stand p l e R s m args below meth c T locs cells slots) (hexec : p.tables.exec = Jvm.exec) {own : String} {index : Nat} {y : MethodName} {bytes : ByteArray} {maxL : Nat} {ret : Option FieldType}
    (hown : s.vm.findClass own = some m.cls) (hlink : (Cond.methodLink own index y).before args s = true) (hstat : (Cond.static y).before args s = true) (hinit : (Cond.initialized y.cls).before args s = true)
    (hcode : (Cond.code y bytes maxL ret).before args s = true) (hy : y.cls ≠ "java/lang/invoke/MethodHandle" ∧ y.cls ≠ "java/lang/invoke/VarHandle")
    {W9 : Nat} {Pre : Pt → Array Value → Prop} {Post : Pt → Array Value → Option Value → Pt → Prop} {PostX : Pt → Array Value → Addr → Pt → Prop} (hK : vx_Back l R p e below s args y 3 W9 Pre Post PostX)
    {g : JFrame} (hg : g.method = m) (hsize : g.locals.size = c.maxLocals) {argsL rest : List Value} (hlen : ∀ sig, parseMethodDescriptor y.desc = some sig → argsL.length = sig.parameters.length)
    (hstack : g.stack = argsL.reverse ++ rest) (hW : 2 * g.monitorRoom + (rest.map fun v => v.category).sum ≤ W9) (hdg : decode c.code g.pc = .ok (.invokestatic index, 3))
    (hpre : ∀ vm₁, s.WarmedH vm₁ → Pre ⟨T.setVm vm₁, locs, cells, slots⟩ argsL.toArray) :
    (∃ (v : Option Value) (vm₁ : Vm) (B : Pt), s.WarmedH vm₁ ∧ Stand p l e R s m args below meth c B.U B.locs B.cells B.slots ∧ Post ⟨T.setVm vm₁, locs, cells, slots⟩ argsL.toArray v B ∧
      ∀ target, Steps p.tables e below (B.U.setTop { g with pc := g.pc + 3, stack := v.toList ++ rest }) target → Steps p.tables e below (T.setTop g) target) ∨
    (∃ (q : Addr) (vm₁ : Vm) (B : Pt), s.WarmedH vm₁ ∧ Stand p l e R s m args below meth c B.U B.locs B.cells B.slots ∧ PostX ⟨T.setVm vm₁, locs, cells, slots⟩ argsL.toArray q B ∧
      Steps p.tables e below (T.setTop g) ((B.U.setTop { g with stack := rest }).pushFrame (.throwing q))) := by
  obtain ⟨mk, hnamed⟩ := Cond.code_named hcode
  obtain ⟨methM, cM, hmethM, -, -, -, -, -, -, hsigM⟩ := Cond.code_spec hnamed hcode
  have hstatic : methM.isStatic = true := Cond.static_spec hnamed hmethM hstat
  obtain ⟨kP, hkP, -⟩ := className_of_methodNamed hnamed
  have hinitP : kP.init = .initialized := Cond.initialized_spec (findClass_of_methodNamed hnamed) hkP hinit
  obtain ⟨vm₁, X₁, hstep₁⟩ := X.invokestatic hexec hown hlink hnamed hmethM hstatic hkP hinitP hy (g := g) hg (argsL := argsL) (rest := rest) (hlen _ hsigM) hstack hdg
  rcases hK m meth c ⟨T.setVm vm₁, locs, cells, slots⟩ { g with stack := rest } (.invokestatic index) mk argsL.toArray X₁ hg hsize hdg hW (X₁.named hnamed) (hpre vm₁ X₁.warmed) with ⟨v, B, X', hpost, hsteps⟩ | ⟨q, B, X', hpost, hsteps⟩
  · exact Or.inl ⟨v, vm₁, B, X₁.warmed, X', hpost, fun target h => hstep₁ _ fun acts => by rw [doInvoke_state]; exact hsteps.trans h⟩
  · exact Or.inr ⟨q, vm₁, B, X₁.warmed, X', hpost, hstep₁ _ fun acts => by rw [doInvoke_state]; exact hsteps⟩
end Calls
theorem vx_cls {s : State} {T : State} {vm₁ : Vm} {E : String} {k : ClassId} (hW : s.WarmedH vm₁) (h : (T.setVm vm₁).vm.findClass E = some k) : s.vm.findClass E = some k := by
  have h1 : vm₁.findClass E = some k := h
  rw [hW.alike.findClass] at h1
  exact h1
/-- the method's frame g, with q thrown over it -/
def vx_W (p : Program) (l : Launch) (e : Env) (R : Room) (s : State) (m : MethodId) (args : Array Value) (below : List Frame) (meth : Method) (c : Code) (H : Heap) (locs : List Loc) (cells slots : Nat) (Q : State → Prop) (g : JFrame) (q : Addr) : Prop :=
  ∀ T : State, T.heap = H → Stand p l e R s m args below meth c T locs cells slots → ∃ t, Steps p.tables e below ((T.setTop g).pushFrame (.throwing q)) t ∧ Q t
def vx_Run (p : Program) (l : Launch) (e : Env) (R : Room) (s : State) (m : MethodId) (args : Array Value) (below : List Frame) (meth : Method) (c : Code) (H : Heap) (locs : List Loc) (cells slots mc ms : Nat) (g : JFrame) (rest : List Value) (Qa : State → Outcome → State → Prop) (XC : String → State → State → Prop) (free : Addr → Prop) : Prop :=
  ∀ T : State, T.heap = H → Stand p l e R s m args below meth c T locs cells slots →
    (∃ (v : Option Value) (st₀ t T' : State) (L : List Loc), st₀.heap = H ∧ Stand p l e R s m args below meth c T' (locs ++ L) (cells + mc) (slots + ms) ∧ (∀ q ∈ L, free q.base) ∧ T'.heap = t.heap ∧ T'.vm = t.vm ∧ Qa st₀ (.returned v) t ∧
      Goes p e below T g T' { g with pc := g.pc + 3, stack := v.toList ++ rest }) ∨
    (∃ (q : Addr) (st₀ t T' : State) (L : List Loc) (E : String) (ce : Cell), st₀.heap = H ∧ Stand p l e R s m args below meth c T' (locs ++ L) (cells + mc) (slots + ms) ∧ (∀ z ∈ L, free z.base) ∧ T'.heap = t.heap ∧ T'.vm = t.vm ∧ XC E st₀ t ∧ t.heap[q]? = some ce ∧ ce.vm = .none ∧ s.vm.findClass E = some ce.cls ∧
      Steps p.tables e below (T.setTop g) ((T'.setTop { g with stack := rest }).pushFrame (.throwing q)))
def vx_X {S : Type} (px : S → Prop) (B : String → S → State → Prop) (A : Nat → Prop) : String → State → State → Prop := fun E st t => ∃ u : S, px u ∧ B E u t ∧ va_F A st t
section Runs
variable {p : Program} {l : Launch} {e : Env} {R : Room} {s : State} {m : MethodId} {args : Array Value} {below : List Frame} {meth : Method} {c : Code} {H : Heap} {locs : List Loc} {cells slots : Nat}
variable {y : MethodName} {bytes cc : ByteArray} {maxL nL mc ms n index : Nat} {ret : Option FieldType} {ws : List Cond} {rm : Room} {Pc : Array Value → State → Prop} {Qc : Array Value → State → Outcome → State → Prop} {XC : String → State → State → Prop} {free : Addr → Prop} {Ts : List Cond} {own C : String} {b : Addr} {As rest : List Value} {g : JFrame}
theorem vx_callBack (cb : CallB R s args own index y bytes maxL ret ws rm mc ms n) (hM : vx_Met l y ws rm Pc Qc XC mc ms free) (hbl : FrameBlind Pc) : vx_Back l R p e below s args y 3 8 (PreOf R mc ms Pc) (PostOf Qc mc ms free) (vx_Post XC mc ms free) := by
  obtain ⟨hrc, hrs, hfr, hlo, hws, hcw, -, hini, -⟩ := cb
  exact vx_back (bytes := bytes) (maxL := maxL) (ret := ret) hM hbl hrc hrs hfr hlo hws hcw (fun a' U hW => word_at hW (Or.inl (by first | rfl | simp [Cond.onTables, Cond.keeps, Cond.steady])) hini)
theorem vx_runV (S : CallFix p m c cc nL s args Ts own) (hM : vx_Met l y ws rm Pc Qc XC mc ms free) (cw : CallW R s args own C index y bytes maxL ret ws rm mc ms n) (hp : PreV s H C b Pc As)
    (hg : g.method = m) (hn : As.length = n) (hsize : g.locals.size = nL) (hstack : g.stack = As.reverse ++ .ref b :: rest) (hW : 2 * g.monitorRoom + (rest.map fun v => v.category).sum ≤ 8) (hdg : decode cc g.pc = .ok (.invokevirtual index, 3)) (hf : cells + mc ≤ R.cells ∧ slots + ms ≤ R.slots) :
    vx_Run p l e R s m args below meth c H locs cells slots mc ms g rest (Qc (Value.ref b :: As).toArray) XC free := by
  have hK : vx_Back l R p e below s args y 3 8 (PreOf R mc ms Pc) (PostOf Qc mc ms free) (vx_Post XC mc ms free) := vx_callBack cw.1 hM hp.1
  obtain ⟨⟨-, -, -, -, -, -, hcode, -, hy, hlen, hl⟩, hin, hse⟩ := cw
  obtain ⟨hx, hb, hml, ho, -⟩ := S
  obtain ⟨-, ⟨cellB, hcB, hoB, hclB⟩, hPc⟩ := hp
  intro T hT X
  rcases vx_callV X hx (C := C) (bytes := bytes) (maxL := maxL) (ret := ret) ho hl hin hse hcode hy hK (by rw [hT]; exact hcB) hoB hclB hg (hsize.trans hml.symm) (argsL := As) (rest := rest) (fun sig h => hn.trans (hlen sig h)) hstack hW (by rw [hb]; exact hdg)
    (fun vm₁ hW₁ => ⟨hf.1, hf.2, hPc (T.setVm vm₁) hT hW₁⟩) with ⟨v, vm₁, ⟨U', l2, c2, s2⟩, hW₁, X', ⟨g', mk, t, L, e1, e2, hq, h1, hL, h2, h3⟩, st⟩ | ⟨q, vm₁, ⟨U', l2, c2, s2⟩, hW₁, X', ⟨g', mk, t, L, E, ce, e1, e2, hq, hce, hcv, hcl, h1, hL, h2, h3⟩, st⟩
  · dsimp only [Pt.U, Pt.locs, Pt.cells, Pt.slots] at X' e1 e2 h1 h2 h3 st
    subst h1; subst h2; subst h3
    exact Or.inl ⟨v, (T.setVm vm₁).calling g' mk (Value.ref b :: As).toArray, t, U', L, hT, X', hL, e1, e2, hq, st⟩
  · dsimp only [Pt.U, Pt.locs, Pt.cells, Pt.slots] at X' e1 e2 h1 h2 h3 st hcl
    subst h1; subst h2; subst h3
    exact Or.inr ⟨q, (T.setVm vm₁).calling g' mk (Value.ref b :: As).toArray, t, U', L, E, ce, hT, X', hL, e1, e2, hq, hce, hcv, vx_cls hW₁ hcl, st⟩
theorem vx_runS (S : CallFix p m c cc nL s args Ts own) (hM : vx_Met l y ws rm Pc Qc XC mc ms free) (cw : CallB R s args own index y bytes maxL ret ws rm mc ms n ∧ (Cond.static y).before args s = true) (hp : PreS s H Pc As)
    (hg : g.method = m) (hn : As.length = n) (hsize : g.locals.size = nL) (hstack : g.stack = As.reverse ++ rest) (hW : 2 * g.monitorRoom + (rest.map fun v => v.category).sum ≤ 8) (hdg : decode cc g.pc = .ok (.invokestatic index, 3)) (hf : cells + mc ≤ R.cells ∧ slots + ms ≤ R.slots) :
    vx_Run p l e R s m args below meth c H locs cells slots mc ms g rest (Qc As.toArray) XC free := by
  have hK : vx_Back l R p e below s args y 3 8 (PreOf R mc ms Pc) (PostOf Qc mc ms free) (vx_Post XC mc ms free) := vx_callBack cw.1 hM hp.1
  obtain ⟨⟨-, -, -, -, -, -, hcode, hini, hy, hlen, hl⟩, hstt⟩ := cw
  obtain ⟨hx, hb, hml, ho, -⟩ := S
  intro T hT X
  rcases vx_callS X hx (bytes := bytes) (maxL := maxL) (ret := ret) ho hl hstt hini hcode hy hK hg (hsize.trans hml.symm) (argsL := As) (rest := rest) (fun sig h => hn.trans (hlen sig h)) hstack hW (by rw [hb]; exact hdg)
    (fun vm₁ hW₁ => ⟨hf.1, hf.2, hp.2 (T.setVm vm₁) hT hW₁⟩) with ⟨v, vm₁, ⟨U', l2, c2, s2⟩, hW₁, X', ⟨g', mk, t, L, e1, e2, hq, h1, hL, h2, h3⟩, st⟩ | ⟨q, vm₁, ⟨U', l2, c2, s2⟩, hW₁, X', ⟨g', mk, t, L, E, ce, e1, e2, hq, hce, hcv, hcl, h1, hL, h2, h3⟩, st⟩
  · dsimp only [Pt.U, Pt.locs, Pt.cells, Pt.slots] at X' e1 e2 h1 h2 h3 st
    subst h1; subst h2; subst h3
    exact Or.inl ⟨v, (T.setVm vm₁).calling g' mk As.toArray, t, U', L, hT, X', hL, e1, e2, hq, st⟩
  · dsimp only [Pt.U, Pt.locs, Pt.cells, Pt.slots] at X' e1 e2 h1 h2 h3 st hcl
    subst h1; subst h2; subst h3
    exact Or.inr ⟨q, (T.setVm vm₁).calling g' mk As.toArray, t, U', L, E, ce, hT, X', hL, e1, e2, hq, hce, hcv, vx_cls hW₁ hcl, st⟩
end Runs
section Rows
variable {p : Program} {l : Launch} {e : Env} {R : Room} {s : State} {m : MethodId} {args : Array Value} {below : List Frame} {meth : Method} {c : Code} {H : Heap} {locs : List Loc} {cells slots : Nat} {Q : State → Prop}
variable {mc ms : Nat} {free : Addr → Prop} {A0 A1 : Nat → Prop} {H0 : Heap} {a : Array Value} {pc : Nat} {ls : Array Slot} {st0 rest : List Value}
theorem vx_keep {st₀ t T' : State} {L : List Loc} (h0 : st₀.heap = H) (e1 : T'.heap = t.heap) (hS : va_S A0 H0 H locs) (hA : ∀ q, q < H.size → A1 q → A0 q) (hf : ∀ q, free q → A0 q) (hL : ∀ q ∈ L, free q.base) (hF : va_F A1 st₀ t) :
    H.size ≤ T'.heap.size ∧ (∀ q : Nat, q < H.size → ¬ A1 q → T'.heap[q]? = H[q]?) ∧ va_S A0 H0 T'.heap (locs ++ L) := by
  obtain ⟨hz, hk⟩ := hF
  rw [h0] at hz hk
  exact ⟨by rw [e1]; exact hz, fun q h1 h2 => by rw [e1]; exact hk q h1 h2,
    ⟨Nat.le_trans hS.1 (by rw [e1]; exact hz), fun q h1 h2 => by rw [e1, hk q (Nat.lt_of_lt_of_le h1 hS.1) (fun z => h2 (hA q (Nat.lt_of_lt_of_le h1 hS.1) z))]; exact hS.2.1 q h1 h2, fun q hq => by
      rcases List.mem_append.mp hq with h | h
      · exact hS.2.2 q h
      · exact hf _ (hL q h)⟩⟩
theorem vx_calli {S SX : Type} {post : Int32 → S → Prop} {px : SX → Prop} {B : S → State → Prop} {BX : String → SX → State → Prop} {AX : Nat → Prop} (hr : vx_Run p l e R s m args below meth c H locs cells slots mc ms (F0 m pc ls st0) rest (va_Qi post B A1 a) (vx_X px BX AX) free) (hS : va_S A0 H0 H locs) (hA : ∀ q, q < H.size → A1 q → A0 q) (hf : ∀ q, free q → A0 q) (hAX : ∀ q, q < H.size → AX q → A0 q)
    (kx : ∀ (E : String) (ce : Cell) (q9 : Addr) (u : SX) (t : State) (H1 : Heap) (locs1 : List Loc), t.heap = H1 → s.vm.Alike t.vm → px u → BX E u t → H.size ≤ H1.size → (∀ q : Nat, q < H.size → ¬ AX q → H1[q]? = H[q]?) → va_S A0 H0 H1 locs1 → H1[q9]? = some ce → ce.vm = .none → s.vm.findClass E = some ce.cls → vx_W p l e R s m args below meth c H1 locs1 (cells + mc) (slots + ms) Q (F0 m pc ls rest) q9)
    (kk : ∀ (r : Int32) (u : S) (t : State) (H1 : Heap) (locs1 : List Loc), t.heap = H1 → s.vm.Alike t.vm → post r u → B u t → H.size ≤ H1.size → (∀ q : Nat, q < H.size → ¬ A1 q → H1[q]? = H[q]?) → va_S A0 H0 H1 locs1 → W p l e R s m args below meth c H1 locs1 (cells + mc) (slots + ms) Q (F0 m (pc + 3) ls (.int r :: rest))) : W p l e R s m args below meth c H locs cells slots Q (F0 m pc ls st0) := by
  intro T hT X
  rcases hr T hT X with ⟨v, st₀, t, T', L, h0, X', hL, e1, e2, ⟨⟨r, u, hv, hp, hb⟩, hF⟩, st⟩ | ⟨q, st₀, t, T', L, E, ce, h0, X', hL, e1, e2, ⟨u, hp, hb, hF⟩, hce, hcv, hcl, st⟩
  · cases hv
    obtain ⟨k1, k2, k3⟩ := vx_keep h0 e1 hS hA hf hL hF
    obtain ⟨t2, a1, b1⟩ := kk r u t T'.heap (locs ++ L) e1.symm (by rw [← e2]; exact X'.warmed.alike) hp hb k1 k2 k3 T' rfl X'
    exact ⟨t2, st t2 a1, b1⟩
  · obtain ⟨k1, k2, k3⟩ := vx_keep h0 e1 hS hAX hf hL hF
    obtain ⟨t2, a1, b1⟩ := kx E ce q u t T'.heap (locs ++ L) e1.symm (by rw [← e2]; exact X'.warmed.alike) hp hb k1 k2 k3 (by rw [e1]; exact hce) hcv hcl T' rfl X'
    exact ⟨t2, st.trans a1, b1⟩
theorem vx_calll {S SX : Type} {post : Int64 → S → Prop} {px : SX → Prop} {B : S → State → Prop} {BX : String → SX → State → Prop} {AX : Nat → Prop} (hr : vx_Run p l e R s m args below meth c H locs cells slots mc ms (F0 m pc ls st0) rest (va_Ql post B A1 a) (vx_X px BX AX) free) (hS : va_S A0 H0 H locs) (hA : ∀ q, q < H.size → A1 q → A0 q) (hf : ∀ q, free q → A0 q) (hAX : ∀ q, q < H.size → AX q → A0 q)
    (kx : ∀ (E : String) (ce : Cell) (q9 : Addr) (u : SX) (t : State) (H1 : Heap) (locs1 : List Loc), t.heap = H1 → s.vm.Alike t.vm → px u → BX E u t → H.size ≤ H1.size → (∀ q : Nat, q < H.size → ¬ AX q → H1[q]? = H[q]?) → va_S A0 H0 H1 locs1 → H1[q9]? = some ce → ce.vm = .none → s.vm.findClass E = some ce.cls → vx_W p l e R s m args below meth c H1 locs1 (cells + mc) (slots + ms) Q (F0 m pc ls rest) q9)
    (kk : ∀ (r : Int64) (u : S) (t : State) (H1 : Heap) (locs1 : List Loc), t.heap = H1 → s.vm.Alike t.vm → post r u → B u t → H.size ≤ H1.size → (∀ q : Nat, q < H.size → ¬ A1 q → H1[q]? = H[q]?) → va_S A0 H0 H1 locs1 → W p l e R s m args below meth c H1 locs1 (cells + mc) (slots + ms) Q (F0 m (pc + 3) ls (.long r :: rest))) : W p l e R s m args below meth c H locs cells slots Q (F0 m pc ls st0) := by
  intro T hT X
  rcases hr T hT X with ⟨v, st₀, t, T', L, h0, X', hL, e1, e2, ⟨⟨r, u, hv, hp, hb⟩, hF⟩, st⟩ | ⟨q, st₀, t, T', L, E, ce, h0, X', hL, e1, e2, ⟨u, hp, hb, hF⟩, hce, hcv, hcl, st⟩
  · cases hv
    obtain ⟨k1, k2, k3⟩ := vx_keep h0 e1 hS hA hf hL hF
    obtain ⟨t2, a1, b1⟩ := kk r u t T'.heap (locs ++ L) e1.symm (by rw [← e2]; exact X'.warmed.alike) hp hb k1 k2 k3 T' rfl X'
    exact ⟨t2, st t2 a1, b1⟩
  · obtain ⟨k1, k2, k3⟩ := vx_keep h0 e1 hS hAX hf hL hF
    obtain ⟨t2, a1, b1⟩ := kx E ce q u t T'.heap (locs ++ L) e1.symm (by rw [← e2]; exact X'.warmed.alike) hp hb k1 k2 k3 (by rw [e1]; exact hce) hcv hcl T' rfl X'
    exact ⟨t2, st.trans a1, b1⟩
theorem vx_callf {S SX : Type} {post : UInt32 → S → Prop} {px : SX → Prop} {B : S → State → Prop} {BX : String → SX → State → Prop} {AX : Nat → Prop} (hr : vx_Run p l e R s m args below meth c H locs cells slots mc ms (F0 m pc ls st0) rest (va_Qf post B A1 a) (vx_X px BX AX) free) (hS : va_S A0 H0 H locs) (hA : ∀ q, q < H.size → A1 q → A0 q) (hf : ∀ q, free q → A0 q) (hAX : ∀ q, q < H.size → AX q → A0 q)
    (kx : ∀ (E : String) (ce : Cell) (q9 : Addr) (u : SX) (t : State) (H1 : Heap) (locs1 : List Loc), t.heap = H1 → s.vm.Alike t.vm → px u → BX E u t → H.size ≤ H1.size → (∀ q : Nat, q < H.size → ¬ AX q → H1[q]? = H[q]?) → va_S A0 H0 H1 locs1 → H1[q9]? = some ce → ce.vm = .none → s.vm.findClass E = some ce.cls → vx_W p l e R s m args below meth c H1 locs1 (cells + mc) (slots + ms) Q (F0 m pc ls rest) q9)
    (kk : ∀ (r : UInt32) (u : S) (t : State) (H1 : Heap) (locs1 : List Loc), t.heap = H1 → s.vm.Alike t.vm → post r u → B u t → H.size ≤ H1.size → (∀ q : Nat, q < H.size → ¬ A1 q → H1[q]? = H[q]?) → va_S A0 H0 H1 locs1 → W p l e R s m args below meth c H1 locs1 (cells + mc) (slots + ms) Q (F0 m (pc + 3) ls (.float r :: rest))) : W p l e R s m args below meth c H locs cells slots Q (F0 m pc ls st0) := by
  intro T hT X
  rcases hr T hT X with ⟨v, st₀, t, T', L, h0, X', hL, e1, e2, ⟨⟨r, u, hv, hp, hb⟩, hF⟩, st⟩ | ⟨q, st₀, t, T', L, E, ce, h0, X', hL, e1, e2, ⟨u, hp, hb, hF⟩, hce, hcv, hcl, st⟩
  · cases hv
    obtain ⟨k1, k2, k3⟩ := vx_keep h0 e1 hS hA hf hL hF
    obtain ⟨t2, a1, b1⟩ := kk r u t T'.heap (locs ++ L) e1.symm (by rw [← e2]; exact X'.warmed.alike) hp hb k1 k2 k3 T' rfl X'
    exact ⟨t2, st t2 a1, b1⟩
  · obtain ⟨k1, k2, k3⟩ := vx_keep h0 e1 hS hAX hf hL hF
    obtain ⟨t2, a1, b1⟩ := kx E ce q u t T'.heap (locs ++ L) e1.symm (by rw [← e2]; exact X'.warmed.alike) hp hb k1 k2 k3 (by rw [e1]; exact hce) hcv hcl T' rfl X'
    exact ⟨t2, st.trans a1, b1⟩
theorem vx_calld {S SX : Type} {post : UInt64 → S → Prop} {px : SX → Prop} {B : S → State → Prop} {BX : String → SX → State → Prop} {AX : Nat → Prop} (hr : vx_Run p l e R s m args below meth c H locs cells slots mc ms (F0 m pc ls st0) rest (va_Qd post B A1 a) (vx_X px BX AX) free) (hS : va_S A0 H0 H locs) (hA : ∀ q, q < H.size → A1 q → A0 q) (hf : ∀ q, free q → A0 q) (hAX : ∀ q, q < H.size → AX q → A0 q)
    (kx : ∀ (E : String) (ce : Cell) (q9 : Addr) (u : SX) (t : State) (H1 : Heap) (locs1 : List Loc), t.heap = H1 → s.vm.Alike t.vm → px u → BX E u t → H.size ≤ H1.size → (∀ q : Nat, q < H.size → ¬ AX q → H1[q]? = H[q]?) → va_S A0 H0 H1 locs1 → H1[q9]? = some ce → ce.vm = .none → s.vm.findClass E = some ce.cls → vx_W p l e R s m args below meth c H1 locs1 (cells + mc) (slots + ms) Q (F0 m pc ls rest) q9)
    (kk : ∀ (r : UInt64) (u : S) (t : State) (H1 : Heap) (locs1 : List Loc), t.heap = H1 → s.vm.Alike t.vm → post r u → B u t → H.size ≤ H1.size → (∀ q : Nat, q < H.size → ¬ A1 q → H1[q]? = H[q]?) → va_S A0 H0 H1 locs1 → W p l e R s m args below meth c H1 locs1 (cells + mc) (slots + ms) Q (F0 m (pc + 3) ls (.double r :: rest))) : W p l e R s m args below meth c H locs cells slots Q (F0 m pc ls st0) := by
  intro T hT X
  rcases hr T hT X with ⟨v, st₀, t, T', L, h0, X', hL, e1, e2, ⟨⟨r, u, hv, hp, hb⟩, hF⟩, st⟩ | ⟨q, st₀, t, T', L, E, ce, h0, X', hL, e1, e2, ⟨u, hp, hb, hF⟩, hce, hcv, hcl, st⟩
  · cases hv
    obtain ⟨k1, k2, k3⟩ := vx_keep h0 e1 hS hA hf hL hF
    obtain ⟨t2, a1, b1⟩ := kk r u t T'.heap (locs ++ L) e1.symm (by rw [← e2]; exact X'.warmed.alike) hp hb k1 k2 k3 T' rfl X'
    exact ⟨t2, st t2 a1, b1⟩
  · obtain ⟨k1, k2, k3⟩ := vx_keep h0 e1 hS hAX hf hL hF
    obtain ⟨t2, a1, b1⟩ := kx E ce q u t T'.heap (locs ++ L) e1.symm (by rw [← e2]; exact X'.warmed.alike) hp hb k1 k2 k3 (by rw [e1]; exact hce) hcv hcl T' rfl X'
    exact ⟨t2, st.trans a1, b1⟩
theorem vx_callv {S SX : Type} {post : S → Prop} {px : SX → Prop} {B : S → State → Prop} {BX : String → SX → State → Prop} {AX : Nat → Prop} (hr : vx_Run p l e R s m args below meth c H locs cells slots mc ms (F0 m pc ls st0) rest (va_Qv post B A1 a) (vx_X px BX AX) free) (hS : va_S A0 H0 H locs) (hA : ∀ q, q < H.size → A1 q → A0 q) (hf : ∀ q, free q → A0 q) (hAX : ∀ q, q < H.size → AX q → A0 q)
    (kx : ∀ (E : String) (ce : Cell) (q9 : Addr) (u : SX) (t : State) (H1 : Heap) (locs1 : List Loc), t.heap = H1 → s.vm.Alike t.vm → px u → BX E u t → H.size ≤ H1.size → (∀ q : Nat, q < H.size → ¬ AX q → H1[q]? = H[q]?) → va_S A0 H0 H1 locs1 → H1[q9]? = some ce → ce.vm = .none → s.vm.findClass E = some ce.cls → vx_W p l e R s m args below meth c H1 locs1 (cells + mc) (slots + ms) Q (F0 m pc ls rest) q9)
    (kk : ∀ (u : S) (t : State) (H1 : Heap) (locs1 : List Loc), t.heap = H1 → s.vm.Alike t.vm → post u → B u t → H.size ≤ H1.size → (∀ q : Nat, q < H.size → ¬ A1 q → H1[q]? = H[q]?) → va_S A0 H0 H1 locs1 → W p l e R s m args below meth c H1 locs1 (cells + mc) (slots + ms) Q (F0 m (pc + 3) ls (rest))) : W p l e R s m args below meth c H locs cells slots Q (F0 m pc ls st0) := by
  intro T hT X
  rcases hr T hT X with ⟨v, st₀, t, T', L, h0, X', hL, e1, e2, ⟨⟨u, hv, hp, hb⟩, hF⟩, st⟩ | ⟨q, st₀, t, T', L, E, ce, h0, X', hL, e1, e2, ⟨u, hp, hb, hF⟩, hce, hcv, hcl, st⟩
  · cases hv
    obtain ⟨k1, k2, k3⟩ := vx_keep h0 e1 hS hA hf hL hF
    obtain ⟨t2, a1, b1⟩ := kk u t T'.heap (locs ++ L) e1.symm (by rw [← e2]; exact X'.warmed.alike) hp hb k1 k2 k3 T' rfl X'
    exact ⟨t2, st t2 a1, b1⟩
  · obtain ⟨k1, k2, k3⟩ := vx_keep h0 e1 hS hAX hf hL hF
    obtain ⟨t2, a1, b1⟩ := kx E ce q u t T'.heap (locs ++ L) e1.symm (by rw [← e2]; exact X'.warmed.alike) hp hb k1 k2 k3 (by rw [e1]; exact hce) hcv hcl T' rfl X'
    exact ⟨t2, st.trans a1, b1⟩
/-- caught by the row x of this method's table; the rows ahead don't take it -/
theorem vx_catch {own name : String} {E : String} {ce : Cell} {q : Addr} (hown : s.vm.findClass own = some m.cls) (pre : List ExceptionTableEntry) (x : ExceptionTableEntry) (suf : List ExceptionTableEntry) (hsplit : c.exceptionTable.toList = pre ++ x :: suf)
    (hpass : ∀ z ∈ pre, covers z pc = false ∨ (z.catchType ≠ 0 ∧ ∃ nm : String, (Cond.classLink own z.catchType nm).before args s = true ∧ va_Nc E nm s)) (hx : covers x pc = true) (h0 : x.catchType ≠ 0)
    (hlink : (Cond.classLink own x.catchType name).before args s = true) (hcast : (Cond.castable E name).before args s = true) (hcell : H[q]? = some ce) (hv : ce.vm = .none) (hcl : s.vm.findClass E = some ce.cls)
    (kk : W p l e R s m args below meth c H locs cells slots Q (F0 m x.handlerPc ls [.ref q])) : vx_W p l e R s m args below meth c H locs cells slots Q (F0 m pc ls rest) q := by
  intro T hT X
  have hpl : e.platform.magicAccessors = ({} : Platform).magicAccessors := by rw [X.admits.platform]
  obtain ⟨c3, c4, hc3, hc4, hasg⟩ := Cond.castable_spec hcast
  cases Option.some.inj (hc3.symm.trans hcl)
  obtain ⟨c5, hc5, hcl5⟩ := Cond.classLink_spec hown hlink e.platform hpl
  cases Option.some.inj (hc4.symm.trans hc5)
  obtain ⟨vm', X', st⟩ := X.thenCaughtThrough q (g := F0 m pc ls rest) rfl (Steps.refl _) (by rw [hT]; exact hcell) (by rw [hv]; rfl) (by obtain ⟨k9, h9, -⟩ := Vm.findClass_spec hcl; exact ⟨k9, h9⟩) pre x suf hsplit
    (fun z hz => by
      rcases hpass z hz with h | ⟨hz0, nm, hl1, hn1⟩
      · exact Or.inl h
      · obtain ⟨c6, hc6, hcl6⟩ := Cond.classLink_spec hown hl1 e.platform hpl
        obtain ⟨a8, b8, h1, h2, h3⟩ := hn1
        cases Option.some.inj (h1.symm.trans hcl)
        cases Option.some.inj (h2.symm.trans hc6)
        exact Or.inr ⟨hz0, _, hcl6, h3⟩) hx (Or.inr ⟨h0, c4, hcl5, hasg⟩)
  obtain ⟨t, a1, b1⟩ := kk (T.setVm vm') hT X'
  exact ⟨t, st.trans a1, b1⟩
end Rows
section Ends
variable {p : Program} {l : Launch} {e : Env} {R : Room} {s : State} {m : MethodId} {args : Array Value} {below : List Frame} {meth : Method} {c : Code} {H : Heap} {locs : List Loc} {cells slots : Nat} {Q : State → Prop}
variable {mc ms : Nat} {free : Addr → Prop} {A0 A1 : Nat → Prop} {H0 : Heap} {a : Array Value} {ls : Array Slot} {st0 rest : List Value}
variable {Qc : Array Value → State → Outcome → State → Prop} {XC : String → State → State → Prop}
/-- what a body that may throw owes at its end -/
def vx_MQ (below : List Frame) (Qc : Array Value → State → Outcome → State → Prop) (XC : String → State → State → Prop) (a : Array Value) (s : State) (mc ms : Nat) (free : Addr → Prop) : State → Prop := fun t =>
  ∃ o, t.status = .running ∧ Ended t below o ∧ vx_Q Qc XC mc ms free a s o t
theorem vx_ret {g : JFrame} {mc ms : Nat} (k : W p l e R s m args below meth c H locs cells slots (MQ below Qc args s mc ms free) g) : W p l e R s m args below meth c H locs cells slots (vx_MQ below Qc XC args s mc ms free) g := by
  intro T hT X
  obtain ⟨t, a1, o, b1, b2, b3, b4⟩ := k T hT X
  exact ⟨t, a1, o, b1, b2, Or.inl ⟨b3, b4⟩⟩
/-- not caught here: it goes on to the caller -/
theorem vx_widen {g : JFrame} {q : Addr} {k n : Nat} (h1 : cells ≤ k) (h2 : slots ≤ n) (kk : vx_W p l e R s m args below meth c H locs k n Q g q) : vx_W p l e R s m args below meth c H locs cells slots Q g q := fun T hT X => kk T hT (stand_widen X h1 h2)
theorem vx_out {pc : Nat} {E : String} {ce : Cell} {q : Addr} {mc ms : Nat} (hout : ∀ x ∈ c.exceptionTable.toList, covers x pc = false) (hlocks : meth.locks = false) (hcell : H[q]? = some ce) (hv : ce.vm = .none) (hcl : s.vm.findClass E = some ce.cls)
    (hx : ∀ t : State, t.heap = H → s.vm.Alike t.vm → XC E s t) (hf : ∀ z ∈ locs, free z.base) (hc : cells ≤ mc) (hs : slots ≤ ms) :
    vx_W p l e R s m args below meth c H locs cells slots (vx_MQ below Qc XC args s mc ms free) (F0 m pc ls rest) q := by
  intro T hT X
  obtain ⟨st1, hrun, hend, hW, hsm⟩ := X.leaveThrown q (g := F0 m pc ls rest) rfl rfl rfl hout hlocks
  have hcell9 : (T.setFrames (.throwing q :: below)).heap[q]? = some ce := by
    show T.heap[q]? = some ce
    rw [hT]; exact hcell
  exact ⟨_, st1, .threw q, hrun, hend, Or.inr ⟨q, rfl, E, ce, locs, hx _ hT hW.alike, hcell9, hv, hcl, hW, hsm.mono hc hs, hf⟩⟩
theorem vx_frame {U : State} {k n : Nat} (h : s.sameButNew ({ U with vm := s.vm } : State) locs k n) : s.heap.size ≤ U.heap.size ∧ ∀ q : Nat, q < s.heap.size → (∀ z ∈ locs, z.base ≠ q) → U.heap[q]? = s.heap[q]? := by
  obtain ⟨-, h2, -, -, -, h6⟩ := h
  refine ⟨h2, fun q hq hz => ?_⟩
  obtain ⟨c9, e1, e2, e3, e4⟩ := h6 q _ (Array.getElem?_eq_getElem hq)
  have hs : c9.slots = (s.heap[q]).slots := Array.ext_getElem? fun i => e4 i fun hm => hz _ hm rfl
  have h9 : c9 = s.heap[q] := by
    rw [hs] at e2
    exact e2
  have e5 : U.heap[q]? = some c9 := e1
  rw [e5, h9, Array.getElem?_eq_getElem hq]
/-- the words of a throw but the four that speak of the heap -/
def vx_no (w : Cond) : Bool := decide (w ≠ .isRef (.static Bundle.tN "UNASSIGNED_STACK" Bundle.steD)) && decide (w ≠ .isRef (.static Bundle.tN "SUPPRESSED_SENTINEL" Bundle.listD)) && decide (w ≠ .laysStatic Bundle.tN "UNASSIGNED_STACK" Bundle.steD) && decide (w ≠ .laysStatic Bundle.tN "SUPPRESSED_SENTINEL" Bundle.listD)
def vx_at0 (own : String) (ic : Nat) (X : String) (names : List String) : List Cond := (Bundle.ownAtoms0 own ic X names).filter vx_no
def vx_atS (own : String) (ic : Nat) (X : String) (names : List String) : List Cond := (Bundle.ownAtoms own ic X names).filter vx_no
/-- a word that the tables alone decide, or a good one -/
def vx_ot (w : Cond) : Bool := w.onTables || goodWord w
theorem vx_ot_at {args a' : Array Value} {s U : State} {w : Cond} (hW : s.WarmedH U.vm) (hvm : s.vm = U.vm) (hg : vx_ot w = true) (h : w.before args s = true) : w.before a' U = true := by
  simp only [vx_ot, Bool.or_eq_true] at hg
  rcases hg with hg | hg
  · exact va_tabs hg hvm h
  · exact word_at hW (good_of_word hg) h
/-- a list's words: the good ones out of the method's own list, the others by premises of their own -/
theorem vx_hat {args : Array Value} {s : State} {L B : List Cond} (h1 : ∀ w ∈ L.filter goodWord, w.before args s = true) (h2 : ∀ w ∈ L.filter (fun w => !goodWord w), w ∈ B) (h3 : ∀ w ∈ B, w.before args s = true) : ∀ w ∈ L, w.before args s = true := by
  intro w hw
  by_cases g : goodWord w = true
  · exact h1 w (List.mem_filter.mpr ⟨hw, g⟩)
  · refine h3 w (h2 w (List.mem_filter.mpr ⟨hw, ?_⟩))
    show (!goodWord w) = true
    cases hgw : goodWord w
    · rfl
    · exact absurd hgw g
theorem vx_c {args : Array Value} {s : State} {w : Cond} {B : List Cond} (h : w.before args s = true) (t : ∀ w ∈ B, w.before args s = true) : ∀ w' ∈ w :: B, w'.before args s = true := fun w' h' => (List.mem_cons.mp h').elim (fun e => by rw [e]; exact h) (t w')
theorem vx_n {args : Array Value} {s : State} : ∀ w ∈ ([] : List Cond), w.before args s = true := fun _ h => nomatch h
theorem vx_own {args : Array Value} {s : State} {L : List Cond} (h1 : ∀ w ∈ L.filter vx_no, w.before args s = true)
    (hU : (Cond.isRef (.static Bundle.tN "UNASSIGNED_STACK" Bundle.steD)).before args s = true) (hN : (Cond.isRef (.static Bundle.tN "SUPPRESSED_SENTINEL" Bundle.listD)).before args s = true)
    (lU : (Cond.laysStatic Bundle.tN "UNASSIGNED_STACK" Bundle.steD).before args s = true) (lN : (Cond.laysStatic Bundle.tN "SUPPRESSED_SENTINEL" Bundle.listD).before args s = true) : ∀ w ∈ L, w.before args s = true := by
  intro w hw
  by_cases e1 : w = .isRef (.static Bundle.tN "UNASSIGNED_STACK" Bundle.steD)
  · rw [e1]; exact hU
  · by_cases e2 : w = .isRef (.static Bundle.tN "SUPPRESSED_SENTINEL" Bundle.listD)
    · rw [e2]; exact hN
    · by_cases e3 : w = .laysStatic Bundle.tN "UNASSIGNED_STACK" Bundle.steD
      · rw [e3]; exact lU
      · by_cases e4 : w = .laysStatic Bundle.tN "SUPPRESSED_SENTINEL" Bundle.listD
        · rw [e4]; exact lN
        · exact h1 w (List.mem_filter.mpr ⟨hw, by unfold vx_no; rw [decide_eq_true e1, decide_eq_true e2, decide_eq_true e3, decide_eq_true e4]; rfl⟩)
/-- where a static field lies, its class's statics cell in H -/
def vx_L (C n d : String) (A : Nat → Prop) (U : State) (H : Heap) : Prop := ∃ (c : ClassId) (k : Class) (i : Nat) (f : Field) (a : Nat) (cell : Cell), U.vm.findClass C = some c ∧ U.fieldFound? C n d = some (c, k, i, f) ∧ f.isStatic = true ∧ k.statics = some a ∧ H[a]? = some cell ∧ cell.vm.isStatics = true ∧ cell.cls = c ∧ f.slot < cell.slots.size ∧ k.staticTypes[f.slot]? = some f.type ∧ ¬ A a
theorem vx_L.moved {C n d : String} {A : Nat → Prop} {u U : State} {H : Heap} (hvm : u.vm.Alike U.vm) (h : vx_L C n d A u H) : vx_L C n d A U H := by
  obtain ⟨c, k, i, f, a, cell, h1, h2, h3, h4, h5, h6, h7, h8, h9, h10⟩ := h
  obtain ⟨k', hi', he⟩ := State.fieldFound?_setVm hvm h2
  exact ⟨c, k', i, f, a, cell, by rw [hvm.findClass]; exact h1, hi', h3, by rw [he]; exact h4, h5, h6, h7, h8, by rw [he]; exact h9, h10⟩
theorem vx_L.kept {C n d : String} {A : Nat → Prop} {U : State} {H H1 : Heap} (h : vx_L C n d A U H) (hq : ∀ a : Nat, a < H.size → ¬ A a → H1[a]? = H[a]?) : vx_L C n d A U H1 := by
  obtain ⟨c, k, i, f, a, cell, h1, h2, h3, h4, h5, h6, h7, h8, h9, h10⟩ := h
  exact ⟨c, k, i, f, a, cell, h1, h2, h3, h4, by rw [hq a (Array.getElem?_eq_some_iff.mp h5).1 h10]; exact h5, h6, h7, h8, h9, h10⟩
theorem vx_L.narrow {C n d : String} {A B : Nat → Prop} {U : State} {H : Heap} (h : vx_L C n d A U H) (hAB : ∀ q, B q → A q) : vx_L C n d B U H := by
  obtain ⟨c, k, i, f, a, cell, h1, h2, h3, h4, h5, h6, h7, h8, h9, h10⟩ := h
  exact ⟨c, k, i, f, a, cell, h1, h2, h3, h4, h5, h6, h7, h8, h9, fun z => h10 (hAB _ z)⟩
theorem vx_L.word {C n d : String} {A : Nat → Prop} {s : State} {args : Array Value} (h : vx_L C n d A s s.heap) : (Cond.laysStatic C n d).before args s = true := by
  obtain ⟨c, k, i, f, a, cell, h1, h2, h3, h4, h5, h6, h7, h8, h9, -⟩ := h
  show (Cond.laysStatic C n d).holds args s none s [] = true
  exact Cond.laysStatic_of h1 h2 h3 h4 h5 h6 h7 h8 h9
/-- .. and what it holds: null or some reference -/
def vx_Zq (C n d : String) (A : Nat → Prop) (U : State) (H : Heap) : Prop := va_Zq C n d A U H ∧ vx_L C n d A U H
theorem vx_Zq.moved {C n d : String} {A : Nat → Prop} {u U : State} {H : Heap} (hvm : u.vm.Alike U.vm) (h : vx_Zq C n d A u H) : vx_Zq C n d A U H := ⟨va_Zq.moved hvm h.1, vx_L.moved hvm h.2⟩
theorem vx_Zq.kept {C n d : String} {A : Nat → Prop} {U : State} {H H1 : Heap} (h : vx_Zq C n d A U H) (hq : ∀ a : Nat, a < H.size → ¬ A a → H1[a]? = H[a]?) : vx_Zq C n d A U H1 := ⟨va_Zq.kept h.1 hq, vx_L.kept h.2 hq⟩
theorem vx_Zq.narrow {C n d : String} {A B : Nat → Prop} {U : State} {H : Heap} (h : vx_Zq C n d A U H) (hAB : ∀ q, B q → A q) : vx_Zq C n d B U H := ⟨va_Zq.narrow h.1 hAB, vx_L.narrow h.2 hAB⟩
theorem vx_Zqof {args : Array Value} {s : State} {C n d : String} {A : Nat → Prop} (hl : (Cond.laysStatic C n d).before args s = true) (hini : (Cond.initialized C).before args s = true) (h : (Cond.isRef (.static C n d)).before args s = true) (hA : ∀ a : Nat, a < s.heap.size → ¬ A a) : vx_Zq C n d A s s.heap := by
  refine ⟨va_Zqof hl hini h hA, ?_⟩
  obtain ⟨c, k, i, f, a, cell, h1, h2, h3, h4, h5, h6, h7, h8, h9⟩ := Cond.laysStatic_spec hl
  exact ⟨c, k, i, f, a, cell, h1, h2, h3, h4, h5, h6, h7, h8, h9, hA a (Array.getElem?_eq_some_iff.mp h5).1⟩
theorem vx_isRef {C n d : String} {v : Value} {A : Nat → Prop} {s : State} {args : Array Value} (h : va_Z C n d v A s s.heap) (hv : v.isRef = true) : (Cond.isRef (.static C n d)).before args s = true := by
  obtain ⟨cf, kf, fi, f, a, cell, h1, h2, h3, h4, h5, h6, h7, -⟩ := h
  have he : (Term.static C n d).eval args s none [] s = some v := by
    simp [Term.eval, State.fieldNamed?, h1, h2, h4, h5, h6, h7]
  simp only [Cond.before, Cond.holds, Cond.value, he]
  cases v <;> simp_all [Value.isRef]
theorem vx_isRefq {C n d : String} {A : Nat → Prop} {s : State} {args : Array Value} (h : va_Zq C n d A s s.heap) : (Cond.isRef (.static C n d)).before args s = true := by
  rcases h with h | ⟨t, h⟩
  · exact vx_isRef h rfl
  · exact vx_isRef h rfl
/-- the same frame, seen from here: as if the method were called anew in this heap -/
theorem vx_rebase {T : State} (X : Stand p l e R s m args below meth c T locs cells slots) {R' : Room} (hf : R'.frames ≤ R.frames) (hl : R'.locals ≤ R.locals) (hc : cells + R'.cells ≤ R.cells) (hs : slots + R'.slots ≤ R.slots) :
    Stand p l e R' ((T.setVm s.vm).setFrames (.invoking m args :: below)) m args below meth c T [] 0 0 := by
  have htop : (T.setVm s.vm).topJava?.isSome := X.here.top
  have hF : ((T.setVm s.vm).setFrames (.invoking m args :: below)).frames = .invoking m args :: below := State.frames_setFrames _ (State.cur_lt_of_top htop)
  obtain ⟨g₀, hg0⟩ := Option.isSome_iff_exists.mp htop
  obtain ⟨r, hr⟩ := State.topJava?_eq_some.mp hg0
  have hl9 : e.platform.stackLimits (T.setVm s.vm).me = e.platform.stackLimits s.me := X.limits
  have hb9 : (T.setVm s.vm).me.stackBytes = s.me.stackBytes := X.bytes
  refine ⟨X.admits, X.cas, X.clock, hF, ?_, X.hears, X.method, X.code, X.here, X.tail, X.warmed, ?_, ?_, ?_⟩
  · have h := X.room
    have hU : ((T.setVm s.vm).setFrames (.invoking m args :: below)).localsInUse = s.localsInUse := by
      rw [State.localsInUse_invoking hF (meth := meth) (c := c) X.method X.code, State.localsInUse_invoking X.frames X.method X.code]
    simp only [State.hasRoom, Bool.and_eq_true, decide_eq_true_eq] at h ⊢
    obtain ⟨⟨⟨⟨h1, h2, h3, h4, h5, h6⟩, h7⟩, h8⟩, h9⟩ := h
    rw [X.frames, List.length_cons] at h2 h3
    have q1 := X.heapSize
    have q2 := X.used
    simp only [hF, hU, List.length_cons, State.stackLimits_setFrames, State.stackBytes_setFrames, hl9, hb9]
    refine ⟨⟨⟨⟨by omega, by omega, by omega, by omega, by omega, h6⟩, ?_⟩, ?_⟩, X.book⟩
    · show T.heap.size + R'.cells ≤ e.platform.maxCells
      omega
    · show T.slotsUsed + R'.slots ≤ e.platform.maxSlots
      omega
  · rw [State.stackLimits_setFrames]; rfl
  · rw [State.stackBytes_setFrames]; rfl
  · refine ⟨?_, Nat.le_refl _, Nat.le_refl _, ?_, ?_, fun a c9 h9 => ⟨c9, h9, rfl, rfl, fun _ _ => rfl⟩⟩
    · obtain ⟨t, ht, -⟩ := State.frames_cons hr
      show T.setVm s.vm = { ((T.setVm s.vm).setFrames (.invoking m args :: below)).setFrames (T.setVm s.vm).frames with heap := T.heap, slotsUsed := T.slotsUsed }
      rw [State.setFrames_setFrames, State.setFrames_self ht]
      rfl
    · show T.slotsUsed = T.slotsUsed + ((T.heap.toList.drop T.heap.size).map (·.slots.size)).sum
      rw [List.drop_eq_nil_of_le (Nat.le_of_eq Array.length_toList)]
      rfl
    · show ((T.heap.toList.drop T.heap.size).map (·.slots.size)).sum ≤ 0
      rw [List.drop_eq_nil_of_le (Nat.le_of_eq Array.length_toList)]
      exact Nat.le_refl _
/-- 'throw new E()': new; dup; invokespecial; athrow -/
theorem vx_throw0 {cc : ByteArray} {pc : Nat} (hexec : p.tables.exec = Jvm.exec) (hb : c.code = cc) (hl : l.stackTraces = false) {own cls : String} {names : List String} {ik ic mc ms : Nat} {A : Nat → Prop}
    (hown : s.vm.findClass own = some m.cls) (hcls : Bundle.fit cls = true) (hnames : ∀ n ∈ names, Bundle.fit n = true)
    (hk : (Cond.classLink own ik cls).before args s = true) (hini : (Cond.initialized cls).before args s = true) (hat : ∀ w ∈ vx_at0 own ic cls names, w.before args s = true)
    (hgood : ∀ w ∈ Cond.classLink own ik cls :: Cond.initialized cls :: vx_at0 own ic cls names, vx_ot w = true)
    (hU : vx_Zq Bundle.tN "UNASSIGNED_STACK" Bundle.steD A s s.heap) (hN : vx_Zq Bundle.tN "SUPPRESSED_SENTINEL" Bundle.listD A s s.heap) (hS : va_S A s.heap H locs) (hsize : ls.size = c.maxLocals)
    (d0 : decode cc pc = .ok (.new ik, 3)) (d3 : decode cc (pc + 3) = .ok (.dup, 1)) (d4 : decode cc (pc + 4) = .ok (.invokespecial ic, 3)) (d7 : decode cc (pc + 7) = .ok (.athrow, 1))
    (hout : ∀ x ∈ c.exceptionTable.toList, covers x (pc + 7) = false)
    (hRframes : names.length + 3 < R.frames) (hRlocals : (rest.map fun v => v.category).sum + (13 * (names.length + 1) + 42) ≤ R.locals) (hRcells : cells + 1 ≤ R.cells) (hRslots : slots + 6 ≤ R.slots) (hlocks : meth.locks = false)
    (hx : ∀ t : State, s.vm.Alike t.vm → H.size ≤ t.heap.size → (∀ q : Nat, q < H.size → t.heap[q]? = H[q]?) → XC cls s t)
    (hf : ∀ z ∈ locs, free z.base) (hc : cells + 1 ≤ mc) (hs : slots + 6 ≤ ms) :
    W p l e R s m args below meth c H locs cells slots (vx_MQ below Qc XC args s mc ms free) (F0 m pc ls rest) := by
  intro T hT X
  have htr : e.platform.stackTraces = false := (show e.platform.stackTraces = l.stackTraces by rw [X.admits.platform]).trans hl
  have Y := vx_rebase X (R' := { frames := R.frames, locals := R.locals, cells := 1, slots := 6 }) (Nat.le_refl _) (Nat.le_refl _) hRcells hRslots
  obtain ⟨s', hA⟩ : ∃ z, z = (T.setVm s.vm).setFrames (.invoking m args :: below) := ⟨_, rfl⟩
  rw [← hA] at Y
  have hvm : s'.vm = s.vm := by rw [hA]; rfl
  have hhp : s'.heap = H := by rw [hA]; exact hT
  have hW0 : s.WarmedH s'.vm := by rw [hvm]; exact State.WarmedH.refl s
  have hat' : ∀ w ∈ vx_at0 own ic cls names, w.before args s' = true := fun w hw => vx_ot_at hW0 hvm.symm (hgood w (List.mem_cons_of_mem _ (List.mem_cons_of_mem _ hw))) (hat w hw)
  have hk' : (Cond.classLink own ik cls).before args s' = true := vx_ot_at hW0 hvm.symm (hgood _ List.mem_cons_self) hk
  have hini' : (Cond.initialized cls).before args s' = true := vx_ot_at hW0 hvm.symm (hgood _ (List.mem_cons_of_mem _ List.mem_cons_self)) hini
  have hU' : vx_Zq Bundle.tN "UNASSIGNED_STACK" Bundle.steD A s' s'.heap := by rw [hhp]; exact vx_Zq.moved hW0.alike (hU.kept hS.2.1)
  have hN' : vx_Zq Bundle.tN "SUPPRESSED_SENTINEL" Bundle.listD A s' s'.heap := by rw [hhp]; exact vx_Zq.moved hW0.alike (hN.kept hS.2.1)
  have h : ∀ w ∈ Bundle.ownAtoms0 own ic cls names, w.before args s' = true := vx_own hat' (vx_isRefq hU'.1) (vx_isRefq hN'.1) hU'.2.word hN'.2.word
  have hown' : s'.vm.findClass own = some m.cls := by rw [hvm]; exact hown
  have hins : (Cond.instantiable cls 6).before args s' = true := h _ (by simp [Bundle.ownAtoms0])
  obtain ⟨vm₁, cX, kX, hfX, hkX, -, -, X₁, st1⟩ := Y.newCold hexec (own := own) (C := cls) (index := ik) (n := 6) hown' hk' hins hini'
    (g := F0 m pc ls rest) rfl (by rw [hb]; exact d0) (Nat.le_refl _) (Nat.le_refl _)
  generalize hT1 : (T.setVm vm₁).pushCell { cls := cX, slots := kX.instanceTypes.map defaultValue, vm := .none } = T1 at X₁ st1
  have hcat : (Value.ref T.heap.size).category = 1 := rfl
  have hcellA : T1.heap[T.heap.size]? = some (freshCell cX kX) := by rw [← hT1]; exact State.heap_pushCell_size _ _
  have d3' : decode c.code (pc + 3) = .ok (.dup, 1) := by rw [hb]; exact d3
  obtain ⟨U, hsteps, hrun, hend, hW, hsame, ce, hce, hO⟩ := X₁.ctorThrow0 hexec htr (own := own) (cls := cls) (names := names) (ic := ic) hown' hcls hnames h (fun x hx => nomatch hx) hfX hkX hcellA (by rw [hhp, hT]; exact Nat.le_refl _)
    (g := { method := m, pc := pc + 4, locals := ls, stack := .ref T.heap.size :: .ref T.heap.size :: rest, locked := none }) rfl hsize rfl rfl (rest := rest) rfl
    (by rw [hb]; exact d4) (by rw [hb]; exact d7) hout hRframes (by simp only [List.map_cons, List.sum_cons, hcat]; omega) hlocks
  obtain ⟨f1, f2⟩ := vx_frame hsame
  rw [hhp] at f1 f2
  have hWs : s.WarmedH U.vm := State.WarmedH.trans hW0 hW
  have hcl : s.vm.findClass cls = some ce.cls := by
    have h9 := hO.cls
    rw [hvm] at h9
    exact h9
  have hall : s.sameButNew ({ U with vm := s.vm } : State) locs mc ms := by
    subst hA
    obtain ⟨e1, e2⟩ := hsame
    rw [State.setFrames_setFrames] at e1
    have h2 : (T.setVm s.vm).sameButNew ({ U with vm := s.vm } : State) [] (0 + 1) (0 + 6) := ⟨e1, e2⟩
    have h3 := X.same.trans h2
    rw [List.append_nil] at h3
    exact h3.mono hc hs
  refine ⟨U, ?_, .threw T.heap.size, hrun, hend, Or.inr ⟨T.heap.size, rfl, cls, ce, locs, hx U hWs.alike f1 (fun q hq => f2 q hq (fun z hz => nomatch hz)), hce, hO.vm, hcl, hWs, hall, hf⟩⟩
  refine st1 _ ?_
  show Steps p.tables e below (T1.setTop { method := m, pc := pc + 3, locals := ls, stack := .ref T.heap.size :: rest, locked := none }) _
  jvm_step X₁.here [X₁.here.top, hexec, d3', Value.category]
  exact hsteps
/-- 'throw new E("text")': new; dup; ldc; invokespecial; athrow -/
theorem vx_throwS {cc : ByteArray} {pc : Nat} (hexec : p.tables.exec = Jvm.exec) (hb : c.code = cc) (hl : l.stackTraces = false) {own cls text : String} {names : List String} {ik is ic mc ms sa : Nat} {A : Nat → Prop}
    (hown : s.vm.findClass own = some m.cls) (hcls : Bundle.fit cls = true) (hnames : ∀ n ∈ names, Bundle.fit n = true)
    (hk : (Cond.classLink own ik cls).before args s = true) (hini : (Cond.initialized cls).before args s = true) (hstr : vk_R own is text sa s) (hat : ∀ w ∈ vx_atS own ic cls names, w.before args s = true)
    (hgood : ∀ w ∈ Cond.classLink own ik cls :: Cond.initialized cls :: vx_atS own ic cls names, vx_ot w = true)
    (hU : vx_Zq Bundle.tN "UNASSIGNED_STACK" Bundle.steD A s s.heap) (hN : vx_Zq Bundle.tN "SUPPRESSED_SENTINEL" Bundle.listD A s s.heap) (hS : va_S A s.heap H locs) (hsize : ls.size = c.maxLocals)
    (d0 : decode cc pc = .ok (.new ik, 3)) (d3 : decode cc (pc + 3) = .ok (.dup, 1)) (d4 : decode cc (pc + 4) = .ok (.ldc is, 2)) (d6 : decode cc (pc + 6) = .ok (.invokespecial ic, 3)) (d9 : decode cc (pc + 9) = .ok (.athrow, 1))
    (hout : ∀ x ∈ c.exceptionTable.toList, covers x (pc + 9) = false)
    (hRframes : names.length + 3 < R.frames) (hRlocals : (rest.map fun v => v.category).sum + (13 * (names.length + 1) + 43) ≤ R.locals) (hRcells : cells + 1 ≤ R.cells) (hRslots : slots + 6 ≤ R.slots) (hlocks : meth.locks = false)
    (hx : ∀ t : State, s.vm.Alike t.vm → H.size ≤ t.heap.size → (∀ q : Nat, q < H.size → t.heap[q]? = H[q]?) → XC cls s t)
    (hf : ∀ z ∈ locs, free z.base) (hc : cells + 1 ≤ mc) (hs : slots + 6 ≤ ms) :
    W p l e R s m args below meth c H locs cells slots (vx_MQ below Qc XC args s mc ms free) (F0 m pc ls rest) := by
  intro T hT X
  have htr : e.platform.stackTraces = false := (show e.platform.stackTraces = l.stackTraces by rw [X.admits.platform]).trans hl
  have Y := vx_rebase X (R' := { frames := R.frames, locals := R.locals, cells := 1, slots := 6 }) (Nat.le_refl _) (Nat.le_refl _) hRcells hRslots
  obtain ⟨s', hA⟩ : ∃ z, z = (T.setVm s.vm).setFrames (.invoking m args :: below) := ⟨_, rfl⟩
  rw [← hA] at Y
  have hvm : s'.vm = s.vm := by rw [hA]; rfl
  have hhp : s'.heap = H := by rw [hA]; exact hT
  have hW0 : s.WarmedH s'.vm := by rw [hvm]; exact State.WarmedH.refl s
  have hat' : ∀ w ∈ vx_atS own ic cls names, w.before args s' = true := fun w hw => vx_ot_at hW0 hvm.symm (hgood w (List.mem_cons_of_mem _ (List.mem_cons_of_mem _ hw))) (hat w hw)
  have hk' : (Cond.classLink own ik cls).before args s' = true := vx_ot_at hW0 hvm.symm (hgood _ List.mem_cons_self) hk
  have hini' : (Cond.initialized cls).before args s' = true := vx_ot_at hW0 hvm.symm (hgood _ (List.mem_cons_of_mem _ List.mem_cons_self)) hini
  have hU' : vx_Zq Bundle.tN "UNASSIGNED_STACK" Bundle.steD A s' s'.heap := by rw [hhp]; exact vx_Zq.moved hW0.alike (hU.kept hS.2.1)
  have hN' : vx_Zq Bundle.tN "SUPPRESSED_SENTINEL" Bundle.listD A s' s'.heap := by rw [hhp]; exact vx_Zq.moved hW0.alike (hN.kept hS.2.1)
  have h : ∀ w ∈ Bundle.ownAtoms own ic cls names, w.before args s' = true := vx_own hat' (vx_isRefq hU'.1) (vx_isRefq hN'.1) hU'.2.word hN'.2.word
  have hown' : s'.vm.findClass own = some m.cls := by rw [hvm]; exact hown
  have hins : (Cond.instantiable cls 6).before args s' = true := h _ (by simp [Bundle.ownAtoms])
  obtain ⟨vm₁, cX, kX, hfX, hkX, -, -, X₁, st1⟩ := Y.newCold hexec (own := own) (C := cls) (index := ik) (n := 6) hown' hk' hins hini'
    (g := F0 m pc ls rest) rfl (by rw [hb]; exact d0) (Nat.le_refl _) (Nat.le_refl _)
  generalize hT1 : (T.setVm vm₁).pushCell { cls := cX, slots := kX.instanceTypes.map defaultValue, vm := .none } = T1 at X₁ st1
  have hcat : (Value.ref T.heap.size).category = 1 := rfl
  have hcellA : T1.heap[T.heap.size]? = some (freshCell cX kX) := by rw [← hT1]; exact State.heap_pushCell_size _ _
  have d3' : decode c.code (pc + 3) = .ok (.dup, 1) := by rw [hb]; exact d3
  have d4' : decode c.code (pc + 4) = .ok (.ldc is, 2) := by rw [hb]; exact d4
  have hstr' : vk_R own is text sa s' := vk_R.warm hW0 hstr
  obtain ⟨U, hsteps, hrun, hend, hW, hsame, ce, hce, hO⟩ := X₁.ctorThrowS hexec htr (own := own) (cls := cls) (names := names) (ic := ic) hown' hcls hnames h (fun x hx => nomatch hx) hfX hkX hcellA (by rw [hhp, hT]; exact Nat.le_refl _) (msg := .ref sa) rfl
    (g := { method := m, pc := pc + 6, locals := ls, stack := .ref sa :: .ref T.heap.size :: .ref T.heap.size :: rest, locked := none }) rfl hsize rfl rfl (rest := rest) rfl
    (by rw [hb]; exact d6) (by rw [hb]; exact d9) hout hRframes (by simp only [List.map_cons, List.sum_cons, hcat]; omega) hlocks
  obtain ⟨f1, f2⟩ := vx_frame hsame
  rw [hhp] at f1 f2
  have hWs : s.WarmedH U.vm := State.WarmedH.trans hW0 hW
  have hcl : s.vm.findClass cls = some ce.cls := by
    have h9 := hO.cls
    rw [hvm] at h9
    exact h9
  have hall : s.sameButNew ({ U with vm := s.vm } : State) locs mc ms := by
    subst hA
    obtain ⟨e1, e2⟩ := hsame
    rw [State.setFrames_setFrames] at e1
    have h2 : (T.setVm s.vm).sameButNew ({ U with vm := s.vm } : State) [] (0 + 1) (0 + 6) := ⟨e1, e2⟩
    have h3 := X.same.trans h2
    rw [List.append_nil] at h3
    exact h3.mono hc hs
  refine ⟨U, ?_, .threw T.heap.size, hrun, hend, Or.inr ⟨T.heap.size, rfl, cls, ce, locs, hx U hWs.alike f1 (fun q hq => f2 q hq (fun z hz => nomatch hz)), hce, hO.vm, hcl, hWs, hall, hf⟩⟩
  refine st1 _ ?_
  show Steps p.tables e below (T1.setTop { method := m, pc := pc + 3, locals := ls, stack := .ref T.heap.size :: rest, locked := none }) _
  jvm_step X₁.here [X₁.here.top, hexec, d3', Value.category]
  exact X₁.ldcString hexec (own := own) (text := text) (index := is) (a := sa) hown' hstr'.1 hstr'.2
    (g := { method := m, pc := pc + 4, locals := ls, stack := .ref T.heap.size :: .ref T.heap.size :: rest, locked := none }) rfl d4' _ hsteps
/-- 'throw new E("text")', the text by a wide index -/
theorem vx_throwSW {cc : ByteArray} {pc : Nat} (hexec : p.tables.exec = Jvm.exec) (hb : c.code = cc) (hl : l.stackTraces = false) {own cls text : String} {names : List String} {ik is ic mc ms sa : Nat} {A : Nat → Prop}
    (hown : s.vm.findClass own = some m.cls) (hcls : Bundle.fit cls = true) (hnames : ∀ n ∈ names, Bundle.fit n = true)
    (hk : (Cond.classLink own ik cls).before args s = true) (hini : (Cond.initialized cls).before args s = true) (hstr : vk_R own is text sa s) (hat : ∀ w ∈ vx_atS own ic cls names, w.before args s = true)
    (hgood : ∀ w ∈ Cond.classLink own ik cls :: Cond.initialized cls :: vx_atS own ic cls names, vx_ot w = true)
    (hU : vx_Zq Bundle.tN "UNASSIGNED_STACK" Bundle.steD A s s.heap) (hN : vx_Zq Bundle.tN "SUPPRESSED_SENTINEL" Bundle.listD A s s.heap) (hS : va_S A s.heap H locs) (hsize : ls.size = c.maxLocals)
    (d0 : decode cc pc = .ok (.new ik, 3)) (d3 : decode cc (pc + 3) = .ok (.dup, 1)) (d4 : decode cc (pc + 4) = .ok (.ldc_w is, 3)) (d7 : decode cc (pc + 7) = .ok (.invokespecial ic, 3)) (d10 : decode cc (pc + 10) = .ok (.athrow, 1))
    (hout : ∀ x ∈ c.exceptionTable.toList, covers x (pc + 10) = false)
    (hRframes : names.length + 3 < R.frames) (hRlocals : (rest.map fun v => v.category).sum + (13 * (names.length + 1) + 43) ≤ R.locals) (hRcells : cells + 1 ≤ R.cells) (hRslots : slots + 6 ≤ R.slots) (hlocks : meth.locks = false)
    (hx : ∀ t : State, s.vm.Alike t.vm → H.size ≤ t.heap.size → (∀ q : Nat, q < H.size → t.heap[q]? = H[q]?) → XC cls s t)
    (hf : ∀ z ∈ locs, free z.base) (hc : cells + 1 ≤ mc) (hs : slots + 6 ≤ ms) :
    W p l e R s m args below meth c H locs cells slots (vx_MQ below Qc XC args s mc ms free) (F0 m pc ls rest) := by
  intro T hT X
  have htr : e.platform.stackTraces = false := (show e.platform.stackTraces = l.stackTraces by rw [X.admits.platform]).trans hl
  have Y := vx_rebase X (R' := { frames := R.frames, locals := R.locals, cells := 1, slots := 6 }) (Nat.le_refl _) (Nat.le_refl _) hRcells hRslots
  obtain ⟨s', hA⟩ : ∃ z, z = (T.setVm s.vm).setFrames (.invoking m args :: below) := ⟨_, rfl⟩
  rw [← hA] at Y
  have hvm : s'.vm = s.vm := by rw [hA]; rfl
  have hhp : s'.heap = H := by rw [hA]; exact hT
  have hW0 : s.WarmedH s'.vm := by rw [hvm]; exact State.WarmedH.refl s
  have hat' : ∀ w ∈ vx_atS own ic cls names, w.before args s' = true := fun w hw => vx_ot_at hW0 hvm.symm (hgood w (List.mem_cons_of_mem _ (List.mem_cons_of_mem _ hw))) (hat w hw)
  have hk' : (Cond.classLink own ik cls).before args s' = true := vx_ot_at hW0 hvm.symm (hgood _ List.mem_cons_self) hk
  have hini' : (Cond.initialized cls).before args s' = true := vx_ot_at hW0 hvm.symm (hgood _ (List.mem_cons_of_mem _ List.mem_cons_self)) hini
  have hU' : vx_Zq Bundle.tN "UNASSIGNED_STACK" Bundle.steD A s' s'.heap := by rw [hhp]; exact vx_Zq.moved hW0.alike (hU.kept hS.2.1)
  have hN' : vx_Zq Bundle.tN "SUPPRESSED_SENTINEL" Bundle.listD A s' s'.heap := by rw [hhp]; exact vx_Zq.moved hW0.alike (hN.kept hS.2.1)
  have h : ∀ w ∈ Bundle.ownAtoms own ic cls names, w.before args s' = true := vx_own hat' (vx_isRefq hU'.1) (vx_isRefq hN'.1) hU'.2.word hN'.2.word
  have hown' : s'.vm.findClass own = some m.cls := by rw [hvm]; exact hown
  have hins : (Cond.instantiable cls 6).before args s' = true := h _ (by simp [Bundle.ownAtoms])
  obtain ⟨vm₁, cX, kX, hfX, hkX, -, -, X₁, st1⟩ := Y.newCold hexec (own := own) (C := cls) (index := ik) (n := 6) hown' hk' hins hini'
    (g := F0 m pc ls rest) rfl (by rw [hb]; exact d0) (Nat.le_refl _) (Nat.le_refl _)
  generalize hT1 : (T.setVm vm₁).pushCell { cls := cX, slots := kX.instanceTypes.map defaultValue, vm := .none } = T1 at X₁ st1
  have hcat : (Value.ref T.heap.size).category = 1 := rfl
  have hcellA : T1.heap[T.heap.size]? = some (freshCell cX kX) := by rw [← hT1]; exact State.heap_pushCell_size _ _
  have d3' : decode c.code (pc + 3) = .ok (.dup, 1) := by rw [hb]; exact d3
  have d4' : decode c.code (pc + 4) = .ok (.ldc_w is, 3) := by rw [hb]; exact d4
  have hstr' : vk_R own is text sa s' := vk_R.warm hW0 hstr
  obtain ⟨U, hsteps, hrun, hend, hW, hsame, ce, hce, hO⟩ := X₁.ctorThrowS hexec htr (own := own) (cls := cls) (names := names) (ic := ic) hown' hcls hnames h (fun x hx => nomatch hx) hfX hkX hcellA (by rw [hhp, hT]; exact Nat.le_refl _) (msg := .ref sa) rfl
    (g := { method := m, pc := pc + 7, locals := ls, stack := .ref sa :: .ref T.heap.size :: .ref T.heap.size :: rest, locked := none }) rfl hsize rfl rfl (rest := rest) rfl
    (by rw [hb]; exact d7) (by rw [hb]; exact d10) hout hRframes (by simp only [List.map_cons, List.sum_cons, hcat]; omega) hlocks
  obtain ⟨f1, f2⟩ := vx_frame hsame
  rw [hhp] at f1 f2
  have hWs : s.WarmedH U.vm := State.WarmedH.trans hW0 hW
  have hcl : s.vm.findClass cls = some ce.cls := by
    have h9 := hO.cls
    rw [hvm] at h9
    exact h9
  have hall : s.sameButNew ({ U with vm := s.vm } : State) locs mc ms := by
    subst hA
    obtain ⟨e1, e2⟩ := hsame
    rw [State.setFrames_setFrames] at e1
    have h2 : (T.setVm s.vm).sameButNew ({ U with vm := s.vm } : State) [] (0 + 1) (0 + 6) := ⟨e1, e2⟩
    have h3 := X.same.trans h2
    rw [List.append_nil] at h3
    exact h3.mono hc hs
  refine ⟨U, ?_, .threw T.heap.size, hrun, hend, Or.inr ⟨T.heap.size, rfl, cls, ce, locs, hx U hWs.alike f1 (fun q hq => f2 q hq (fun z hz => nomatch hz)), hce, hO.vm, hcl, hWs, hall, hf⟩⟩
  refine st1 _ ?_
  show Steps p.tables e below (T1.setTop { method := m, pc := pc + 3, locals := ls, stack := .ref T.heap.size :: rest, locked := none }) _
  jvm_step X₁.here [X₁.here.top, hexec, d3', Value.category]
  exact X₁.ldcStringW hexec (own := own) (text := text) (index := is) (a := sa) hown' hstr'.1 hstr'.2
    (g := { method := m, pc := pc + 4, locals := ls, stack := .ref T.heap.size :: .ref T.heap.size :: rest, locked := none }) rfl d4' _ hsteps
end Ends
section Bodies
variable {l : Launch}
theorem vx_ofW {y : MethodName} {ws ws' : List Cond} {rm : Room} {Pc : Array Value → State → Prop} {Qc : Array Value → State → Outcome → State → Prop} {XC : String → State → State → Prop} {mc ms : Nat} {free : Addr → Prop} {cc : ByteArray} {maxL : Nat} {ret : Option FieldType}
    (hy : plainName y.cls = true) (hw : ws = Cond.code y cc maxL ret :: ws')
    (body : ∀ p e s m args below meth c s₁, BodyLoose p l y (headSpec ws rm) cc maxL ret e s m args below meth c s₁ → c.maxLocals = maxL → (∀ x ∈ c.exceptionTable.toList, False) → Pc args s →
      W p l e (headSpec ws rm).room s m args below meth c s.heap [] 0 0 (vx_MQ below Qc XC args s mc ms free) (entryFrame m args maxL)) : vx_Met l y ws rm Pc Qc XC mc ms free := by
  refine MetFree.of_bodyS (code := cc) (maxLocals := maxL) (ret := ret) hy ?_ ?_
  · intro args s m h hn
    obtain ⟨meth, c, h1, h2, h3, h4, h5, h6, -, -⟩ := Cond.code_spec hn (atoms_spec (ws := ws) h _ (by rw [hw]; exact List.mem_cons_self))
    exact ⟨meth, c, h1, h2, h3, h4, h5, h6⟩
  · intro p e s m args below meth c s₁ B hml hP _
    have hh0 : s₁.heap = s.heap := by rw [B.state]; rfl
    have ht : ∀ x ∈ c.exceptionTable.toList, False := by
      obtain ⟨meth9, c9, h1, h2, -, -, -, -, h7, -⟩ := Cond.code_spec B.named (atoms_spec (ws := ws) B.pre _ (by rw [hw]; exact List.mem_cons_self))
      cases Option.some.inj (h1.symm.trans B.method)
      cases Option.some.inj (h2.symm.trans (Stand.of_body B).code)
      intro x hx
      rw [Array.isEmpty_iff.mp h7] at hx
      cases hx
    obtain ⟨t, a1, o, b1, b2, b3⟩ := body p e s m args below meth c s₁ B hml ht hP s₁ hh0 (Stand.of_body B)
    exact ⟨t, o, a1, b1, b2, b3⟩
/-- the table of a body with handlers -/
theorem vx_table {p : Program} {x y : MethodName} {S : Spec} {cc bytes : ByteArray} {maxL maxL' : Nat} {ret ret' : Option FieldType} {e : Env} {s s₁ : State} {m : MethodId} {args : Array Value} {below : List Frame} {meth : Method} {c : Code} {hh : List (Nat × Nat × Nat × Nat)}
    (B : BodyLoose p l y S cc maxL ret e s m args below meth c s₁) (h : (Cond.codeWith y bytes maxL' ret' hh).before args s = true) : c.exceptionTable.toList = tableOf hh := by
  obtain ⟨m9, meth9, c9, hn9, h1, h2, -, -, h6, -⟩ := Cond.codeWith_spec h
  cases Option.some.inj (hn9.symm.trans B.named)
  cases Option.some.inj (h1.symm.trans B.method)
  cases Option.some.inj (h2.symm.trans (Stand.of_body B).code)
  rw [← h6, table_eq]
end Bodies
end VXA
/-! ===== END ===== -/
/-! ===== BEGIN a static call of a method with an exception table ===== -/
section VXS
variable {p : Program} {l : Launch} {e : Env} {R : Room} {s : State} {m : MethodId} {args : Array Value} {below : List Frame} {meth : Method} {c : Code} {T : State} {H : Heap} {locs : List Loc} {cells slots : Nat}
abbrev vx_CSW (R : Room) (s : State) (args : Array Value) (own : String) (index : Nat) (y : MethodName) (bytes : ByteArray) (maxL : Nat) (ret : Option FieldType) (hh : List (Nat × Nat × Nat × Nat)) (ws : List Cond) (rm : Room) (mc ms n : Nat) : Prop :=
  (rm.cells = mc ∧ rm.slots = ms ∧ rm.frames + 1 ≤ R.frames ∧ 8 + (maxL + 11) + rm.locals ≤ R.locals ∧ (∀ w ∈ ws, ∀ (a' : Array Value) (U : State), s.WarmedH U.vm → w.before a' U = true) ∧ Cond.codeWith y bytes maxL ret hh ∈ ws) ∧
  (Cond.codeWith y bytes maxL ret hh).before args s = true ∧ (Cond.initialized y.cls).before args s = true ∧ (y.cls ≠ "java/lang/invoke/MethodHandle" ∧ y.cls ≠ "java/lang/invoke/VarHandle") ∧
  (∀ sig, parseMethodDescriptor y.desc = some sig → n = sig.parameters.length) ∧ (Cond.methodLink own index y).before args s = true ∧ (Cond.static y).before args s = true
theorem vx_cwSW {own : String} {index maxL mc ms : Nat} {y : MethodName} {bytes : ByteArray} {ret : Option FieldType} {hh : List (Nat × Nat × Nat × Nat)} {Ts ws ws' : List Cond} {rm : Room} (n : Nat) (ht : ∀ w ∈ Ts, w.before args s = true) (hT : GoodIn Ts (va_wsS own index y ws)) (hw : ws = Cond.codeWith y bytes maxL ret hh :: ws') (hrc : rm.cells = mc) (hrs : rm.slots = ms)
    (hd : y.cls ≠ "java/lang/invoke/MethodHandle" ∧ y.cls ≠ "java/lang/invoke/VarHandle" ∧ (parseMethodDescriptor y.desc).map (fun d => d.parameters.length) = some n) (hR : rm.frames + 1 ≤ R.frames ∧ 8 + (maxL + 11) + rm.locals ≤ R.locals) :
    vx_CSW R s args own index y bytes maxL ret hh ws rm mc ms n := by
  have ok : ∀ w ∈ va_wsS own index y ws, w.before args s = true := fun w h => ht w (hT w h).1
  have hG : GoodIn Ts ws := fun w h => hT w (by unfold va_wsS; exact List.mem_append_right _ h)
  have hc : Cond.codeWith y bytes maxL ret hh ∈ ws := by rw [hw]; exact List.mem_cons_self
  refine ⟨⟨hrc, hrs, hR.1, hR.2, pay_in ht hG, hc⟩, ht _ (hG _ hc).1, ok _ (by simp [va_wsS]), ⟨hd.1, hd.2.1⟩, fun sig h => ?_, ok _ (by simp [va_wsS]), ok _ (by simp [va_wsS])⟩
  have h2 := hd.2.2
  rw [h] at h2
  exact (Option.some.inj h2).symm
theorem vx_callSW (X : Stand p l e R s m args below meth c T locs cells slots) (hexec : p.tables.exec = Jvm.exec) {own : String} {index : Nat} {y : MethodName} {bytes : ByteArray} {maxL : Nat} {ret : Option FieldType} {hh : List (Nat × Nat × Nat × Nat)}
    (hown : s.vm.findClass own = some m.cls) (hlink : (Cond.methodLink own index y).before args s = true) (hstat : (Cond.static y).before args s = true) (hinit : (Cond.initialized y.cls).before args s = true)
    (hcode : (Cond.codeWith y bytes maxL ret hh).before args s = true) (hy : y.cls ≠ "java/lang/invoke/MethodHandle" ∧ y.cls ≠ "java/lang/invoke/VarHandle")
    {W9 : Nat} {Pre : Pt → Array Value → Prop} {Post : Pt → Array Value → Option Value → Pt → Prop} (hK : Back l R p e below s args y 3 W9 Pre Post)
    {g : JFrame} (hg : g.method = m) (hsize : g.locals.size = c.maxLocals) {argsL rest : List Value} (hlen : ∀ sig, parseMethodDescriptor y.desc = some sig → argsL.length = sig.parameters.length)
    (hstack : g.stack = argsL.reverse ++ rest) (hW : 2 * g.monitorRoom + (rest.map fun v => v.category).sum ≤ W9) (hdg : decode c.code g.pc = .ok (.invokestatic index, 3))
    (hpre : ∀ vm₁, s.WarmedH vm₁ → Pre ⟨T.setVm vm₁, locs, cells, slots⟩ argsL.toArray) :
    ∃ (v : Option Value) (vm₁ : Vm) (B : Pt), s.WarmedH vm₁ ∧ Stand p l e R s m args below meth c B.U B.locs B.cells B.slots ∧ Post ⟨T.setVm vm₁, locs, cells, slots⟩ argsL.toArray v B ∧
      ∀ target, Steps p.tables e below (B.U.setTop { g with pc := g.pc + 3, stack := v.toList ++ rest }) target → Steps p.tables e below (T.setTop g) target := by
  obtain ⟨mk, methM, cM, hnamed, hmethM, -, -, -, -, -, -, hsigM⟩ := Cond.codeWith_spec hcode
  have hstatic : methM.isStatic = true := Cond.static_spec hnamed hmethM hstat
  obtain ⟨kP, hkP, -⟩ := className_of_methodNamed hnamed
  have hinitP : kP.init = .initialized := Cond.initialized_spec (findClass_of_methodNamed hnamed) hkP hinit
  obtain ⟨vm₁, X₁, hstep₁⟩ := X.invokestatic hexec hown hlink hnamed hmethM hstatic hkP hinitP hy (g := g) hg (argsL := argsL) (rest := rest) (hlen _ hsigM) hstack hdg
  obtain ⟨v, B, X', hpost, hsteps⟩ := hK m meth c ⟨T.setVm vm₁, locs, cells, slots⟩ { g with stack := rest } (.invokestatic index) mk argsL.toArray X₁ hg hsize hdg hW (X₁.named hnamed) (hpre vm₁ X₁.warmed)
  exact ⟨v, vm₁, B, X₁.warmed, X', hpost, fun target h => hstep₁ _ fun acts => by rw [doInvoke_state]; exact hsteps.trans h⟩
theorem vx_runSW {y : MethodName} {bytes cc : ByteArray} {maxL nL mc ms n index : Nat} {ret : Option FieldType} {hh : List (Nat × Nat × Nat × Nat)} {ws : List Cond} {rm : Room} {Pc : Array Value → State → Prop} {Qc : Array Value → State → Outcome → State → Prop} {free : Addr → Prop} {Ts : List Cond} {own : String} {As rest : List Value} {g : JFrame}
    (S : CallFix p m c cc nL s args Ts own) (hM : Met l y ws rm Pc Qc mc ms free) (cw : vx_CSW R s args own index y bytes maxL ret hh ws rm mc ms n) (hp : PreS s H Pc As)
    (hg : g.method = m) (hn : As.length = n) (hsize : g.locals.size = nL) (hstack : g.stack = As.reverse ++ rest) (hW : 2 * g.monitorRoom + (rest.map fun v => v.category).sum ≤ 8) (hdg : decode cc g.pc = .ok (.invokestatic index, 3)) (hf : cells + mc ≤ R.cells ∧ slots + ms ≤ R.slots) :
    va_Run p l e R s m args below meth c H locs cells slots mc ms g rest (Qc As.toArray) (free) := by
  obtain ⟨⟨hrc, hrs, hfr, hlo, hws, hcw⟩, hcode, hini, hy, hlen, hl, hstt⟩ := cw
  have hK : Back l R p e below s args y 3 8 (PreOf R mc ms Pc) (PostOf Qc mc ms free) := va_backW (hh := hh) (bytes := bytes) (maxL := maxL) (ret := ret) hM hp.1 hrc hrs hfr hlo hws hcw (fun a' U hW => word_at hW (Or.inl (by first | rfl | simp [Cond.onTables, Cond.keeps, Cond.steady])) hini)
  obtain ⟨hx, hb, hml, ho, -⟩ := S
  intro T hT X
  obtain ⟨v, vm₁, ⟨U', l2, c2, s2⟩, hW₁, X', ⟨g', mk, t, L, e1, e2, hq, h1, hL, h2, h3⟩, st⟩ := vx_callSW X hx (hh := hh) (bytes := bytes) (maxL := maxL) (ret := ret) ho hl hstt hini hcode hy hK hg (hsize.trans hml.symm) (argsL := As) (rest := rest) (fun sig h => hn.trans (hlen sig h)) hstack hW (by rw [hb]; exact hdg)
    (fun vm₁ hW₁ => ⟨hf.1, hf.2, hp.2 (T.setVm vm₁) hT hW₁⟩)
  dsimp only [Pt.U, Pt.locs, Pt.cells, Pt.slots] at X' e1 e2 h1 h2 h3 st
  subst h1; subst h2; subst h3
  exact ⟨v, (T.setVm vm₁).calling g' mk As.toArray, t, U', L, hT, X', hL, e1, e2, hq, st⟩
/-- not caught here, past rows that name other classes: it goes on to the caller -/
theorem vx_outP {p : Program} {l : Launch} {e : Env} {R : Room} {s : State} {m : MethodId} {args : Array Value} {below : List Frame} {meth : Method} {c : Code} {H : Heap} {locs : List Loc} {cells slots : Nat} {free : Addr → Prop} {ls : Array Slot} {rest : List Value} {Qc : Array Value → State → Outcome → State → Prop} {XC : String → State → State → Prop}
    {pc : Nat} {own E : String} {ce : Cell} {q : Addr} {mc ms : Nat} (hown : s.vm.findClass own = some m.cls) (hlocks : meth.locks = false)
    (hpass : ∀ z ∈ c.exceptionTable.toList, covers z pc = false ∨ (z.catchType ≠ 0 ∧ ∃ nm : String, (Cond.classLink own z.catchType nm).before args s = true ∧ va_Nc E nm s)) (hcell : H[q]? = some ce) (hv : ce.vm = .none) (hcl : s.vm.findClass E = some ce.cls)
    (hx : ∀ t : State, t.heap = H → s.vm.Alike t.vm → XC E s t) (hf : ∀ z ∈ locs, free z.base) (hc : cells ≤ mc) (hs : slots ≤ ms) :
    vx_W p l e R s m args below meth c H locs cells slots (vx_MQ below Qc XC args s mc ms free) (F0 m pc ls rest) q := by
  intro T hT X
  have hpl : e.platform.magicAccessors = ({} : Platform).magicAccessors := by rw [X.admits.platform]
  obtain ⟨vm', hW', X', st⟩ := X.outThrough hlocks q (g := F0 m pc ls rest) rfl rfl rfl (cell := ce) (by rw [hT]; exact hcell) (by rw [hv]; rfl)
    (by obtain ⟨k9, h9, -⟩ := Vm.findClass_spec hcl; exact ⟨k9, h9⟩) (fun z hz => by
      rcases hpass z hz with h | ⟨hz0, nm, hl1, hn1⟩
      · exact Or.inl h
      · obtain ⟨c6, hc6, hcl6⟩ := Cond.classLink_spec hown hl1 e.platform hpl
        obtain ⟨a8, b8, h1, h2, h3⟩ := hn1
        cases Option.some.inj (h1.symm.trans hcl)
        cases Option.some.inj (h2.symm.trans hc6)
        exact Or.inr ⟨hz0, _, hcl6, h3⟩)
  obtain ⟨g₀, hfr⟩ := X'.frames_eq
  have hcell9 : ((T.setVm vm').setFrames (.throwing q :: below)).heap[q]? = some ce := by
    show T.heap[q]? = some ce
    rw [hT]; exact hcell
  have hend : Ended ((T.setVm vm').setFrames (.throwing q :: below)) below (.threw q) := State.frames_setFrames _ (State.cur_lt_of_frames hfr)
  refine ⟨(T.setVm vm').setFrames (.throwing q :: below), ?_, .threw q, X'.here.running, hend, Or.inr ⟨q, rfl, E, ce, locs, hx _ hT (X'.ends _).1.alike, hcell9, hv, hcl, (X'.ends _).1, (X'.ends _).2.mono hc hs, hf⟩⟩
  rw [X.pushThrowing_eq]
  exact st
/-- a thing of a world lies in the heap -/
theorem vx_lt {D : va_G} {cl : List vw_C} {ws : va_W} {H1 : Heap} (h : va_P D cl ws H1) {k : Nat} {q : Nat × va_E} (hk : ws[k]? = some q) : q.1 < H1.size := (h k q hk).lt
end VXS
/-! ===== END ===== -/
/-! ===== BEGIN methods with a table of their own: called by a name, returning or throwing ===== -/
section VXH
/-! vx_backW, vx_callVX, vx_callSX, vx_callVW, vx_runVW, vx_runVX, vx_runSX, vx_ofWH follow the same proofs as their sisters above (Free/Laws.lean, Shelf42/LK1.lean); vx_outP calls Shelf42/NT130.lean (outThrough). -/
section
variable {l : Launch} {R : Room} {p : Program} {e : Env} {below : List Frame} {s : State} {sargs : Array Value} {y : MethodName} {len W9 : Nat}
theorem vx_backW {ws : List Cond} {rm : Room} {Pc : Array Value → State → Prop} {Qc : Array Value → State → Outcome → State → Prop} {XC : String → State → State → Prop} {mc ms : Nat} {free : Addr → Prop} {bytes : ByteArray} {maxL : Nat} {ret : Option FieldType} {hh : List (Nat × Nat × Nat × Nat)}
    (hM : vx_Met l y ws rm Pc Qc XC mc ms free) (hblind : FrameBlind Pc) (hrc : rm.cells = mc) (hrs : rm.slots = ms)
    (hframes : rm.frames + 1 ≤ R.frames) (hlocals : W9 + (maxL + 11) + rm.locals ≤ R.locals)
    (hws : ∀ w ∈ ws, ∀ a' U, s.WarmedH U.vm → w.before a' U = true) (hcode : Cond.codeWith y bytes maxL ret hh ∈ ws) (hinit : ∀ a' U, s.WarmedH U.vm → (Cond.initialized y.cls).before a' U = true) :
    vx_Back l R p e below s sargs y len W9 (PreOf R mc ms Pc) (PostOf Qc mc ms free) (vx_Post XC mc ms free) := by
  intro m meth c A g ig mk a X hg hsize hdg hW hn hp
  have h1 : (headSpec ws rm).pre.before a A.U = true := atoms_intro fun w hw => hws w hw _ _ X.warmed
  have h2 : (Cond.codeWith y bytes maxL ret hh).before a A.U = true := hws _ hcode _ _ X.warmed
  have h3 : (Cond.initialized y.cls).before a A.U = true := hinit _ _ X.warmed
  have h4 : A.cells + (headSpec ws rm).room.cells ≤ R.cells := by rw [show (headSpec ws rm).room.cells = mc from hrc]; exact hp.1
  have h5 : A.slots + (headSpec ws rm).room.slots ≤ R.slots := by rw [show (headSpec ws rm).room.slots = ms from hrs]; exact hp.2.1
  have hPc : Pc a (A.U.calling g mk a) := hblind _ _ _ _ hp.2.2
  obtain ⟨U, Ls, c0, s0⟩ := A
  dsimp only [Pt.U, Pt.locs, Pt.cells, Pt.slots] at h1 h2 h3 h4 h5 X hn hPc ⊢
  obtain ⟨m9, methY, cY, hn9, hmY, hcY, -, hlY, -⟩ := Cond.codeWith_spec h2
  cases Option.some.inj (hn9.symm.trans hn)
  obtain ⟨kY, hkY, -⟩ := className_of_methodNamed hn
  have hinitY : kY.init = .initialized := Cond.initialized_spec (findClass_of_methodNamed hn) hkY h3
  have h : At U g.method c below := by rw [hg]; exact X.here
  have hlocals9 : W9 + (maxL + 11) + (headSpec ws rm).room.locals ≤ R.locals := hlocals
  have happ : (headSpec ws rm).appliesLoose y e.platform (U.calling g mk a) = true :=
    Spec.appliesLoose_calling (g := g) h hdg hn hkY hinitY
      (X.room_calling (g := g) (R' := (headSpec ws rm).room) hsize hmY hcY hframes (by rw [hlY]; omega) h4 h5) h1
  obtain ⟨mid, hmid⟩ := h.above
  have hfr : (U.setTop g).frames = (.java g :: mid) ++ below := by rw [State.frames_setTop' g h.top, hmid]; rfl
  obtain ⟨o, s₂, hsteps, -, hend, hq⟩ := Steps.callFree hM p X.admits X.cas X.clock (acts := []) hfr happ hPc trivial
  have hq' : vx_Q Qc XC mc ms free a (U.calling g mk a) o s₂ := hq
  rw [State.frames_setTop' g h.top] at hend
  obtain ⟨g₀, hg0⟩ := Option.isSome_iff_exists.mp h.top
  obtain ⟨r, hr⟩ := State.topJava?_eq_some.mp hg0
  have hr' : (({ U with heap := s₂.heap, slotsUsed := s₂.slotsUsed } : State).setVm s₂.vm).frames = .java g₀ :: r := hr
  rcases hq' with ⟨hqc, L, hfe, hL⟩ | ⟨q, rfl, E, ce, L, hx, hce, hcv, hcl, hW₂, hsm, hL⟩
  · obtain ⟨⟨v, rfl⟩, hW₂, e2, q2, q3, q4, q5, q6⟩ := id hfe
    have e3 : s₂ = ({ (U.calling g mk a).setFrames s₂.frames with heap := s₂.heap, slotsUsed := s₂.slotsUsed } : State).setVm s₂.vm := by
      have : s₂ = ({ s₂ with vm := (U.calling g mk a).vm } : State).setVm s₂.vm := rfl
      rw [e2] at this
      exact this
    obtain ⟨c₂, i₂, len₂, hc₂, hd₂, hf₂⟩ := hend
    have hW' : U.WarmedH s₂.vm := hW₂
    have hcc : c₂ = c := by
      have h1 : s₂.code? g.method = U.code? g.method := by
        rw [State.code?_eq, State.code?_eq, hW'.alike.method?]
      exact Option.some.inj (hc₂.symm.trans (h1.trans h.code))
    subst hcc
    have hlen : len₂ = len := by rw [hdg] at hd₂; cases hd₂; rfl
    subst hlen
    have hs₂ : s₂ = (({ U with heap := s₂.heap, slotsUsed := s₂.slotsUsed } : State).setVm s₂.vm).setTop { g with pc := g.pc + len₂, stack := v.toList ++ g.stack } := by
      refine e3.trans ?_
      rw [hf₂, State.calling_eq h.top, State.setFrames_setFrames, State.setTop_of_frames _ hr', hr]
      rfl
    have hsame : U.sameButNew ({ U with heap := s₂.heap, slotsUsed := s₂.slotsUsed } : State) L mc ms := by
      refine ⟨?_, q2, q3, q4, q5, q6⟩
      obtain ⟨t, ht, -⟩ := State.frames_cons hr
      show ({ U with heap := s₂.heap, slotsUsed := s₂.slotsUsed } : State) = { U.setFrames U.frames with heap := s₂.heap, slotsUsed := s₂.slotsUsed }
      rw [State.setFrames_self ht]
    subst hg
    refine Or.inl ⟨v, ⟨(({ U with heap := s₂.heap, slotsUsed := s₂.slotsUsed } : State).setVm s₂.vm), Ls ++ L, c0 + mc, s0 + ms⟩,
      ⟨X.admits, X.cas, X.clock, X.frames, X.room, X.hears, X.method, X.code, (X.here.setHeapUsed s₂.heap s₂.slotsUsed).setVm hW'.alike, X.tail, State.WarmedH.trans X.warmed hW', X.limits, X.bytes, X.same.trans (hsame.setVm s.vm)⟩,
      ⟨g, mk, s₂, L, rfl, rfl, hqc, rfl, hL, rfl, rfl⟩, ?_⟩
    show Steps p.tables e below _ ((({ U with heap := s₂.heap, slotsUsed := s₂.slotsUsed } : State).setVm s₂.vm).setTop { g with pc := g.pc + len₂, stack := v.toList ++ g.stack })
    rw [← hs₂]
    exact hsteps
  · obtain ⟨e2, q2, q3, q4, q5, q6⟩ := id hsm
    have e3 : s₂ = ({ (U.calling g mk a).setFrames s₂.frames with heap := s₂.heap, slotsUsed := s₂.slotsUsed } : State).setVm s₂.vm := by
      have : s₂ = ({ s₂ with vm := (U.calling g mk a).vm } : State).setVm s₂.vm := rfl
      rw [e2] at this
      exact this
    have hf₂ : s₂.frames = .throwing q :: .java g :: U.frames.tail := hend
    have hW' : U.WarmedH s₂.vm := hW₂
    have hs₂ : s₂ = ((({ U with heap := s₂.heap, slotsUsed := s₂.slotsUsed } : State).setVm s₂.vm).setTop g).pushFrame (.throwing q) := by
      refine e3.trans ?_
      rw [hf₂, State.calling_eq h.top, State.setFrames_setFrames, State.pushFrame, State.frames_setTop _ hr', State.setTop_of_frames _ hr', State.setFrames_setFrames, hr]
      rfl
    have hsame : U.sameButNew ({ U with heap := s₂.heap, slotsUsed := s₂.slotsUsed } : State) L mc ms := by
      refine ⟨?_, q2, q3, q4, q5, q6⟩
      obtain ⟨t, ht, -⟩ := State.frames_cons hr
      show ({ U with heap := s₂.heap, slotsUsed := s₂.slotsUsed } : State) = { U.setFrames U.frames with heap := s₂.heap, slotsUsed := s₂.slotsUsed }
      rw [State.setFrames_self ht]
    subst hg
    refine Or.inr ⟨q, ⟨(({ U with heap := s₂.heap, slotsUsed := s₂.slotsUsed } : State).setVm s₂.vm), Ls ++ L, c0 + mc, s0 + ms⟩,
      ⟨X.admits, X.cas, X.clock, X.frames, X.room, X.hears, X.method, X.code, (X.here.setHeapUsed s₂.heap s₂.slotsUsed).setVm hW'.alike, X.tail, State.WarmedH.trans X.warmed hW', X.limits, X.bytes, X.same.trans (hsame.setVm s.vm)⟩,
      ⟨g, mk, s₂, L, E, ce, rfl, rfl, hx, hce, hcv, hcl, rfl, hL, rfl, rfl⟩, ?_⟩
    show Steps p.tables e below _ (((({ U with heap := s₂.heap, slotsUsed := s₂.slotsUsed } : State).setVm s₂.vm).setTop g).pushFrame (.throwing q))
    rw [← hs₂]
    exact hsteps
end
variable {p : Program} {l : Launch} {e : Env} {R : Room} {s : State} {m : MethodId} {args : Array Value} {below : List Frame} {meth : Method} {c : Code} {T : State} {H : Heap} {locs : List Loc} {cells slots : Nat}
theorem vx_callVX (X : Stand p l e R s m args below meth c T locs cells slots) (hexec : p.tables.exec = Jvm.exec) {own C : String} {index : Nat} {y : MethodName} {bytes : ByteArray} {maxL : Nat} {ret : Option FieldType} {hh : List (Nat × Nat × Nat × Nat)}
    (hown : s.vm.findClass own = some m.cls) (hlink : (Cond.methodLink own index y).before args s = true) (hinst : (Cond.instanceMethod y).before args s = true) (hsel : (Cond.selects C y y).before args s = true)
    (hcode : (Cond.codeWith y bytes maxL ret hh).before args s = true) (hy : y.cls ≠ "java/lang/invoke/MethodHandle" ∧ y.cls ≠ "java/lang/invoke/VarHandle")
    {W9 : Nat} {Pre : Pt → Array Value → Prop} {Post : Pt → Array Value → Option Value → Pt → Prop} {PostX : Pt → Array Value → Addr → Pt → Prop} (hK : vx_Back l R p e below s args y 3 W9 Pre Post PostX)
    {b : Addr} {cellB : Cell} (hcell : T.heap[b]? = some cellB) (hobj : cellB.vm.isStatics = false) (hcls : s.vm.findClass C = some cellB.cls)
    {g : JFrame} (hg : g.method = m) (hsize : g.locals.size = c.maxLocals) {argsL rest : List Value} (hlen : ∀ sig, parseMethodDescriptor y.desc = some sig → argsL.length = sig.parameters.length)
    (hstack : g.stack = argsL.reverse ++ .ref b :: rest) (hW : 2 * g.monitorRoom + (rest.map fun v => v.category).sum ≤ W9) (hdg : decode c.code g.pc = .ok (.invokevirtual index, 3))
    (hpre : ∀ vm₁, s.WarmedH vm₁ → Pre ⟨T.setVm vm₁, locs, cells, slots⟩ (Value.ref b :: argsL).toArray) :
    (∃ (v : Option Value) (vm₁ : Vm) (B : Pt), s.WarmedH vm₁ ∧ Stand p l e R s m args below meth c B.U B.locs B.cells B.slots ∧ Post ⟨T.setVm vm₁, locs, cells, slots⟩ (Value.ref b :: argsL).toArray v B ∧
      ∀ target, Steps p.tables e below (B.U.setTop { g with pc := g.pc + 3, stack := v.toList ++ rest }) target → Steps p.tables e below (T.setTop g) target) ∨
    (∃ (q : Addr) (vm₁ : Vm) (B : Pt), s.WarmedH vm₁ ∧ Stand p l e R s m args below meth c B.U B.locs B.cells B.slots ∧ PostX ⟨T.setVm vm₁, locs, cells, slots⟩ (Value.ref b :: argsL).toArray q B ∧
      Steps p.tables e below (T.setTop g) ((B.U.setTop { g with stack := rest }).pushFrame (.throwing q))) := by
  obtain ⟨mk, methM, hnamed, hmethM, hstM, habM⟩ := Cond.instanceMethod_spec hinst
  obtain ⟨m8, methM', cM, hn8, hmethM', -, -, -, -, -, -, hsigM⟩ := Cond.codeWith_spec hcode
  cases Option.some.inj (hn8.symm.trans hnamed)
  cases hmethM.symm.trans hmethM'
  obtain ⟨c2, r2, m2, q1, q2, q3, q4, kP, hkP, hkPi⟩ := Cond.selects_spec hsel
  cases hcls.symm.trans q1
  cases (State.methodFound?_of_named hnamed hy).symm.trans q2
  cases hnamed.symm.trans q3
  have hselP : selectMethod e.platform s.vm cellB.cls mk = .method mk := by rw [Launch.admits_selectMethod X.admits]; exact q4
  obtain ⟨vm₁, X₁, hstep₁⟩ := X.invokevirtual hexec hown hlink hnamed hmethM hstM hkP hkPi hy (a := b) (cell := cellB) hcell
    (fun z h => by rw [h] at hobj; cases hobj) hselP hmethM habM hkP hkPi (g := g) hg (argsL := argsL) (rest := rest) (hlen _ hsigM) hstack hdg
  rcases hK m meth c ⟨T.setVm vm₁, locs, cells, slots⟩ { g with stack := rest } (.invokevirtual index) mk (Value.ref b :: argsL).toArray X₁ hg hsize hdg hW (X₁.named hnamed) (hpre vm₁ X₁.warmed) with ⟨v, B, X', hpost, hsteps⟩ | ⟨q, B, X', hpost, hsteps⟩
  · exact Or.inl ⟨v, vm₁, B, X₁.warmed, X', hpost, fun target h => hstep₁ _ fun acts => by rw [doInvoke_state]; exact hsteps.trans h⟩
  · exact Or.inr ⟨q, vm₁, B, X₁.warmed, X', hpost, hstep₁ _ fun acts => by rw [doInvoke_state]; exact hsteps⟩
theorem vx_callSX (X : Stand p l e R s m args below meth c T locs cells slots) (hexec : p.tables.exec = Jvm.exec) {own : String} {index : Nat} {y : MethodName} {bytes : ByteArray} {maxL : Nat} {ret : Option FieldType} {hh : List (Nat × Nat × Nat × Nat)}
    (hown : s.vm.findClass own = some m.cls) (hlink : (Cond.methodLink own index y).before args s = true) (hstat : (Cond.static y).before args s = true) (hinit : (Cond.initialized y.cls).before args s = true)
    (hcode : (Cond.codeWith y bytes maxL ret hh).before args s = true) (hy : y.cls ≠ "java/lang/invoke/MethodHandle" ∧ y.cls ≠ "java/lang/invoke/VarHandle")
    {W9 : Nat} {Pre : Pt → Array Value → Prop} {Post : Pt → Array Value → Option Value → Pt → Prop} {PostX : Pt → Array Value → Addr → Pt → Prop} (hK : vx_Back l R p e below s args y 3 W9 Pre Post PostX)
    {g : JFrame} (hg : g.method = m) (hsize : g.locals.size = c.maxLocals) {argsL rest : List Value} (hlen : ∀ sig, parseMethodDescriptor y.desc = some sig → argsL.length = sig.parameters.length)
    (hstack : g.stack = argsL.reverse ++ rest) (hW : 2 * g.monitorRoom + (rest.map fun v => v.category).sum ≤ W9) (hdg : decode c.code g.pc = .ok (.invokestatic index, 3))
    (hpre : ∀ vm₁, s.WarmedH vm₁ → Pre ⟨T.setVm vm₁, locs, cells, slots⟩ argsL.toArray) :
    (∃ (v : Option Value) (vm₁ : Vm) (B : Pt), s.WarmedH vm₁ ∧ Stand p l e R s m args below meth c B.U B.locs B.cells B.slots ∧ Post ⟨T.setVm vm₁, locs, cells, slots⟩ argsL.toArray v B ∧
      ∀ target, Steps p.tables e below (B.U.setTop { g with pc := g.pc + 3, stack := v.toList ++ rest }) target → Steps p.tables e below (T.setTop g) target) ∨
    (∃ (q : Addr) (vm₁ : Vm) (B : Pt), s.WarmedH vm₁ ∧ Stand p l e R s m args below meth c B.U B.locs B.cells B.slots ∧ PostX ⟨T.setVm vm₁, locs, cells, slots⟩ argsL.toArray q B ∧
      Steps p.tables e below (T.setTop g) ((B.U.setTop { g with stack := rest }).pushFrame (.throwing q))) := by
  obtain ⟨mk, methM, cM, hnamed, hmethM, -, -, -, -, -, -, hsigM⟩ := Cond.codeWith_spec hcode
  have hstatic : methM.isStatic = true := Cond.static_spec hnamed hmethM hstat
  obtain ⟨kP, hkP, -⟩ := className_of_methodNamed hnamed
  have hinitP : kP.init = .initialized := Cond.initialized_spec (findClass_of_methodNamed hnamed) hkP hinit
  obtain ⟨vm₁, X₁, hstep₁⟩ := X.invokestatic hexec hown hlink hnamed hmethM hstatic hkP hinitP hy (g := g) hg (argsL := argsL) (rest := rest) (hlen _ hsigM) hstack hdg
  rcases hK m meth c ⟨T.setVm vm₁, locs, cells, slots⟩ { g with stack := rest } (.invokestatic index) mk argsL.toArray X₁ hg hsize hdg hW (X₁.named hnamed) (hpre vm₁ X₁.warmed) with ⟨v, B, X', hpost, hsteps⟩ | ⟨q, B, X', hpost, hsteps⟩
  · exact Or.inl ⟨v, vm₁, B, X₁.warmed, X', hpost, fun target h => hstep₁ _ fun acts => by rw [doInvoke_state]; exact hsteps.trans h⟩
  · exact Or.inr ⟨q, vm₁, B, X₁.warmed, X', hpost, hstep₁ _ fun acts => by rw [doInvoke_state]; exact hsteps⟩
theorem vx_callVW (X : Stand p l e R s m args below meth c T locs cells slots) (hexec : p.tables.exec = Jvm.exec) {own C : String} {index : Nat} {y : MethodName} {bytes : ByteArray} {maxL : Nat} {ret : Option FieldType} {hh : List (Nat × Nat × Nat × Nat)}
    (hown : s.vm.findClass own = some m.cls) (hlink : (Cond.methodLink own index y).before args s = true) (hinst : (Cond.instanceMethod y).before args s = true) (hsel : (Cond.selects C y y).before args s = true)
    (hcode : (Cond.codeWith y bytes maxL ret hh).before args s = true) (hy : y.cls ≠ "java/lang/invoke/MethodHandle" ∧ y.cls ≠ "java/lang/invoke/VarHandle")
    {W9 : Nat} {Pre : Pt → Array Value → Prop} {Post : Pt → Array Value → Option Value → Pt → Prop} (hK : Back l R p e below s args y 3 W9 Pre Post)
    {b : Addr} {cellB : Cell} (hcell : T.heap[b]? = some cellB) (hobj : cellB.vm.isStatics = false) (hcls : s.vm.findClass C = some cellB.cls)
    {g : JFrame} (hg : g.method = m) (hsize : g.locals.size = c.maxLocals) {argsL rest : List Value} (hlen : ∀ sig, parseMethodDescriptor y.desc = some sig → argsL.length = sig.parameters.length)
    (hstack : g.stack = argsL.reverse ++ .ref b :: rest) (hW : 2 * g.monitorRoom + (rest.map fun v => v.category).sum ≤ W9) (hdg : decode c.code g.pc = .ok (.invokevirtual index, 3))
    (hpre : ∀ vm₁, s.WarmedH vm₁ → Pre ⟨T.setVm vm₁, locs, cells, slots⟩ (Value.ref b :: argsL).toArray) :
    ∃ (v : Option Value) (vm₁ : Vm) (B : Pt), s.WarmedH vm₁ ∧ Stand p l e R s m args below meth c B.U B.locs B.cells B.slots ∧ Post ⟨T.setVm vm₁, locs, cells, slots⟩ (Value.ref b :: argsL).toArray v B ∧
      ∀ target, Steps p.tables e below (B.U.setTop { g with pc := g.pc + 3, stack := v.toList ++ rest }) target → Steps p.tables e below (T.setTop g) target := by
  obtain ⟨mk, methM, hnamed, hmethM, hstM, habM⟩ := Cond.instanceMethod_spec hinst
  obtain ⟨m8, methM', cM, hn8, hmethM', -, -, -, -, -, -, hsigM⟩ := Cond.codeWith_spec hcode
  cases Option.some.inj (hn8.symm.trans hnamed)
  cases hmethM.symm.trans hmethM'
  obtain ⟨c2, r2, m2, q1, q2, q3, q4, kP, hkP, hkPi⟩ := Cond.selects_spec hsel
  cases hcls.symm.trans q1
  cases (State.methodFound?_of_named hnamed hy).symm.trans q2
  cases hnamed.symm.trans q3
  have hselP : selectMethod e.platform s.vm cellB.cls mk = .method mk := by rw [Launch.admits_selectMethod X.admits]; exact q4
  obtain ⟨vm₁, X₁, hstep₁⟩ := X.invokevirtual hexec hown hlink hnamed hmethM hstM hkP hkPi hy (a := b) (cell := cellB) hcell
    (fun z h => by rw [h] at hobj; cases hobj) hselP hmethM habM hkP hkPi (g := g) hg (argsL := argsL) (rest := rest) (hlen _ hsigM) hstack hdg
  obtain ⟨v, B, X', hpost, hsteps⟩ := hK m meth c ⟨T.setVm vm₁, locs, cells, slots⟩ { g with stack := rest } (.invokevirtual index) mk (Value.ref b :: argsL).toArray X₁ hg hsize hdg hW (X₁.named hnamed) (hpre vm₁ X₁.warmed)
  exact ⟨v, vm₁, B, X₁.warmed, X', hpost, fun target h => hstep₁ _ fun acts => by rw [doInvoke_state]; exact hsteps.trans h⟩
abbrev vx_CVW (R : Room) (s : State) (args : Array Value) (own C : String) (index : Nat) (y : MethodName) (bytes : ByteArray) (maxL : Nat) (ret : Option FieldType) (hh : List (Nat × Nat × Nat × Nat)) (ws : List Cond) (rm : Room) (mc ms n : Nat) : Prop :=
  (rm.cells = mc ∧ rm.slots = ms ∧ rm.frames + 1 ≤ R.frames ∧ 8 + (maxL + 11) + rm.locals ≤ R.locals ∧ (∀ w ∈ ws, ∀ (a' : Array Value) (U : State), s.WarmedH U.vm → w.before a' U = true) ∧ Cond.codeWith y bytes maxL ret hh ∈ ws) ∧
  (Cond.codeWith y bytes maxL ret hh).before args s = true ∧ (Cond.initialized y.cls).before args s = true ∧ (y.cls ≠ "java/lang/invoke/MethodHandle" ∧ y.cls ≠ "java/lang/invoke/VarHandle") ∧
  (∀ sig, parseMethodDescriptor y.desc = some sig → n = sig.parameters.length) ∧ (Cond.methodLink own index y).before args s = true ∧ (Cond.instanceMethod y).before args s = true ∧ (Cond.selects C y y).before args s = true
theorem vx_cwVW {own C : String} {index maxL mc ms : Nat} {y : MethodName} {bytes : ByteArray} {ret : Option FieldType} {hh : List (Nat × Nat × Nat × Nat)} {Ts ws ws' : List Cond} {rm : Room} (n : Nat) (ht : ∀ w ∈ Ts, w.before args s = true) (hT : GoodIn Ts (wsV own index C y ws)) (hw : ws = Cond.codeWith y bytes maxL ret hh :: ws') (hrc : rm.cells = mc) (hrs : rm.slots = ms)
    (hd : y.cls = C ∧ y.cls ≠ "java/lang/invoke/MethodHandle" ∧ y.cls ≠ "java/lang/invoke/VarHandle" ∧ (parseMethodDescriptor y.desc).map (fun d => d.parameters.length) = some n) (hR : rm.frames + 1 ≤ R.frames ∧ 8 + (maxL + 11) + rm.locals ≤ R.locals) :
    vx_CVW R s args own C index y bytes maxL ret hh ws rm mc ms n := by
  obtain ⟨hC, hd⟩ := hd
  subst hC
  have ok : ∀ w ∈ wsV own index y.cls y ws, w.before args s = true := fun w h => ht w (hT w h).1
  have hG : GoodIn Ts ws := fun w h => hT w (by unfold wsV; exact List.mem_append_right _ h)
  have hc : Cond.codeWith y bytes maxL ret hh ∈ ws := by rw [hw]; exact List.mem_cons_self
  refine ⟨⟨hrc, hrs, hR.1, hR.2, pay_in ht hG, hc⟩, ht _ (hG _ hc).1, ok _ (by simp [wsV]), ⟨hd.1, hd.2.1⟩, fun sig h => ?_, ok _ (by simp [wsV]), ok _ (by simp [wsV]), ok _ (by simp [wsV])⟩
  have h2 := hd.2.2
  rw [h] at h2
  exact (Option.some.inj h2).symm
theorem vx_runVW {y : MethodName} {bytes cc : ByteArray} {maxL nL mc ms n index : Nat} {ret : Option FieldType} {hh : List (Nat × Nat × Nat × Nat)} {ws : List Cond} {rm : Room} {Pc : Array Value → State → Prop} {Qc : Array Value → State → Outcome → State → Prop} {free : Addr → Prop} {Ts : List Cond} {own C : String} {b : Addr} {As rest : List Value} {g : JFrame}
    (S : CallFix p m c cc nL s args Ts own) (hM : Met l y ws rm Pc Qc mc ms free) (cw : vx_CVW R s args own C index y bytes maxL ret hh ws rm mc ms n) (hp : PreV s H C b Pc As)
    (hg : g.method = m) (hn : As.length = n) (hsize : g.locals.size = nL) (hstack : g.stack = As.reverse ++ .ref b :: rest) (hW : 2 * g.monitorRoom + (rest.map fun v => v.category).sum ≤ 8) (hdg : decode cc g.pc = .ok (.invokevirtual index, 3)) (hf : cells + mc ≤ R.cells ∧ slots + ms ≤ R.slots) :
    va_Run p l e R s m args below meth c H locs cells slots mc ms g rest (Qc (Value.ref b :: As).toArray) free := by
  obtain ⟨⟨hrc, hrs, hfr, hlo, hws, hcw⟩, hcode, hini, hy, hlen, hl, hin, hse⟩ := cw
  have hK : Back l R p e below s args y 3 8 (PreOf R mc ms Pc) (PostOf Qc mc ms free) := va_backW (hh := hh) (bytes := bytes) (maxL := maxL) (ret := ret) hM hp.1 hrc hrs hfr hlo hws hcw (fun a' U hW => word_at hW (Or.inl (by first | rfl | simp [Cond.onTables, Cond.keeps, Cond.steady])) hini)
  obtain ⟨hx, hb, hml, ho, -⟩ := S
  obtain ⟨-, ⟨cellB, hcB, hoB, hclB⟩, hPc⟩ := hp
  intro T hT X
  obtain ⟨v, vm₁, ⟨U', l2, c2, s2⟩, hW₁, X', ⟨g', mk, t, L, e1, e2, hq, h1, hL, h2, h3⟩, st⟩ := vx_callVW X hx (C := C) (hh := hh) (bytes := bytes) (maxL := maxL) (ret := ret) ho hl hin hse hcode hy hK (by rw [hT]; exact hcB) hoB hclB hg (hsize.trans hml.symm) (argsL := As) (rest := rest) (fun sig h => hn.trans (hlen sig h)) hstack hW (by rw [hb]; exact hdg)
    (fun vm₁ hW₁ => ⟨hf.1, hf.2, hPc (T.setVm vm₁) hT hW₁⟩)
  dsimp only [Pt.U, Pt.locs, Pt.cells, Pt.slots] at X' e1 e2 h1 h2 h3 st
  subst h1; subst h2; subst h3
  exact ⟨v, (T.setVm vm₁).calling g' mk (Value.ref b :: As).toArray, t, U', L, hT, X', hL, e1, e2, hq, st⟩
section
variable {y : MethodName} {bytes cc : ByteArray} {maxL nL mc ms n index : Nat} {ret : Option FieldType} {ws : List Cond} {rm : Room} {Pc : Array Value → State → Prop} {Qc : Array Value → State → Outcome → State → Prop} {XC : String → State → State → Prop} {free : Addr → Prop} {Ts : List Cond} {own C : String} {b : Addr} {As rest : List Value} {g : JFrame}
theorem vx_runVX {hh : List (Nat × Nat × Nat × Nat)} (S : CallFix p m c cc nL s args Ts own) (hM : vx_Met l y ws rm Pc Qc XC mc ms free) (cw : vx_CVW R s args own C index y bytes maxL ret hh ws rm mc ms n) (hp : PreV s H C b Pc As)
    (hg : g.method = m) (hn : As.length = n) (hsize : g.locals.size = nL) (hstack : g.stack = As.reverse ++ .ref b :: rest) (hW : 2 * g.monitorRoom + (rest.map fun v => v.category).sum ≤ 8) (hdg : decode cc g.pc = .ok (.invokevirtual index, 3)) (hf : cells + mc ≤ R.cells ∧ slots + ms ≤ R.slots) :
    vx_Run p l e R s m args below meth c H locs cells slots mc ms g rest (Qc (Value.ref b :: As).toArray) XC free := by
  obtain ⟨⟨hrc, hrs, hfr, hlo, hws, hcw⟩, hcode, hini, hy, hlen, hl, hin, hse⟩ := cw
  have hK : vx_Back l R p e below s args y 3 8 (PreOf R mc ms Pc) (PostOf Qc mc ms free) (vx_Post XC mc ms free) := vx_backW (hh := hh) (bytes := bytes) (maxL := maxL) (ret := ret) hM hp.1 hrc hrs hfr hlo hws hcw (fun a' U hW => word_at hW (Or.inl (by first | rfl | simp [Cond.onTables, Cond.keeps, Cond.steady])) hini)
  obtain ⟨hx, hb, hml, ho, -⟩ := S
  obtain ⟨-, ⟨cellB, hcB, hoB, hclB⟩, hPc⟩ := hp
  intro T hT X
  rcases vx_callVX X hx (C := C) (hh := hh) (bytes := bytes) (maxL := maxL) (ret := ret) ho hl hin hse hcode hy hK (by rw [hT]; exact hcB) hoB hclB hg (hsize.trans hml.symm) (argsL := As) (rest := rest) (fun sig h => hn.trans (hlen sig h)) hstack hW (by rw [hb]; exact hdg)
    (fun vm₁ hW₁ => ⟨hf.1, hf.2, hPc (T.setVm vm₁) hT hW₁⟩) with ⟨v, vm₁, ⟨U', l2, c2, s2⟩, hW₁, X', ⟨g', mk, t, L, e1, e2, hq, h1, hL, h2, h3⟩, st⟩ | ⟨q, vm₁, ⟨U', l2, c2, s2⟩, hW₁, X', ⟨g', mk, t, L, E, ce, e1, e2, hq, hce, hcv, hcl, h1, hL, h2, h3⟩, st⟩
  · dsimp only [Pt.U, Pt.locs, Pt.cells, Pt.slots] at X' e1 e2 h1 h2 h3 st
    subst h1; subst h2; subst h3
    exact Or.inl ⟨v, (T.setVm vm₁).calling g' mk (Value.ref b :: As).toArray, t, U', L, hT, X', hL, e1, e2, hq, st⟩
  · dsimp only [Pt.U, Pt.locs, Pt.cells, Pt.slots] at X' e1 e2 h1 h2 h3 st hcl
    subst h1; subst h2; subst h3
    exact Or.inr ⟨q, (T.setVm vm₁).calling g' mk (Value.ref b :: As).toArray, t, U', L, E, ce, hT, X', hL, e1, e2, hq, hce, hcv, vx_cls hW₁ hcl, st⟩
theorem vx_runSX {hh : List (Nat × Nat × Nat × Nat)} (S : CallFix p m c cc nL s args Ts own) (hM : vx_Met l y ws rm Pc Qc XC mc ms free) (cw : vx_CSW R s args own index y bytes maxL ret hh ws rm mc ms n) (hp : PreS s H Pc As)
    (hg : g.method = m) (hn : As.length = n) (hsize : g.locals.size = nL) (hstack : g.stack = As.reverse ++ rest) (hW : 2 * g.monitorRoom + (rest.map fun v => v.category).sum ≤ 8) (hdg : decode cc g.pc = .ok (.invokestatic index, 3)) (hf : cells + mc ≤ R.cells ∧ slots + ms ≤ R.slots) :
    vx_Run p l e R s m args below meth c H locs cells slots mc ms g rest (Qc As.toArray) XC free := by
  obtain ⟨⟨hrc, hrs, hfr, hlo, hws, hcw⟩, hcode, hini, hy, hlen, hl, hstt⟩ := cw
  have hK : vx_Back l R p e below s args y 3 8 (PreOf R mc ms Pc) (PostOf Qc mc ms free) (vx_Post XC mc ms free) := vx_backW (hh := hh) (bytes := bytes) (maxL := maxL) (ret := ret) hM hp.1 hrc hrs hfr hlo hws hcw (fun a' U hW => word_at hW (Or.inl (by first | rfl | simp [Cond.onTables, Cond.keeps, Cond.steady])) hini)
  obtain ⟨hx, hb, hml, ho, -⟩ := S
  intro T hT X
  rcases vx_callSX X hx (hh := hh) (bytes := bytes) (maxL := maxL) (ret := ret) ho hl hstt hini hcode hy hK hg (hsize.trans hml.symm) (argsL := As) (rest := rest) (fun sig h => hn.trans (hlen sig h)) hstack hW (by rw [hb]; exact hdg)
    (fun vm₁ hW₁ => ⟨hf.1, hf.2, hp.2 (T.setVm vm₁) hT hW₁⟩) with ⟨v, vm₁, ⟨U', l2, c2, s2⟩, hW₁, X', ⟨g', mk, t, L, e1, e2, hq, h1, hL, h2, h3⟩, st⟩ | ⟨q, vm₁, ⟨U', l2, c2, s2⟩, hW₁, X', ⟨g', mk, t, L, E, ce, e1, e2, hq, hce, hcv, hcl, h1, hL, h2, h3⟩, st⟩
  · dsimp only [Pt.U, Pt.locs, Pt.cells, Pt.slots] at X' e1 e2 h1 h2 h3 st
    subst h1; subst h2; subst h3
    exact Or.inl ⟨v, (T.setVm vm₁).calling g' mk As.toArray, t, U', L, hT, X', hL, e1, e2, hq, st⟩
  · dsimp only [Pt.U, Pt.locs, Pt.cells, Pt.slots] at X' e1 e2 h1 h2 h3 st hcl
    subst h1; subst h2; subst h3
    exact Or.inr ⟨q, (T.setVm vm₁).calling g' mk As.toArray, t, U', L, E, ce, hT, X', hL, e1, e2, hq, hce, hcv, vx_cls hW₁ hcl, st⟩
end
end VXH
theorem vx_ofWH {l : Launch} {y : MethodName} {ws ws' : List Cond} {rm : Room} {Pc : Array Value → State → Prop} {Qc : Array Value → State → Outcome → State → Prop} {XC : String → State → State → Prop} {mc ms : Nat} {free : Addr → Prop} {cc : ByteArray} {maxL : Nat} {ret : Option FieldType} {hh : List (Nat × Nat × Nat × Nat)}
    (hy : plainName y.cls = true) (hw : ws = Cond.codeWith y cc maxL ret hh :: ws')
    (body : ∀ p e s m args below meth c s₁, BodyLoose p l y (headSpec ws rm) cc maxL ret e s m args below meth c s₁ → c.maxLocals = maxL → Pc args s →
      W p l e (headSpec ws rm).room s m args below meth c s.heap [] 0 0 (vx_MQ below Qc XC args s mc ms free) (entryFrame m args maxL)) : vx_Met l y ws rm Pc Qc XC mc ms free := by
  refine MetFree.of_bodyS (code := cc) (maxLocals := maxL) (ret := ret) hy ?_ ?_
  · intro args s m h hn
    obtain ⟨m9, meth, c, hn9, h1, h2, h3, h4, -, h5, h6, -⟩ := Cond.codeWith_spec (atoms_spec (ws := ws) h _ (by rw [hw]; exact List.mem_cons_self))
    cases hn.symm.trans hn9
    exact ⟨meth, c, h1, h2, h3, h4, h5, h6⟩
  · intro p e s m args below meth c s₁ B hml hP _
    have hh0 : s₁.heap = s.heap := by rw [B.state]; rfl
    obtain ⟨t, a1, o, b1, b2, b3⟩ := body p e s m args below meth c s₁ B hml hP s₁ hh0 (Stand.of_body B)
    exact ⟨t, o, a1, b1, b2, b3⟩
/-! ===== END ===== -/

/-! ===== BEGIN what the machine throws by itself, no traces kept ===== -/
section VXM
set_option maxHeartbeats 1000000 in
/-- the machine throws cls with the message text, no traces kept: from its note over the frame g to 'throwing' over the same frame (follows the proofs of Stand.vmThrowsMessage, Shelf/KitTracedVmS.lean, and Stand.throwsMessageColdBareV, StandMessageColdV.lean, without the step out of the frame) -/
theorem vx_vmAt {p : Program} {l : Launch} {e : Env} {R : Room} {s : State} {m₀ : MethodId} {args : Array Value} {below : List Frame} {meth : Method} {c : Code} {W : State} {locs : List Loc} {cells slots : Nat}
    (X : Stand p l e R s m₀ args below meth c W locs cells slots) (hexec : p.tables.exec = Jvm.exec) (htr : e.platform.stackTraces = false) {cls : String} {names : List String} {text : String}
    (hcls : Bundle.fit cls = true) (hnames : ∀ n ∈ names, Bundle.fit n = true) (hsoe : (cls == "java/lang/StackOverflowError") = false) (hoom : (cls == "java/lang/OutOfMemoryError") = false)
    (h : ∀ a ∈ Bundle.messageArmAtoms cls names, a.before args s = true)
    (hlocs : ∀ x ∈ locs, ∀ cell, s.heap[x.base]? = some cell → cell.vm.isStatics = false)
    (htext : (text == notModelled) = false) (hlimit : ¬ (stringBytes (stringToUtf16 text)).size > e.platform.arrayLengthLimit) (hheap : ¬ (stringBytes (stringToUtf16 text)).size * componentBytes .byte > e.platform.maxHeapBytes)
    {g : JFrame} (hg : g.method = m₀) (hsize : g.locals.size = c.maxLocals)
    (hRframes : names.length + 4 < R.frames) (hRlocals : 2 * g.monitorRoom + (g.stack.map fun v => v.category).sum + 10240 ≤ R.locals) (hshort : 13 * names.length + 55 ≤ 10240)
    (hRcells : cells + 3 ≤ R.cells) (hRslots : slots + ((stringBytes (stringToUtf16 text)).size + 4 + 6) ≤ R.slots) (hlocks : meth.locks = false) :
    ∃ (S : State) (q : Addr) (ce : Cell), (∀ target, Steps p.tables e below ((S.setTop g).pushFrame (.throwing q)) target → Steps p.tables e below ((W.setTop g).pushFrame (.throwNew cls (some text) none)) target) ∧
      Stand p l e R s m₀ args below meth c S locs (cells + 3) (slots + ((stringBytes (stringToUtf16 text)).size + 4 + 6)) ∧ S.heap[q]? = some ce ∧ s.vm.findClass cls = some ce.cls ∧ ce.vm = .none := by
  have howns : e.platform.frameOwnsMonitors = true := by rw [X.admits.platform]
  have hfin : e.platform.finalization = false := by rw [X.admits.platform]
  have hpl : e.platform.magicAccessors = ({} : Platform).magicAccessors := by rw [X.admits.platform]
  have a : ∀ x, x ∈ Bundle.messageArmAtoms cls names → x.holds args s none s [] = true := fun x hx => h x hx
  obtain ⟨T, Z0, L, -, Y⟩ := ThrowableC.of_atoms (args := args) howns hfin hpl (fun x hx => h x (by simp [Bundle.messageArmAtoms, hx]))
  obtain ⟨Z, M, LZ, LM, hnZ⟩ := Init0T.ofS_atoms (args := args) hpl L Y (fun x hx => h x (by simp [Bundle.messageArmAtoms, hx]))
  obtain ⟨P1, Ps, hlen, L1, hL, hP1m, hlink1, hlink⟩ := Bundle.chainS (args := args) hpl hnZ names cls hcls hnames (fun x hx => h x (by simp [Bundle.messageArmAtoms, hx]))
  obtain ⟨Zs, LZs, hn4, hfitv, hfitc⟩ := StringT.of_atoms (args := args) (fun x hx => h x (by simp [Bundle.messageArmAtoms, hx]))
  have hfound : s.vm.findClass cls = some P1.m.cls := findClass_of_methodNamed hP1m
  obtain ⟨c1, kX, hc1, hk, hord, -, -, hn6⟩ := Cond.instantiable_spec (a (.instantiable cls 6) (by simp [Bundle.messageArmAtoms]))
  cases Option.some.inj (hc1.symm.trans hfound)
  have hinit := Cond.initialized_spec hfound hk (a (.initialized cls) (by simp [Bundle.messageArmAtoms]))
  have hctor : kX.findMethod "<init>" "(Ljava/lang/String;)V" = some P1.m.idx := findMethod_of_methodNamed hP1m hk
  have hsel0 : selectMethod e.platform s.vm P1.m.cls T.fill0 = .method T.fill0 := by
    obtain ⟨c2, r2, m2, q1, q2, q3, q4, -⟩ := Cond.selects_spec (a (.selects cls Bundle.tFill0 Bundle.tFill0) (by simp [Bundle.messageArmAtoms]))
    cases Option.some.inj (q1.symm.trans hfound)
    cases Option.some.inj (q2.symm.trans (State.methodFound?_of_named Y.fill0 (by decide)))
    cases Option.some.inj (q3.symm.trans Y.fill0)
    rw [Launch.admits_selectMethod X.admits]; exact q4
  have hselF : selectMethod e.platform s.vm P1.m.cls T.fill = .method T.fill := by
    obtain ⟨c2, r2, m2, q1, q2, q3, q4, -⟩ := Cond.selects_spec (a (.selects cls Bundle.tFill Bundle.tFill) (by simp [Bundle.messageArmAtoms]))
    cases Option.some.inj (q1.symm.trans hfound)
    cases Option.some.inj (q2.symm.trans (State.methodFound?_of_named Y.fill (by decide)))
    cases Option.some.inj (q3.symm.trans Y.fill)
    rw [Launch.admits_selectMethod X.admits]; exact q4
  obtain ⟨cellS0, hcS0, hiss⟩ := Y.statics
  obtain ⟨u0, hu0⟩ := Cond.staticRefV Y.unassigned L.unassignedStatic L.statics hcS0 hiss (a (.isRef (.static Bundle.tN "UNASSIGNED_STACK" Bundle.steD)) (by simp [Bundle.messageArmAtoms]))
  obtain ⟨sen, hsen⟩ := Cond.staticRefV Y.sentinel L.sentinelStatic L.statics hcS0 hiss (a (.isRef (.static Bundle.tN "SUPPRESSED_SENTINEL" Bundle.listD)) (by simp [Bundle.messageArmAtoms]))
  obtain ⟨ci198, i198, fB, hk198, hg198, ha198, hsB, -, hnB, htB, hffB⟩ := Cond.ownField (t := .object "java/lang/Object") Y.found L.cls (by decide +kernel) (a (.fieldLink Bundle.tN 198 Bundle.tN "backtrace" "Ljava/lang/Object;") (by simp [Bundle.messageArmAtoms])) (a (.lays Bundle.tN Bundle.tN "backtrace" "Ljava/lang/Object;") (by simp [Bundle.messageArmAtoms])) e.platform hpl
  obtain ⟨cellS, hcS', heS, -, hkeep⟩ := X.same.2.2.2.2.2 T.aS cellS0 hcS0
  have hcellS : W.heap[T.aS]? = some cellS := hcS'
  have hout' : ∀ i, (⟨T.aS, i⟩ : Loc) ∉ locs := fun i hmem => by
    have := hlocs _ hmem cellS0 hcS0
    rw [hiss] at this; cases this
  have hknownS : cellS.vm ≠ .unknown := by
    rw [heS]; intro hu
    rw [show cellS0.vm = .unknown from hu] at hiss
    cases hiss
  have hvU : cellS.slots[T.fUnassigned.slot]? = some u0.v := by rw [hkeep _ (hout' _)]; exact hu0
  have hvSen : cellS.slots[T.fSentinel.slot]? = some sen.v := by rw [hkeep _ (hout' _)]; exact hsen
  obtain ⟨iM, hffM⟩ := Y.msg
  obtain ⟨tyC, dC, hdC, hdnC⟩ := Cond.laysAt hfound hk Y.cause (a (.lays cls Bundle.tN "cause" "Ljava/lang/Throwable;") (by simp [Bundle.messageArmAtoms]))
  obtain ⟨tyS, dS, hdS, hdnS⟩ := Cond.laysAt hfound hk Y.stack (a (.lays cls Bundle.tN "stackTrace" Bundle.steD) (by simp [Bundle.messageArmAtoms]))
  obtain ⟨tyP, dP, hdP, hdnP⟩ := Cond.laysAt hfound hk Y.supp (a (.lays cls Bundle.tN "suppressedExceptions" Bundle.listD) (by simp [Bundle.messageArmAtoms]))
  obtain ⟨tyM, dM, hdM, hdnM⟩ := Cond.laysAt hfound hk hffM (a (.lays cls Bundle.tN "detailMessage" "Ljava/lang/String;") (by simp [Bundle.messageArmAtoms]))
  obtain ⟨tyB, dB, hdB, hdnB⟩ := Cond.laysAt hfound hk hffB (a (.lays cls Bundle.tN "backtrace" "Ljava/lang/Object;") (by simp [Bundle.messageArmAtoms]))
  have bC := Cond.laysApart hdB hdC hdnB hdnC (by rw [hnB, Y.causeName]; decide)
  have bS := Cond.laysApart hdB hdS hdnB hdnS (by rw [hnB, Y.stackName]; decide)
  have bP := Cond.laysApart hdB hdP hdnB hdnP (by rw [hnB, Y.suppName]; decide)
  have hbk : ((preparedCellV T.toThrowableT (freshCell P1.m.cls kX) (W.heap.size + 2) u0 sen).withEntry W.cur).slots[fB.slot]? = some .null := by
    have := fresh_default (c := P1.m.cls) tyB
    rw [htB] at this
    simpa [preparedCellV, Cell.setSlot, Cell.withEntry, Array.getElem?_setIfInBounds, bC, bS, bP, bC.symm, bS.symm, bP.symm, defaultValue] using this
  have tkC := Takes.of_laid (v := .ref (W.heap.size + 2)) hk hord tyC (by rw [Y.causeType]; rfl)
  have tkS := Takes.of_laid (v := u0.v) hk hord tyS (by rw [Y.stackType]; exact fits_refV_array _ u0)
  have tkP := Takes.of_laid (v := sen.v) hk hord tyP (by rw [Y.suppType]; exact fits_refV_object _ sen)
  have tkM := Takes.of_laid (v := .ref (W.heap.size + 1)) hk hord tyM (by rw [Y.msgType]; rfl)
  have hskip : SkipFacts T e.platform s (fun u => u) u0 ((preparedCellV T.toThrowableT (freshCell P1.m.cls kX) (W.heap.size + 2) u0 sen).withEntry W.cur) := ⟨{ ci198 := ci198, i198 := i198, fBack := fB }, ⟨hk198, hg198, ha198, hsB⟩, hbk, fun _ _ => rfl⟩
  have h0 : At W g.method c below := by rw [hg]; exact X.here
  obtain ⟨hbeyond, hfreeW⟩ := X.vmMayThrow hsize (.throwNew cls (some text) none) (fun f hf => by cases hf) rfl hRlocals
  have hfr' : W.frames.length + Ps.length + 4 < (e.platform.stackLimits W.me).1 := by have := X.framesAbove hRframes; omega
  have hwd' : (stackUse (.java g :: W.frames.tail)).2 + 13 * Ps.length + 55 ≤ (e.platform.stackLimits W.me).2 := by have := X.stackAbove hsize (K := 13 * Ps.length + 55) (by omega); omega
  have hslots : W.slotsUsed + (stringBytes (stringToUtf16 text)).size + Zs.kS.instanceTypes.size + kX.instanceTypes.size ≤ e.platform.maxSlots := by
    have := X.slotsAbove hRslots
    rw [hn4, hn6]
    omega
  obtain ⟨vm', hW', st⟩ := Steps.vmThrowsMessageColdByV p (s₀ := s) (S := W) (g := g) h0 hexec T L Z LZ M LM X.warmed (t := W.cur) rfl Zs LZs P1 L1 Ps hL hlink1 hlink hsoe hoom hfound hk hinit hord hctor
    (Launch.admits_hotImplicitExceptions X.admits) hbeyond hfreeW htext hlimit hheap (X.cellsAbove hRcells) hslots (hfitv _) (hfitc _)
    (Nn := fun u => u) heapOnly_id (fun _ _ => rfl) (fun _ => rfl) (fun u x y => setCell_twice _ _ _ _) (fun _ => Nat.le_refl _) (cN := ((preparedCellV T.toThrowableT (freshCell P1.m.cls kX) (W.heap.size + 2) u0 sen).withEntry W.cur))
    hsel0 hcellS hknownS hvU tkS (fun _ hu => hu) (fun _ hu => hu) rfl rfl rfl (by simp [preparedCellV, Cell.setSlot, Cell.withEntry]) hskip (fun _ _ hA hW _ hroom _ hrest => L.nativeOff p htr hA hW hroom hrest) hselF hvSen tkC tkP tkM Y.objLocals rfl hfr' hwd'
  rw [plainBareV_eq T.toThrowableT (W.heap.size + 2) u0 sen (.ref (W.heap.size + 1)) W.cur rfl rfl] at st
  obtain ⟨-, -, w3, w4, -, -, -⟩ := withThrown_facts e.platform W Zs text P1.m.cls kX
  have X3 := ((X.pushed (bytesOf Zs.cB (stringToUtf16 text))).pushed (stringAt Zs.cS Zs.kS Zs.fv Zs.fc (stringToUtf16 text) W.heap.size)).pushed (freshCell P1.m.cls kX)
  rw [← withString_eq] at X3
  have X4 := X3.noted hW'
  have ha : (W.heap.size + 2) < ((withThrown W Zs text P1.m.cls kX).setVm vm').heap.size := by show _ < (withThrown W Zs text P1.m.cls kX).heap.size; rw [w3]; omega
  have hcell : ((withThrown W Zs text P1.m.cls kX).setVm vm').heap[(W.heap.size + 2)]? = some (freshCell P1.m.cls kX) := w4
  have X5 := ((((X4.stored hcell T.fCause.slot (.ref (W.heap.size + 2))).storedAgain ha T.fStack.slot u0.v).storedAgain ha T.fSupp.slot sen.v).storedAgain ha T.fStack.slot u0.v).storedAgain ha T.fMsg.slot (.ref (W.heap.size + 1))
  obtain ⟨g₁, hfrM⟩ := X5.frames_eq
  have hU : ((((withThrown W Zs text P1.m.cls kX).setVm vm').setCell (W.heap.size + 2) (plainBareV T.toThrowableT (freshCell P1.m.cls kX) (W.heap.size + 2) u0 sen (.ref (W.heap.size + 1)))).setTop g).pushFrame (.throwing (W.heap.size + 2)) = (((withThrown W Zs text P1.m.cls kX).setVm vm').setCell (W.heap.size + 2) (plainBareV T.toThrowableT (freshCell P1.m.cls kX) (W.heap.size + 2) u0 sen (.ref (W.heap.size + 1)))).setFrames (.throwing (W.heap.size + 2) :: .java g :: below) := by
    rw [State.pushFrame, State.frames_setTop _ hfrM, State.setTop_of_frames _ hfrM, State.setFrames_setFrames]
  have b1 : (bytesOf Zs.cB (stringToUtf16 text)).slots.size = (stringBytes (stringToUtf16 text)).size := by
    rw [(Cell.writeAll_facts _ _).2.2]; simp [bytes0]
  have b2 : (stringAt Zs.cS Zs.kS Zs.fv Zs.fc (stringToUtf16 text) W.heap.size).slots.size = 4 := by simp [string0, Cell.setSlot, hn4]
  have b3 : (freshCell P1.m.cls kX).slots.size = 6 := by simp [hn6]
  rw [b1, b2, b3] at X5
  have e9 : slots + (stringBytes (stringToUtf16 text)).size + 4 + 6 = slots + ((stringBytes (stringToUtf16 text)).size + 4 + 6) := by omega
  rw [e9] at X5
  simp only [List.append_assoc, List.cons_append, List.nil_append] at X5
  refine ⟨((withThrown W Zs text P1.m.cls kX).setVm vm').setCell (W.heap.size + 2) (plainBareV T.toThrowableT (freshCell P1.m.cls kX) (W.heap.size + 2) u0 sen (.ref (W.heap.size + 1))), W.heap.size + 2, _, fun target ht => st _ (by rw [X.tail, ← hU]; exact ht),
    X5.forget (fun y hy => ?_), heapAt_setCell_self _ ha, hfound, rfl⟩
  simp only [List.mem_cons, List.not_mem_nil, or_false] at hy
  have hge : s.heap.size ≤ W.heap.size := X.same.2.1
  rcases hy with rfl | rfl | rfl | rfl | rfl <;> exact Nat.le_trans hge (Nat.le_add_right _ 2)
set_option maxHeartbeats 1000000 in
/-- the machine throws NullPointerException, no traces kept: from its note over the frame g to 'throwing' over the same frame (follows the proof of Stand.vmThrowsNpe, Shelf42/KT2.lean; throwsNpeColdBareVAt, Shelf42/NT91.lean, called) -/
theorem vx_npeAt {p : Program} {l : Launch} {e : Env} {R : Room} {s : State} {m₀ : MethodId} {args : Array Value} {below : List Frame} {meth : Method} {c : Code} {W : State} {locs : List Loc} {cells slots : Nat}
    (X : Stand p l e R s m₀ args below meth c W locs cells slots) (hexec : p.tables.exec = Jvm.exec) (htr : e.platform.stackTraces = false) {n : Nat}
    (h : ∀ a ∈ Bundle.npeArmAtoms n, a.before args s = true)
    (hlocs : ∀ x ∈ locs, ∀ cell, s.heap[x.base]? = some cell → cell.vm.isStatics = false)
    {g : JFrame} (hg : g.method = m₀) (hsize : g.locals.size = c.maxLocals)
    (hRframes : 7 < R.frames) (hRlocals : 2 * g.monitorRoom + (g.stack.map fun v => v.category).sum + 10240 ≤ R.locals)
    (hRcells : cells + 1 ≤ R.cells) (hRslots : slots + n ≤ R.slots) (hlocks : meth.locks = false) :
    ∃ (S : State) (q : Addr) (ce : Cell), (∀ target, Steps p.tables e below ((S.setTop g).pushFrame (.throwing q)) target → Steps p.tables e below ((W.setTop g).pushFrame (.throwNew "java/lang/NullPointerException" none none)) target) ∧
      Stand p l e R s m₀ args below meth c S locs (cells + 1) (slots + n) ∧ S.heap[q]? = some ce ∧ s.vm.findClass "java/lang/NullPointerException" = some ce.cls ∧ ce.vm = .none := by
  have howns : e.platform.frameOwnsMonitors = true := by rw [X.admits.platform]
  have hfin : e.platform.finalization = false := by rw [X.admits.platform]
  have hpl : e.platform.magicAccessors = ({} : Platform).magicAccessors := by rw [X.admits.platform]
  have hpl2 : e.platform.arrayCloneIsPublic = true := by rw [X.admits.platform]
  have a' : ∀ x, x ∈ Bundle.npeArmAtoms n → x.holds args s none s [] = true := fun x hx => h x hx
  obtain ⟨T, Z, L, LZ, Y⟩ := ThrowableC.of_atoms (args := args) howns hfin hpl (fun x hx => h x (by simp [Bundle.npeArmAtoms, hx]))
  obtain ⟨N, LN, hcN, hnNF, hordN, hffS⟩ := NpeC.of_atoms (args := args) hpl hpl2 L Y (fun x hx => h x (by simp [Bundle.npeArmAtoms, hx]))
  obtain ⟨P1, L1, hP1m, hP1s⟩ := PassC.of_atoms (args := args) (s := s) hpl (X := Bundle.nN) (Y := Bundle.rN) (by decide) (by decide) LibCode.NullPointerException.Init0.at_0 LibCode.NullPointerException.Init0.at_1 LibCode.NullPointerException.Init0.at_4 (fun x hx => h x (by simp [Bundle.npeArmAtoms, hx]))
  obtain ⟨PR, LR, hPRm, hPRs⟩ := PassC.of_atoms (args := args) (s := s) hpl (X := Bundle.rN) (Y := Bundle.eN) (by decide) (by decide) LibCode.RuntimeException.Init0.at_0 LibCode.RuntimeException.Init0.at_1 LibCode.RuntimeException.Init0.at_4 (fun x hx => h x (by simp [Bundle.npeArmAtoms, hx]))
  obtain ⟨PE, LEx, hPEm, hPEs⟩ := PassC.of_atoms (args := args) (s := s) hpl (X := Bundle.eN) (Y := Bundle.tN) (by decide) (by decide) LibCode.Exception.Init0.at_0 LibCode.Exception.Init0.at_1 LibCode.Exception.Init0.at_4 (fun x hx => h x (by simp [Bundle.npeArmAtoms, hx]))
  have hfound : s.vm.findClass Bundle.nN = some P1.m.cls := findClass_of_methodNamed hP1m
  have ecls : N.cN = P1.m.cls := Option.some.inj (hcN.symm.trans hfound)
  have hk : s.vm.classes[P1.m.cls]? = some N.kN := by rw [← ecls]; exact LN.cls
  have hinit := Cond.initialized_spec hfound hk (a' (.initialized Bundle.nN) (by simp [Bundle.npeArmAtoms]))
  have hctor : N.kN.findMethod "<init>" "()V" = some P1.m.idx := findMethod_of_methodNamed hP1m hk
  obtain ⟨c1, k1, hc1, hk1, -, -, -, hn⟩ := Cond.instantiable_spec (a' (.instantiable Bundle.nN n) (by simp [Bundle.npeArmAtoms]))
  cases Option.some.inj (hc1.symm.trans hfound)
  cases Option.some.inj (hk1.symm.trans hk)
  have hfsz : (freshCell P1.m.cls N.kN).slots.size = n := by simp [hn]
  have hlink1 : P1.sup = PR.m := Option.some.inj (hP1s.symm.trans hPRm)
  have hlinkR : PR.sup = PE.m := Option.some.inj (hPRs.symm.trans hPEm)
  have hlinkE : PE.sup = Z.m T.toThrowableT := Option.some.inj (hPEs.symm.trans Y.init0)
  have hLs : ∀ P, P ∈ [PR, PE] → P.Links0 e.platform s := fun P hP => by
    simp only [List.mem_cons, List.not_mem_nil, or_false] at hP
    rcases hP with rfl | rfl
    · exact LR
    · exact LEx
  have hsel0 : selectMethod e.platform s.vm P1.m.cls T.fill0 = .method T.fill0 := by
    obtain ⟨c2, r2, m2, q1, q2, q3, q4, -⟩ := Cond.selects_spec (a' (.selects Bundle.nN Bundle.tFill0 Bundle.tFill0) (by simp [Bundle.npeArmAtoms]))
    cases Option.some.inj (q1.symm.trans hfound)
    cases Option.some.inj (q2.symm.trans (State.methodFound?_of_named Y.fill0 (by decide)))
    cases Option.some.inj (q3.symm.trans Y.fill0)
    rw [Launch.admits_selectMethod X.admits]; exact q4
  have hselF : selectMethod e.platform s.vm P1.m.cls T.fill = .method N.fill := by
    obtain ⟨c2, r2, m2, q1, q2, q3, q4, -⟩ := Cond.selects_spec (a' (.selects Bundle.nN Bundle.tFill Bundle.nFill) (by simp [Bundle.npeArmAtoms]))
    cases Option.some.inj (q1.symm.trans hfound)
    cases Option.some.inj (q2.symm.trans (State.methodFound?_of_named Y.fill (by decide)))
    cases Option.some.inj (q3.symm.trans hnNF)
    rw [Launch.admits_selectMethod X.admits]; exact q4
  obtain ⟨cellS0, hcS0, hiss⟩ := Y.statics
  obtain ⟨u0, hu0⟩ := Cond.staticRefV Y.unassigned L.unassignedStatic L.statics hcS0 hiss (a' (.isRef (.static Bundle.tN "UNASSIGNED_STACK" Bundle.steD)) (by simp [Bundle.npeArmAtoms]))
  obtain ⟨sen, hsen⟩ := Cond.staticRefV Y.sentinel L.sentinelStatic L.statics hcS0 hiss (a' (.isRef (.static Bundle.tN "SUPPRESSED_SENTINEL" Bundle.listD)) (by simp [Bundle.npeArmAtoms]))
  obtain ⟨ci198, i198, fB, hk198, hg198, ha198, hsB, -, hnB, htB, hffB⟩ := Cond.ownField (t := .object "java/lang/Object") Y.found L.cls (by decide +kernel) (a' (.fieldLink Bundle.tN 198 Bundle.tN "backtrace" Bundle.objD) (by simp [Bundle.npeArmAtoms])) (a' (.lays Bundle.tN Bundle.tN "backtrace" Bundle.objD) (by simp [Bundle.npeArmAtoms])) e.platform hpl
  obtain ⟨cellS, hcS', heS, -, hkeep⟩ := X.same.2.2.2.2.2 T.aS cellS0 hcS0
  have hcellS : W.heap[T.aS]? = some cellS := hcS'
  have hout' : ∀ i, (⟨T.aS, i⟩ : Loc) ∉ locs := fun i hmem => by
    have := hlocs _ hmem cellS0 hcS0
    rw [hiss] at this; cases this
  have hknownS : cellS.vm ≠ .unknown := by
    rw [heS]; intro hu
    rw [show cellS0.vm = .unknown from hu] at hiss
    cases hiss
  have hvU : cellS.slots[T.fUnassigned.slot]? = some u0.v := by rw [hkeep _ (hout' _)]; exact hu0
  have hvSen : cellS.slots[T.fSentinel.slot]? = some sen.v := by rw [hkeep _ (hout' _)]; exact hsen
  obtain ⟨tyC, dC, hdC, hdnC⟩ := Cond.laysAt hfound hk Y.cause (a' (.lays Bundle.nN Bundle.tN "cause" "Ljava/lang/Throwable;") (by simp [Bundle.npeArmAtoms]))
  obtain ⟨tyS, dS, hdS, hdnS⟩ := Cond.laysAt hfound hk Y.stack (a' (.lays Bundle.nN Bundle.tN "stackTrace" Bundle.steD) (by simp [Bundle.npeArmAtoms]))
  obtain ⟨tyP, dP, hdP, hdnP⟩ := Cond.laysAt hfound hk Y.supp (a' (.lays Bundle.nN Bundle.tN "suppressedExceptions" Bundle.listD) (by simp [Bundle.npeArmAtoms]))
  obtain ⟨tyX, dX, hdX, hdnX⟩ := Cond.laysAt hfound hk hffS (a' (.lays Bundle.nN Bundle.nN "extendedMessageState" "I") (by simp [Bundle.npeArmAtoms, Bundle.npeAtoms]))
  obtain ⟨hnX, htX⟩ := State.fieldFound?_type hffS (t := .int) (by decide +kernel)
  have xC := Cond.laysApart hdC hdX hdnC hdnX (by rw [hnX, Y.causeName]; decide)
  have xS := Cond.laysApart hdS hdX hdnS hdnX (by rw [hnX, Y.stackName]; decide)
  have xP := Cond.laysApart hdP hdX hdnP hdnX (by rw [hnX, Y.suppName]; decide)
  have hv0 : (freshCell P1.m.cls N.kN).slots[N.fState.slot]? = some (.int 0) := by
    have := fresh_default (c := P1.m.cls) tyX
    rw [htX] at this; exact this
  obtain ⟨tyB, dB, hdB, hdnB⟩ := Cond.laysAt hfound hk hffB (a' (.lays Bundle.nN Bundle.tN "backtrace" Bundle.objD) (by simp [Bundle.npeArmAtoms]))
  have bC := Cond.laysApart hdB hdC hdnB hdnC (by rw [hnB, Y.causeName]; decide)
  have bS := Cond.laysApart hdB hdS hdnB hdnS (by rw [hnB, Y.stackName]; decide)
  have bP := Cond.laysApart hdB hdP hdnB hdnP (by rw [hnB, Y.suppName]; decide)
  have bX := Cond.laysApart hdB hdX hdnB hdnX (by rw [hnB, hnX]; decide)
  have hbk : ((npeCell N.toNpeT (preparedCellV T.toThrowableT (freshCell P1.m.cls N.kN) W.heap.size u0 sen) W.cur).withEntry W.cur).slots[fB.slot]? = some .null := by
    have := fresh_default (c := P1.m.cls) tyB
    rw [htB] at this
    simpa [npeCell, preparedCellV, Cell.setSlot, Cell.withEntry, Array.getElem?_setIfInBounds, bC, bS, bP, bX, bC.symm, bS.symm, bP.symm, bX.symm, defaultValue] using this
  have tkC := Takes.of_laid (v := .ref W.heap.size) hk hordN tyC (by rw [Y.causeType]; rfl)
  have tkS := Takes.of_laid (v := u0.v) hk hordN tyS (by rw [Y.stackType]; exact fits_refV_array _ u0)
  have tkP := Takes.of_laid (v := sen.v) hk hordN tyP (by rw [Y.suppType]; exact fits_refV_object _ sen)
  have tkX := Takes.of_laid (v := .int 1) hk hordN tyX (by rw [htX]; rfl)
  have hskip : SkipFacts T e.platform s (fun u => u) u0 ((npeCell N.toNpeT (preparedCellV T.toThrowableT (freshCell P1.m.cls N.kN) W.heap.size u0 sen) W.cur).withEntry W.cur) := ⟨{ ci198 := ci198, i198 := i198, fBack := fB }, ⟨hk198, hg198, ha198, hsB⟩, hbk, fun _ _ => rfl⟩
  obtain ⟨vm', X3, st, -⟩ := X.throwsNpeColdBareVAt hexec hg hsize T L Z LZ N LN P1 L1 [PR, PE] hLs hlink1 ⟨hlinkR, hlinkE, trivial⟩ hfound hk hinit hordN hctor hsel0 hselF hcellS hknownS hvU hvSen
    hv0 xC xS xP tkC tkS tkP tkX Y.objLocals hskip (fun _ _ hA hW _ hroom _ hrest => L.nativeOff p htr hA hW hroom hrest) (by simpa using hRframes) hRlocals (by simp) hRcells (by rw [hn]; exact hRslots)
  have hlt : W.heap.size < ((W.pushCell (freshCell P1.m.cls N.kN)).setVm vm').heap.size := by
    show W.heap.size < (W.pushCell (freshCell P1.m.cls N.kN)).heap.size
    rw [State.heap_size_pushCell]; omega
  rw [hfsz] at X3
  obtain ⟨g₁, hfrM⟩ := X3.frames_eq
  have hU : ((((W.pushCell (freshCell P1.m.cls N.kN)).setVm vm').setCell W.heap.size (npeBareV T.toThrowableT N.toNpeT (freshCell P1.m.cls N.kN) W.heap.size u0 sen)).setTop g).pushFrame (.throwing W.heap.size) = (((W.pushCell (freshCell P1.m.cls N.kN)).setVm vm').setCell W.heap.size (npeBareV T.toThrowableT N.toNpeT (freshCell P1.m.cls N.kN) W.heap.size u0 sen)).setFrames (.throwing W.heap.size :: .java g :: below) := by
    rw [State.pushFrame, State.frames_setTop _ hfrM, State.setTop_of_frames _ hfrM, State.setFrames_setFrames]
  refine ⟨_, W.heap.size, _, fun target ht => st.trans (by rw [← hU]; exact ht), X3.forget (fun y hy => ?_), heapAt_setCell_self _ hlt, hfound, rfl⟩
  simp only [List.mem_cons, List.not_mem_nil, or_false] at hy
  have hge : s.heap.size ≤ W.heap.size := X.same.2.1
  rcases hy with rfl | rfl | rfl | rfl | rfl <;> exact hge
/-- the words of a machine's NullPointerException, but the four that speak of the heap -/
def vx_atN (n : Nat) : List Cond := (Bundle.npeArmAtoms n).filter vx_no
/-- the words of a machine's throw with a message, but the four that speak of the heap -/
def vx_atM (X : String) (names : List String) : List Cond := (Bundle.messageArmAtoms X names).filter vx_no
section
variable {p : Program} {l : Launch} {e : Env} {R : Room} {s : State} {m : MethodId} {args : Array Value} {below : List Frame} {meth : Method} {c : Code} {H : Heap} {locs : List Loc} {cells slots : Nat}
/-- a frame seen from a rebased start, seen from the first start again -/
theorem vx_back9 {T S : State} {R' : Room} {k n : Nat} (X : Stand p l e R s m args below meth c T locs cells slots) (Y : Stand p l e R' ((T.setVm s.vm).setFrames (.invoking m args :: below)) m args below meth c T [] 0 0) (Z : Stand p l e R' ((T.setVm s.vm).setFrames (.invoking m args :: below)) m args below meth c S [] k n) :
    Stand p l e R s m args below meth c S locs (cells + k) (slots + n) := by
  have hW0 : s.WarmedH ((T.setVm s.vm).setFrames (.invoking m args :: below)).vm := State.WarmedH.refl s
  refine { admits := X.admits, cas := X.cas, clock := X.clock, frames := X.frames, room := X.room, hears := X.hears, method := X.method, code := X.code, here := Z.here, tail := Z.tail, warmed := State.WarmedH.trans hW0 Z.warmed, limits := Z.limits.trans (Y.limits.symm.trans X.limits), bytes := Z.bytes.trans (Y.bytes.symm.trans X.bytes), same := ?_ }
  obtain ⟨e1, e2⟩ := Z.same
  rw [State.setFrames_setFrames] at e1
  have h2 : (T.setVm s.vm).sameButNew (S.setVm s.vm) [] k n := ⟨e1, e2⟩
  have h3 := X.same.trans h2
  rw [List.append_nil] at h3
  exact h3
/-- from the machine's note that E is thrown here with this text -/
def vx_Note (p : Program) (l : Launch) (e : Env) (R : Room) (s : State) (m : MethodId) (args : Array Value) (below : List Frame) (meth : Method) (c : Code) (H : Heap) (locs : List Loc) (cells slots : Nat) (Q : State → Prop) (g : JFrame) (E text : String) : Prop :=
  ∀ T : State, T.heap = H → Stand p l e R s m args below meth c T locs cells slots → ∃ t, Steps p.tables e below ((T.setTop g).pushFrame (.throwNew E (some text) none)) t ∧ Q t
theorem vx_vm {pc : Nat} {ls : Array Slot} {rest : List Value} {Q : State → Prop} (hexec : p.tables.exec = Jvm.exec) (hl : l.stackTraces = false) {cls text : String} {names : List String} {nb : Nat} {A : Nat → Prop}
    (hcls : Bundle.fit cls = true) (hnames : ∀ n ∈ names, Bundle.fit n = true) (hsoe : (cls == "java/lang/StackOverflowError") = false) (hoom : (cls == "java/lang/OutOfMemoryError") = false)
    (hat : ∀ w ∈ vx_atM cls names, w.before args s = true) (hgood : ∀ w ∈ vx_atM cls names, vx_ot w = true)
    (hU : vx_Zq Bundle.tN "UNASSIGNED_STACK" Bundle.steD A s s.heap) (hN : vx_Zq Bundle.tN "SUPPRESSED_SENTINEL" Bundle.listD A s s.heap) (hS : va_S A s.heap H locs) (hsize : ls.size = c.maxLocals)
    (htext : (text == notModelled) = false) (hnb : (stringBytes (stringToUtf16 text)).size ≤ nb) (hnb1 : nb ≤ 1000)
    (hRframes : names.length + 4 < R.frames) (hRlocals : (rest.map fun v => v.category).sum + 10240 ≤ R.locals) (hshort : 13 * names.length + 55 ≤ 10240) (hRcells : cells + 3 ≤ R.cells) (hRslots : slots + (nb + 10) ≤ R.slots) (hlocks : meth.locks = false)
    (k : ∀ (H1 : Heap) (q9 : Addr) (ce : Cell), H.size ≤ H1.size → (∀ q : Nat, q < H.size → H1[q]? = H[q]?) → va_S A s.heap H1 locs → H1[q9]? = some ce → ce.vm = .none → s.vm.findClass cls = some ce.cls → vx_W p l e R s m args below meth c H1 locs (cells + 3) (slots + (nb + 10)) Q (F0 m pc ls rest) q9) :
    vx_Note p l e R s m args below meth c H locs cells slots Q (F0 m pc ls rest) cls text := by
  intro T hT X
  have htr : e.platform.stackTraces = false := (show e.platform.stackTraces = l.stackTraces by rw [X.admits.platform]).trans hl
  have Y := vx_rebase X (R' := { frames := R.frames, locals := R.locals, cells := 3, slots := nb + 10 }) (Nat.le_refl _) (Nat.le_refl _) hRcells hRslots
  have hhp : ((T.setVm s.vm).setFrames (.invoking m args :: below)).heap = H := hT
  have hW0 : s.WarmedH ((T.setVm s.vm).setFrames (.invoking m args :: below)).vm := State.WarmedH.refl s
  have hat' : ∀ w ∈ vx_atM cls names, w.before args ((T.setVm s.vm).setFrames (.invoking m args :: below)) = true := fun w hw => vx_ot_at hW0 rfl (hgood w hw) (hat w hw)
  have hU' : vx_Zq Bundle.tN "UNASSIGNED_STACK" Bundle.steD A ((T.setVm s.vm).setFrames (.invoking m args :: below)) ((T.setVm s.vm).setFrames (.invoking m args :: below)).heap := by rw [hhp]; exact vx_Zq.moved hW0.alike (hU.kept hS.2.1)
  have hN' : vx_Zq Bundle.tN "SUPPRESSED_SENTINEL" Bundle.listD A ((T.setVm s.vm).setFrames (.invoking m args :: below)) ((T.setVm s.vm).setFrames (.invoking m args :: below)).heap := by rw [hhp]; exact vx_Zq.moved hW0.alike (hN.kept hS.2.1)
  obtain ⟨S, q, ce, st, Z, hce, hcl', hv⟩ := vx_vmAt Y hexec htr (cls := cls) (names := names) (text := text) hcls hnames hsoe hoom (vx_own hat' (vx_isRefq hU'.1) (vx_isRefq hN'.1) hU'.2.word hN'.2.word) (fun x hx => nomatch hx) htext
    (by rw [Launch.admits_arrayLengthLimit X.admits]; omega) (by rw [Launch.admits_maxHeapBytes X.admits]; simp only [componentBytes]; omega)
    (g := F0 m pc ls rest) rfl hsize hRframes (by show 2 * 0 + (rest.map fun v => v.category).sum + 10240 ≤ R.locals; omega) hshort (by show 0 + 3 ≤ 3; omega) (by show 0 + (_ + 4 + 6) ≤ nb + 10; omega) hlocks
  obtain ⟨f1, f2⟩ := vx_frame Z.same
  have f1' : H.size ≤ S.heap.size := by rw [← hT]; exact f1
  have f2' : ∀ q : Nat, q < H.size → S.heap[q]? = H[q]? := fun q hq => by
    rw [← hT]
    exact f2 q (by rw [← hT] at hq; exact hq) (fun z hz => nomatch hz)
  have X5 := vx_back9 X Y Z
  have X6 : Stand p l e R s m args below meth c S locs (cells + 3) (slots + (nb + 10)) := { X5 with same := X5.same.mono (by omega) (by omega) }
  obtain ⟨t, a1, b1⟩ := k S.heap q ce f1' f2' ⟨Nat.le_trans hS.1 f1', fun q h1 h2 => (f2' q (Nat.lt_of_lt_of_le h1 hS.1)).trans (hS.2.1 q h1 h2), hS.2.2⟩ hce hv hcl' S rfl X6
  exact ⟨t, st t a1, b1⟩
/-- from the machine's note that NullPointerException is thrown here -/
def vx_NoteN (p : Program) (l : Launch) (e : Env) (R : Room) (s : State) (m : MethodId) (args : Array Value) (below : List Frame) (meth : Method) (c : Code) (H : Heap) (locs : List Loc) (cells slots : Nat) (Q : State → Prop) (g : JFrame) : Prop :=
  ∀ T : State, T.heap = H → Stand p l e R s m args below meth c T locs cells slots → ∃ t, Steps p.tables e below ((T.setTop g).pushFrame (.throwNew "java/lang/NullPointerException" none none)) t ∧ Q t
theorem vx_npe {pc : Nat} {ls : Array Slot} {rest : List Value} {Q : State → Prop} (hexec : p.tables.exec = Jvm.exec) (hl : l.stackTraces = false) {nb : Nat} {A : Nat → Prop}
    (hat : ∀ w ∈ vx_atN nb, w.before args s = true) (hgood : ∀ w ∈ vx_atN nb, vx_ot w = true)
    (hU : vx_Zq Bundle.tN "UNASSIGNED_STACK" Bundle.steD A s s.heap) (hN : vx_Zq Bundle.tN "SUPPRESSED_SENTINEL" Bundle.listD A s s.heap) (hS : va_S A s.heap H locs) (hsize : ls.size = c.maxLocals)
    (hRframes : 7 < R.frames) (hRlocals : (rest.map fun v => v.category).sum + 10240 ≤ R.locals) (hRcells : cells + 1 ≤ R.cells) (hRslots : slots + nb ≤ R.slots) (hlocks : meth.locks = false)
    (k : ∀ (H1 : Heap) (q9 : Addr) (ce : Cell), H.size ≤ H1.size → (∀ q : Nat, q < H.size → H1[q]? = H[q]?) → va_S A s.heap H1 locs → H1[q9]? = some ce → ce.vm = .none → s.vm.findClass "java/lang/NullPointerException" = some ce.cls → vx_W p l e R s m args below meth c H1 locs (cells + 1) (slots + nb) Q (F0 m pc ls rest) q9) :
    vx_NoteN p l e R s m args below meth c H locs cells slots Q (F0 m pc ls rest) := by
  intro T hT X
  have htr : e.platform.stackTraces = false := (show e.platform.stackTraces = l.stackTraces by rw [X.admits.platform]).trans hl
  have Y := vx_rebase X (R' := { frames := R.frames, locals := R.locals, cells := 1, slots := nb }) (Nat.le_refl _) (Nat.le_refl _) hRcells hRslots
  have hhp : ((T.setVm s.vm).setFrames (.invoking m args :: below)).heap = H := hT
  have hW0 : s.WarmedH ((T.setVm s.vm).setFrames (.invoking m args :: below)).vm := State.WarmedH.refl s
  have hat' : ∀ w ∈ vx_atN nb, w.before args ((T.setVm s.vm).setFrames (.invoking m args :: below)) = true := fun w hw => vx_ot_at hW0 rfl (hgood w hw) (hat w hw)
  have hU' : vx_Zq Bundle.tN "UNASSIGNED_STACK" Bundle.steD A ((T.setVm s.vm).setFrames (.invoking m args :: below)) ((T.setVm s.vm).setFrames (.invoking m args :: below)).heap := by rw [hhp]; exact vx_Zq.moved hW0.alike (hU.kept hS.2.1)
  have hN' : vx_Zq Bundle.tN "SUPPRESSED_SENTINEL" Bundle.listD A ((T.setVm s.vm).setFrames (.invoking m args :: below)) ((T.setVm s.vm).setFrames (.invoking m args :: below)).heap := by rw [hhp]; exact vx_Zq.moved hW0.alike (hN.kept hS.2.1)
  obtain ⟨S, q, ce, st, Z, hce, hcl', hv⟩ := vx_npeAt Y hexec htr (n := nb) (vx_own hat' (vx_isRefq hU'.1) (vx_isRefq hN'.1) hU'.2.word hN'.2.word) (fun x hx => nomatch hx)
    (g := F0 m pc ls rest) rfl hsize hRframes (by show 2 * 0 + (rest.map fun v => v.category).sum + 10240 ≤ R.locals; omega) (by show 0 + 1 ≤ 1; omega) (by show 0 + nb ≤ nb; omega) hlocks
  obtain ⟨f1, f2⟩ := vx_frame Z.same
  have f1' : H.size ≤ S.heap.size := by rw [← hT]; exact f1
  have f2' : ∀ q : Nat, q < H.size → S.heap[q]? = H[q]? := fun q hq => by
    rw [← hT]
    exact f2 q (by rw [← hT] at hq; exact hq) (fun z hz => nomatch hz)
  have X5 := vx_back9 X Y Z
  have X6 : Stand p l e R s m args below meth c S locs (cells + 1) (slots + nb) := { X5 with same := X5.same.mono (by omega) (by omega) }
  obtain ⟨t, a1, b1⟩ := k S.heap q ce f1' f2' ⟨Nat.le_trans hS.1 f1', fun q h1 h2 => (f2' q (Nat.lt_of_lt_of_le h1 hS.1)).trans (hS.2.1 q h1 h2), hS.2.2⟩ hce hv hcl' S rfl X6
  exact ⟨t, st t a1, b1⟩
variable {Q : State → Prop} {cc : ByteArray} {pc : Nat} {ls : Array Slot} {rest : List Value}
theorem vx_idivZ (hexec : p.tables.exec = Jvm.exec) (hb : c.code = cc) {a b : Int32} (h0 : b = 0) (d : decode cc pc = .ok (.idiv, 1)) (k : vx_Note p l e R s m args below meth c H locs cells slots Q (F0 m pc ls rest) "java/lang/ArithmeticException" "/ by zero") :
    W p l e R s m args below meth c H locs cells slots Q (F0 m pc ls (.int b :: .int a :: rest)) := by
  intro T hT X
  obtain ⟨t, st, q⟩ := k T hT X
  exact ⟨t, X.idivZero hexec (g := F0 m pc ls (.int b :: .int a :: rest)) rfl (a := a) (rest := rest) (by rw [h0]) (by rw [hb]; exact d) t st, q⟩
theorem vx_iremZ (hexec : p.tables.exec = Jvm.exec) (hb : c.code = cc) {a b : Int32} (h0 : b = 0) (d : decode cc pc = .ok (.irem, 1)) (k : vx_Note p l e R s m args below meth c H locs cells slots Q (F0 m pc ls rest) "java/lang/ArithmeticException" "/ by zero") :
    W p l e R s m args below meth c H locs cells slots Q (F0 m pc ls (.int b :: .int a :: rest)) := by
  intro T hT X
  obtain ⟨t, st, q⟩ := k T hT X
  exact ⟨t, X.iremZero hexec (g := F0 m pc ls (.int b :: .int a :: rest)) rfl (a := a) (rest := rest) (by rw [h0]) (by rw [hb]; exact d) t st, q⟩
theorem vx_ldivZ (hexec : p.tables.exec = Jvm.exec) (hb : c.code = cc) {a b : Int64} (h0 : b = 0) (d : decode cc pc = .ok (.ldiv, 1)) (k : vx_Note p l e R s m args below meth c H locs cells slots Q (F0 m pc ls rest) "java/lang/ArithmeticException" "/ by zero") :
    W p l e R s m args below meth c H locs cells slots Q (F0 m pc ls (.long b :: .long a :: rest)) := by
  intro T hT X
  obtain ⟨t, st, q⟩ := k T hT X
  exact ⟨t, X.ldivZero hexec (g := F0 m pc ls (.long b :: .long a :: rest)) rfl (a := a) (rest := rest) (by rw [h0]) (by rw [hb]; exact d) t st, q⟩
theorem vx_lremZ (hexec : p.tables.exec = Jvm.exec) (hb : c.code = cc) {a b : Int64} (h0 : b = 0) (d : decode cc pc = .ok (.lrem, 1)) (k : vx_Note p l e R s m args below meth c H locs cells slots Q (F0 m pc ls rest) "java/lang/ArithmeticException" "/ by zero") :
    W p l e R s m args below meth c H locs cells slots Q (F0 m pc ls (.long b :: .long a :: rest)) := by
  intro T hT X
  obtain ⟨t, st, q⟩ := k T hT X
  exact ⟨t, X.lremZero hexec (g := F0 m pc ls (.long b :: .long a :: rest)) rfl (a := a) (rest := rest) (by rw [h0]) (by rw [hb]; exact d) t st, q⟩
theorem vx_ialdZ {D : va_G} {cl : List vw_C} {ws : va_W} {tys : List (ClassId × FieldType)} {a : Nat} (hexec : p.tables.exec = Jvm.exec) (hb : c.code = cc) (hK : va_K D cl tys s) (hP : va_P D cl ws H) (q0 t0 : Nat) {cA : ClassId} {n : Nat} {f : Nat → Int32} (ha : ws[q0]? = some (a, .inl (cA, n, .inl f))) (ht : tys[t0]? = some (cA, .int)) {i : Int32} (hout : ¬ vp_in i n) (hdg : decode cc pc = .ok (.iaload, 1))
    (k : ∀ tx : String, tx = (toString "Index " ++ toString i ++ toString " out of bounds for length " ++ toString n : String) → vx_Note p l e R s m args below meth c H locs cells slots Q (F0 m pc ls rest) "java/lang/ArrayIndexOutOfBoundsException" tx) : W p l e R s m args below meth c H locs cells slots Q (F0 m pc ls (.int i :: .ref a :: rest)) := by
  intro T hT X
  obtain ⟨t, st, q⟩ := k _ rfl T hT X
  refine ⟨t, ?_, q⟩
  have h1 := X.ialoadOut hexec (by rw [hT]; exact hP q0 _ ha) ((hK.2 t0 _ ht).1 n (fun j => .int (f j))) (j := i) (by show (i < 0 ∨ (arrV _ _ _).slots.size ≤ _); rw [arrV_size]; exact Classical.byContradiction hout) (g := F0 m pc ls (.int i :: .ref a :: rest)) rfl (rest := rest) rfl (by rw [hb]; exact hdg) t
  simp only [arrV_size] at h1
  exact h1 st
theorem vx_iastZ {D : va_G} {cl : List vw_C} {ws : va_W} {tys : List (ClassId × FieldType)} {a : Nat} (hexec : p.tables.exec = Jvm.exec) (hb : c.code = cc) (hK : va_K D cl tys s) (hP : va_P D cl ws H) (q0 t0 : Nat) {cA : ClassId} {n : Nat} {f : Nat → Int32} (ha : ws[q0]? = some (a, .inl (cA, n, .inl f))) (ht : tys[t0]? = some (cA, .int)) {i : Int32} {x : Int32} (hout : ¬ vp_in i n) (hdg : decode cc pc = .ok (.iastore, 1))
    (k : ∀ tx : String, tx = (toString "Index " ++ toString i ++ toString " out of bounds for length " ++ toString n : String) → vx_Note p l e R s m args below meth c H locs cells slots Q (F0 m pc ls rest) "java/lang/ArrayIndexOutOfBoundsException" tx) : W p l e R s m args below meth c H locs cells slots Q (F0 m pc ls (.int x :: .int i :: .ref a :: rest)) := by
  intro T hT X
  obtain ⟨t, st, q⟩ := k _ rfl T hT X
  refine ⟨t, ?_, q⟩
  have h1 := X.iastoreOut hexec (by rw [hT]; exact hP q0 _ ha) ((hK.2 t0 _ ht).1 n (fun j => .int (f j))) (j := i) (by show (i < 0 ∨ (arrV _ _ _).slots.size ≤ _); rw [arrV_size]; exact Classical.byContradiction hout) (g := F0 m pc ls (.int x :: .int i :: .ref a :: rest)) rfl (rest := rest) rfl (by rw [hb]; exact hdg) t
  simp only [arrV_size] at h1
  exact h1 st
theorem vx_baldZ {D : va_G} {cl : List vw_C} {ws : va_W} {tys : List (ClassId × FieldType)} {a : Nat} (hexec : p.tables.exec = Jvm.exec) (hb : c.code = cc) (hK : va_K D cl tys s) (hP : va_P D cl ws H) (q0 t0 : Nat) {cA : ClassId} {n : Nat} {f : Nat → Int32} (ha : ws[q0]? = some (a, .inl (cA, n, .inl f))) (ht : tys[t0]? = some (cA, .byte)) {i : Int32} (hout : ¬ vp_in i n) (hdg : decode cc pc = .ok (.baload, 1))
    (k : ∀ tx : String, tx = (toString "Index " ++ toString i ++ toString " out of bounds for length " ++ toString n : String) → vx_Note p l e R s m args below meth c H locs cells slots Q (F0 m pc ls rest) "java/lang/ArrayIndexOutOfBoundsException" tx) : W p l e R s m args below meth c H locs cells slots Q (F0 m pc ls (.int i :: .ref a :: rest)) := by
  intro T hT X
  obtain ⟨t, st, q⟩ := k _ rfl T hT X
  refine ⟨t, ?_, q⟩
  have h1 := X.baloadOut hexec (by rw [hT]; exact hP q0 _ ha) ((hK.2 t0 _ ht).1 n (fun j => .int (f j))) (j := i) (by show (i < 0 ∨ (arrV _ _ _).slots.size ≤ _); rw [arrV_size]; exact Classical.byContradiction hout) (g := F0 m pc ls (.int i :: .ref a :: rest)) rfl (rest := rest) rfl (by rw [hb]; exact hdg) t
  simp only [arrV_size] at h1
  exact h1 st
theorem vx_bastZ {D : va_G} {cl : List vw_C} {ws : va_W} {tys : List (ClassId × FieldType)} {a : Nat} (hexec : p.tables.exec = Jvm.exec) (hb : c.code = cc) (hK : va_K D cl tys s) (hP : va_P D cl ws H) (q0 t0 : Nat) {cA : ClassId} {n : Nat} {f : Nat → Int32} (ha : ws[q0]? = some (a, .inl (cA, n, .inl f))) (ht : tys[t0]? = some (cA, .byte)) {i : Int32} {x : Int32} (hout : ¬ vp_in i n) (hdg : decode cc pc = .ok (.bastore, 1))
    (k : ∀ tx : String, tx = (toString "Index " ++ toString i ++ toString " out of bounds for length " ++ toString n : String) → vx_Note p l e R s m args below meth c H locs cells slots Q (F0 m pc ls rest) "java/lang/ArrayIndexOutOfBoundsException" tx) : W p l e R s m args below meth c H locs cells slots Q (F0 m pc ls (.int x :: .int i :: .ref a :: rest)) := by
  intro T hT X
  obtain ⟨t, st, q⟩ := k _ rfl T hT X
  refine ⟨t, ?_, q⟩
  have h1 := X.bastoreOut hexec (by rw [hT]; exact hP q0 _ ha) ((hK.2 t0 _ ht).1 n (fun j => .int (f j))) (j := i) (by show (i < 0 ∨ (arrV _ _ _).slots.size ≤ _); rw [arrV_size]; exact Classical.byContradiction hout) (g := F0 m pc ls (.int x :: .int i :: .ref a :: rest)) rfl (rest := rest) rfl (by rw [hb]; exact hdg) t
  simp only [arrV_size] at h1
  exact h1 st
theorem vx_zaldZ {D : va_G} {cl : List vw_C} {ws : va_W} {tys : List (ClassId × FieldType)} {a : Nat} (hexec : p.tables.exec = Jvm.exec) (hb : c.code = cc) (hK : va_K D cl tys s) (hP : va_P D cl ws H) (q0 t0 : Nat) {cA : ClassId} {n : Nat} {f : Nat → Int32} (ha : ws[q0]? = some (a, .inl (cA, n, .inl f))) (ht : tys[t0]? = some (cA, .boolean)) {i : Int32} (hout : ¬ vp_in i n) (hdg : decode cc pc = .ok (.baload, 1))
    (k : ∀ tx : String, tx = (toString "Index " ++ toString i ++ toString " out of bounds for length " ++ toString n : String) → vx_Note p l e R s m args below meth c H locs cells slots Q (F0 m pc ls rest) "java/lang/ArrayIndexOutOfBoundsException" tx) : W p l e R s m args below meth c H locs cells slots Q (F0 m pc ls (.int i :: .ref a :: rest)) := by
  intro T hT X
  obtain ⟨t, st, q⟩ := k _ rfl T hT X
  refine ⟨t, ?_, q⟩
  have h1 := X.baloadOut hexec (by rw [hT]; exact hP q0 _ ha) ((hK.2 t0 _ ht).1 n (fun j => .int (f j))) (j := i) (by show (i < 0 ∨ (arrV _ _ _).slots.size ≤ _); rw [arrV_size]; exact Classical.byContradiction hout) (g := F0 m pc ls (.int i :: .ref a :: rest)) rfl (rest := rest) rfl (by rw [hb]; exact hdg) t
  simp only [arrV_size] at h1
  exact h1 st
theorem vx_zastZ {D : va_G} {cl : List vw_C} {ws : va_W} {tys : List (ClassId × FieldType)} {a : Nat} (hexec : p.tables.exec = Jvm.exec) (hb : c.code = cc) (hK : va_K D cl tys s) (hP : va_P D cl ws H) (q0 t0 : Nat) {cA : ClassId} {n : Nat} {f : Nat → Int32} (ha : ws[q0]? = some (a, .inl (cA, n, .inl f))) (ht : tys[t0]? = some (cA, .boolean)) {i : Int32} {x : Int32} (hout : ¬ vp_in i n) (hdg : decode cc pc = .ok (.bastore, 1))
    (k : ∀ tx : String, tx = (toString "Index " ++ toString i ++ toString " out of bounds for length " ++ toString n : String) → vx_Note p l e R s m args below meth c H locs cells slots Q (F0 m pc ls rest) "java/lang/ArrayIndexOutOfBoundsException" tx) : W p l e R s m args below meth c H locs cells slots Q (F0 m pc ls (.int x :: .int i :: .ref a :: rest)) := by
  intro T hT X
  obtain ⟨t, st, q⟩ := k _ rfl T hT X
  refine ⟨t, ?_, q⟩
  have h1 := X.bastoreOut hexec (by rw [hT]; exact hP q0 _ ha) ((hK.2 t0 _ ht).1 n (fun j => .int (f j))) (j := i) (by show (i < 0 ∨ (arrV _ _ _).slots.size ≤ _); rw [arrV_size]; exact Classical.byContradiction hout) (g := F0 m pc ls (.int x :: .int i :: .ref a :: rest)) rfl (rest := rest) rfl (by rw [hb]; exact hdg) t
  simp only [arrV_size] at h1
  exact h1 st
theorem vx_caldZ {D : va_G} {cl : List vw_C} {ws : va_W} {tys : List (ClassId × FieldType)} {a : Nat} (hexec : p.tables.exec = Jvm.exec) (hb : c.code = cc) (hK : va_K D cl tys s) (hP : va_P D cl ws H) (q0 t0 : Nat) {cA : ClassId} {n : Nat} {f : Nat → Int32} (ha : ws[q0]? = some (a, .inl (cA, n, .inl f))) (ht : tys[t0]? = some (cA, .char)) {i : Int32} (hout : ¬ vp_in i n) (hdg : decode cc pc = .ok (.caload, 1))
    (k : ∀ tx : String, tx = (toString "Index " ++ toString i ++ toString " out of bounds for length " ++ toString n : String) → vx_Note p l e R s m args below meth c H locs cells slots Q (F0 m pc ls rest) "java/lang/ArrayIndexOutOfBoundsException" tx) : W p l e R s m args below meth c H locs cells slots Q (F0 m pc ls (.int i :: .ref a :: rest)) := by
  intro T hT X
  obtain ⟨t, st, q⟩ := k _ rfl T hT X
  refine ⟨t, ?_, q⟩
  have h1 := X.caloadOut hexec (by rw [hT]; exact hP q0 _ ha) ((hK.2 t0 _ ht).1 n (fun j => .int (f j))) (j := i) (by show (i < 0 ∨ (arrV _ _ _).slots.size ≤ _); rw [arrV_size]; exact Classical.byContradiction hout) (g := F0 m pc ls (.int i :: .ref a :: rest)) rfl (rest := rest) rfl (by rw [hb]; exact hdg) t
  simp only [arrV_size] at h1
  exact h1 st
theorem vx_castZ {D : va_G} {cl : List vw_C} {ws : va_W} {tys : List (ClassId × FieldType)} {a : Nat} (hexec : p.tables.exec = Jvm.exec) (hb : c.code = cc) (hK : va_K D cl tys s) (hP : va_P D cl ws H) (q0 t0 : Nat) {cA : ClassId} {n : Nat} {f : Nat → Int32} (ha : ws[q0]? = some (a, .inl (cA, n, .inl f))) (ht : tys[t0]? = some (cA, .char)) {i : Int32} {x : Int32} (hout : ¬ vp_in i n) (hdg : decode cc pc = .ok (.castore, 1))
    (k : ∀ tx : String, tx = (toString "Index " ++ toString i ++ toString " out of bounds for length " ++ toString n : String) → vx_Note p l e R s m args below meth c H locs cells slots Q (F0 m pc ls rest) "java/lang/ArrayIndexOutOfBoundsException" tx) : W p l e R s m args below meth c H locs cells slots Q (F0 m pc ls (.int x :: .int i :: .ref a :: rest)) := by
  intro T hT X
  obtain ⟨t, st, q⟩ := k _ rfl T hT X
  refine ⟨t, ?_, q⟩
  have h1 := X.castoreOut hexec (by rw [hT]; exact hP q0 _ ha) ((hK.2 t0 _ ht).1 n (fun j => .int (f j))) (j := i) (by show (i < 0 ∨ (arrV _ _ _).slots.size ≤ _); rw [arrV_size]; exact Classical.byContradiction hout) (g := F0 m pc ls (.int x :: .int i :: .ref a :: rest)) rfl (rest := rest) rfl (by rw [hb]; exact hdg) t
  simp only [arrV_size] at h1
  exact h1 st
theorem vx_saldZ {D : va_G} {cl : List vw_C} {ws : va_W} {tys : List (ClassId × FieldType)} {a : Nat} (hexec : p.tables.exec = Jvm.exec) (hb : c.code = cc) (hK : va_K D cl tys s) (hP : va_P D cl ws H) (q0 t0 : Nat) {cA : ClassId} {n : Nat} {f : Nat → Int32} (ha : ws[q0]? = some (a, .inl (cA, n, .inl f))) (ht : tys[t0]? = some (cA, .short)) {i : Int32} (hout : ¬ vp_in i n) (hdg : decode cc pc = .ok (.saload, 1))
    (k : ∀ tx : String, tx = (toString "Index " ++ toString i ++ toString " out of bounds for length " ++ toString n : String) → vx_Note p l e R s m args below meth c H locs cells slots Q (F0 m pc ls rest) "java/lang/ArrayIndexOutOfBoundsException" tx) : W p l e R s m args below meth c H locs cells slots Q (F0 m pc ls (.int i :: .ref a :: rest)) := by
  intro T hT X
  obtain ⟨t, st, q⟩ := k _ rfl T hT X
  refine ⟨t, ?_, q⟩
  have h1 := X.saloadOut hexec (by rw [hT]; exact hP q0 _ ha) ((hK.2 t0 _ ht).1 n (fun j => .int (f j))) (j := i) (by show (i < 0 ∨ (arrV _ _ _).slots.size ≤ _); rw [arrV_size]; exact Classical.byContradiction hout) (g := F0 m pc ls (.int i :: .ref a :: rest)) rfl (rest := rest) rfl (by rw [hb]; exact hdg) t
  simp only [arrV_size] at h1
  exact h1 st
theorem vx_sastZ {D : va_G} {cl : List vw_C} {ws : va_W} {tys : List (ClassId × FieldType)} {a : Nat} (hexec : p.tables.exec = Jvm.exec) (hb : c.code = cc) (hK : va_K D cl tys s) (hP : va_P D cl ws H) (q0 t0 : Nat) {cA : ClassId} {n : Nat} {f : Nat → Int32} (ha : ws[q0]? = some (a, .inl (cA, n, .inl f))) (ht : tys[t0]? = some (cA, .short)) {i : Int32} {x : Int32} (hout : ¬ vp_in i n) (hdg : decode cc pc = .ok (.sastore, 1))
    (k : ∀ tx : String, tx = (toString "Index " ++ toString i ++ toString " out of bounds for length " ++ toString n : String) → vx_Note p l e R s m args below meth c H locs cells slots Q (F0 m pc ls rest) "java/lang/ArrayIndexOutOfBoundsException" tx) : W p l e R s m args below meth c H locs cells slots Q (F0 m pc ls (.int x :: .int i :: .ref a :: rest)) := by
  intro T hT X
  obtain ⟨t, st, q⟩ := k _ rfl T hT X
  refine ⟨t, ?_, q⟩
  have h1 := X.sastoreOut hexec (by rw [hT]; exact hP q0 _ ha) ((hK.2 t0 _ ht).1 n (fun j => .int (f j))) (j := i) (by show (i < 0 ∨ (arrV _ _ _).slots.size ≤ _); rw [arrV_size]; exact Classical.byContradiction hout) (g := F0 m pc ls (.int x :: .int i :: .ref a :: rest)) rfl (rest := rest) rfl (by rw [hb]; exact hdg) t
  simp only [arrV_size] at h1
  exact h1 st
theorem vx_laldZ {D : va_G} {cl : List vw_C} {ws : va_W} {tys : List (ClassId × FieldType)} {a : Nat} (hexec : p.tables.exec = Jvm.exec) (hb : c.code = cc) (hK : va_K D cl tys s) (hP : va_P D cl ws H) (q0 t0 : Nat) {cA : ClassId} {n : Nat} {f : Nat → Int64} (ha : ws[q0]? = some (a, .inl (cA, n, .inr (.inl f)))) (ht : tys[t0]? = some (cA, .long)) {i : Int32} (hout : ¬ vp_in i n) (hdg : decode cc pc = .ok (.laload, 1))
    (k : ∀ tx : String, tx = (toString "Index " ++ toString i ++ toString " out of bounds for length " ++ toString n : String) → vx_Note p l e R s m args below meth c H locs cells slots Q (F0 m pc ls rest) "java/lang/ArrayIndexOutOfBoundsException" tx) : W p l e R s m args below meth c H locs cells slots Q (F0 m pc ls (.int i :: .ref a :: rest)) := by
  intro T hT X
  obtain ⟨t, st, q⟩ := k _ rfl T hT X
  refine ⟨t, ?_, q⟩
  have h1 := X.laloadOut hexec (by rw [hT]; exact hP q0 _ ha) ((hK.2 t0 _ ht).1 n (fun j => .long (f j))) (j := i) (by show (i < 0 ∨ (arrV _ _ _).slots.size ≤ _); rw [arrV_size]; exact Classical.byContradiction hout) (g := F0 m pc ls (.int i :: .ref a :: rest)) rfl (rest := rest) rfl (by rw [hb]; exact hdg) t
  simp only [arrV_size] at h1
  exact h1 st
theorem vx_lastZ {D : va_G} {cl : List vw_C} {ws : va_W} {tys : List (ClassId × FieldType)} {a : Nat} (hexec : p.tables.exec = Jvm.exec) (hb : c.code = cc) (hK : va_K D cl tys s) (hP : va_P D cl ws H) (q0 t0 : Nat) {cA : ClassId} {n : Nat} {f : Nat → Int64} (ha : ws[q0]? = some (a, .inl (cA, n, .inr (.inl f)))) (ht : tys[t0]? = some (cA, .long)) {i : Int32} {x : Int64} (hout : ¬ vp_in i n) (hdg : decode cc pc = .ok (.lastore, 1))
    (k : ∀ tx : String, tx = (toString "Index " ++ toString i ++ toString " out of bounds for length " ++ toString n : String) → vx_Note p l e R s m args below meth c H locs cells slots Q (F0 m pc ls rest) "java/lang/ArrayIndexOutOfBoundsException" tx) : W p l e R s m args below meth c H locs cells slots Q (F0 m pc ls (.long x :: .int i :: .ref a :: rest)) := by
  intro T hT X
  obtain ⟨t, st, q⟩ := k _ rfl T hT X
  refine ⟨t, ?_, q⟩
  have h1 := X.lastoreOut hexec (by rw [hT]; exact hP q0 _ ha) ((hK.2 t0 _ ht).1 n (fun j => .long (f j))) (j := i) (by show (i < 0 ∨ (arrV _ _ _).slots.size ≤ _); rw [arrV_size]; exact Classical.byContradiction hout) (g := F0 m pc ls (.long x :: .int i :: .ref a :: rest)) rfl (rest := rest) rfl (by rw [hb]; exact hdg) t
  simp only [arrV_size] at h1
  exact h1 st
theorem vx_faldZ {D : va_G} {cl : List vw_C} {ws : va_W} {tys : List (ClassId × FieldType)} {a : Nat} (hexec : p.tables.exec = Jvm.exec) (hb : c.code = cc) (hK : va_K D cl tys s) (hP : va_P D cl ws H) (q0 t0 : Nat) {cA : ClassId} {n : Nat} {f : Nat → UInt32} (ha : ws[q0]? = some (a, .inl (cA, n, .inr (.inr (.inl f))))) (ht : tys[t0]? = some (cA, .float)) {i : Int32} (hout : ¬ vp_in i n) (hdg : decode cc pc = .ok (.faload, 1))
    (k : ∀ tx : String, tx = (toString "Index " ++ toString i ++ toString " out of bounds for length " ++ toString n : String) → vx_Note p l e R s m args below meth c H locs cells slots Q (F0 m pc ls rest) "java/lang/ArrayIndexOutOfBoundsException" tx) : W p l e R s m args below meth c H locs cells slots Q (F0 m pc ls (.int i :: .ref a :: rest)) := by
  intro T hT X
  obtain ⟨t, st, q⟩ := k _ rfl T hT X
  refine ⟨t, ?_, q⟩
  have h1 := X.faloadOut hexec (by rw [hT]; exact hP q0 _ ha) ((hK.2 t0 _ ht).1 n (fun j => .float (f j))) (j := i) (by show (i < 0 ∨ (arrV _ _ _).slots.size ≤ _); rw [arrV_size]; exact Classical.byContradiction hout) (g := F0 m pc ls (.int i :: .ref a :: rest)) rfl (rest := rest) rfl (by rw [hb]; exact hdg) t
  simp only [arrV_size] at h1
  exact h1 st
theorem vx_fastZ {D : va_G} {cl : List vw_C} {ws : va_W} {tys : List (ClassId × FieldType)} {a : Nat} (hexec : p.tables.exec = Jvm.exec) (hb : c.code = cc) (hK : va_K D cl tys s) (hP : va_P D cl ws H) (q0 t0 : Nat) {cA : ClassId} {n : Nat} {f : Nat → UInt32} (ha : ws[q0]? = some (a, .inl (cA, n, .inr (.inr (.inl f))))) (ht : tys[t0]? = some (cA, .float)) {i : Int32} {x : UInt32} (hout : ¬ vp_in i n) (hdg : decode cc pc = .ok (.fastore, 1))
    (k : ∀ tx : String, tx = (toString "Index " ++ toString i ++ toString " out of bounds for length " ++ toString n : String) → vx_Note p l e R s m args below meth c H locs cells slots Q (F0 m pc ls rest) "java/lang/ArrayIndexOutOfBoundsException" tx) : W p l e R s m args below meth c H locs cells slots Q (F0 m pc ls (.float x :: .int i :: .ref a :: rest)) := by
  intro T hT X
  obtain ⟨t, st, q⟩ := k _ rfl T hT X
  refine ⟨t, ?_, q⟩
  have h1 := X.fastoreOut hexec (by rw [hT]; exact hP q0 _ ha) ((hK.2 t0 _ ht).1 n (fun j => .float (f j))) (j := i) (by show (i < 0 ∨ (arrV _ _ _).slots.size ≤ _); rw [arrV_size]; exact Classical.byContradiction hout) (g := F0 m pc ls (.float x :: .int i :: .ref a :: rest)) rfl (rest := rest) rfl (by rw [hb]; exact hdg) t
  simp only [arrV_size] at h1
  exact h1 st
theorem vx_daldZ {D : va_G} {cl : List vw_C} {ws : va_W} {tys : List (ClassId × FieldType)} {a : Nat} (hexec : p.tables.exec = Jvm.exec) (hb : c.code = cc) (hK : va_K D cl tys s) (hP : va_P D cl ws H) (q0 t0 : Nat) {cA : ClassId} {n : Nat} {f : Nat → UInt64} (ha : ws[q0]? = some (a, .inl (cA, n, .inr (.inr (.inr (.inl f)))))) (ht : tys[t0]? = some (cA, .double)) {i : Int32} (hout : ¬ vp_in i n) (hdg : decode cc pc = .ok (.daload, 1))
    (k : ∀ tx : String, tx = (toString "Index " ++ toString i ++ toString " out of bounds for length " ++ toString n : String) → vx_Note p l e R s m args below meth c H locs cells slots Q (F0 m pc ls rest) "java/lang/ArrayIndexOutOfBoundsException" tx) : W p l e R s m args below meth c H locs cells slots Q (F0 m pc ls (.int i :: .ref a :: rest)) := by
  intro T hT X
  obtain ⟨t, st, q⟩ := k _ rfl T hT X
  refine ⟨t, ?_, q⟩
  have h1 := X.daloadOut hexec (by rw [hT]; exact hP q0 _ ha) ((hK.2 t0 _ ht).1 n (fun j => .double (f j))) (j := i) (by show (i < 0 ∨ (arrV _ _ _).slots.size ≤ _); rw [arrV_size]; exact Classical.byContradiction hout) (g := F0 m pc ls (.int i :: .ref a :: rest)) rfl (rest := rest) rfl (by rw [hb]; exact hdg) t
  simp only [arrV_size] at h1
  exact h1 st
theorem vx_dastZ {D : va_G} {cl : List vw_C} {ws : va_W} {tys : List (ClassId × FieldType)} {a : Nat} (hexec : p.tables.exec = Jvm.exec) (hb : c.code = cc) (hK : va_K D cl tys s) (hP : va_P D cl ws H) (q0 t0 : Nat) {cA : ClassId} {n : Nat} {f : Nat → UInt64} (ha : ws[q0]? = some (a, .inl (cA, n, .inr (.inr (.inr (.inl f)))))) (ht : tys[t0]? = some (cA, .double)) {i : Int32} {x : UInt64} (hout : ¬ vp_in i n) (hdg : decode cc pc = .ok (.dastore, 1))
    (k : ∀ tx : String, tx = (toString "Index " ++ toString i ++ toString " out of bounds for length " ++ toString n : String) → vx_Note p l e R s m args below meth c H locs cells slots Q (F0 m pc ls rest) "java/lang/ArrayIndexOutOfBoundsException" tx) : W p l e R s m args below meth c H locs cells slots Q (F0 m pc ls (.double x :: .int i :: .ref a :: rest)) := by
  intro T hT X
  obtain ⟨t, st, q⟩ := k _ rfl T hT X
  refine ⟨t, ?_, q⟩
  have h1 := X.dastoreOut hexec (by rw [hT]; exact hP q0 _ ha) ((hK.2 t0 _ ht).1 n (fun j => .double (f j))) (j := i) (by show (i < 0 ∨ (arrV _ _ _).slots.size ≤ _); rw [arrV_size]; exact Classical.byContradiction hout) (g := F0 m pc ls (.double x :: .int i :: .ref a :: rest)) rfl (rest := rest) rfl (by rw [hb]; exact hdg) t
  simp only [arrV_size] at h1
  exact h1 st
theorem vx_arraylengthN (hexec : p.tables.exec = Jvm.exec) (hb : c.code = cc) (hdg : decode cc pc = .ok (.arraylength, 1)) (k : vx_NoteN p l e R s m args below meth c H locs cells slots Q (F0 m pc ls rest)) : W p l e R s m args below meth c H locs cells slots Q (F0 m pc ls (.null :: rest)) := by
  intro T hT X
  obtain ⟨t, st, q⟩ := k T hT X
  exact ⟨t, X.arraylengthNull hexec (g := F0 m pc ls (.null :: rest)) rfl (rest := rest) rfl (by rw [hb]; exact hdg) t st, q⟩
theorem vx_ialoadN (hexec : p.tables.exec = Jvm.exec) (hb : c.code = cc) {i : Int32} (hdg : decode cc pc = .ok (.iaload, 1)) (k : vx_NoteN p l e R s m args below meth c H locs cells slots Q (F0 m pc ls rest)) : W p l e R s m args below meth c H locs cells slots Q (F0 m pc ls (.int i :: .null :: rest)) := by
  intro T hT X
  obtain ⟨t, st, q⟩ := k T hT X
  exact ⟨t, X.ialoadNull hexec (g := F0 m pc ls (.int i :: .null :: rest)) rfl (rest := rest) rfl (by rw [hb]; exact hdg) t st, q⟩
theorem vx_laloadN (hexec : p.tables.exec = Jvm.exec) (hb : c.code = cc) {i : Int32} (hdg : decode cc pc = .ok (.laload, 1)) (k : vx_NoteN p l e R s m args below meth c H locs cells slots Q (F0 m pc ls rest)) : W p l e R s m args below meth c H locs cells slots Q (F0 m pc ls (.int i :: .null :: rest)) := by
  intro T hT X
  obtain ⟨t, st, q⟩ := k T hT X
  exact ⟨t, X.laloadNull hexec (g := F0 m pc ls (.int i :: .null :: rest)) rfl (rest := rest) rfl (by rw [hb]; exact hdg) t st, q⟩
theorem vx_faloadN (hexec : p.tables.exec = Jvm.exec) (hb : c.code = cc) {i : Int32} (hdg : decode cc pc = .ok (.faload, 1)) (k : vx_NoteN p l e R s m args below meth c H locs cells slots Q (F0 m pc ls rest)) : W p l e R s m args below meth c H locs cells slots Q (F0 m pc ls (.int i :: .null :: rest)) := by
  intro T hT X
  obtain ⟨t, st, q⟩ := k T hT X
  exact ⟨t, X.faloadNull hexec (g := F0 m pc ls (.int i :: .null :: rest)) rfl (rest := rest) rfl (by rw [hb]; exact hdg) t st, q⟩
theorem vx_daloadN (hexec : p.tables.exec = Jvm.exec) (hb : c.code = cc) {i : Int32} (hdg : decode cc pc = .ok (.daload, 1)) (k : vx_NoteN p l e R s m args below meth c H locs cells slots Q (F0 m pc ls rest)) : W p l e R s m args below meth c H locs cells slots Q (F0 m pc ls (.int i :: .null :: rest)) := by
  intro T hT X
  obtain ⟨t, st, q⟩ := k T hT X
  exact ⟨t, X.daloadNull hexec (g := F0 m pc ls (.int i :: .null :: rest)) rfl (rest := rest) rfl (by rw [hb]; exact hdg) t st, q⟩
theorem vx_aaloadN (hexec : p.tables.exec = Jvm.exec) (hb : c.code = cc) {i : Int32} (hdg : decode cc pc = .ok (.aaload, 1)) (k : vx_NoteN p l e R s m args below meth c H locs cells slots Q (F0 m pc ls rest)) : W p l e R s m args below meth c H locs cells slots Q (F0 m pc ls (.int i :: .null :: rest)) := by
  intro T hT X
  obtain ⟨t, st, q⟩ := k T hT X
  exact ⟨t, X.aaloadNull hexec (g := F0 m pc ls (.int i :: .null :: rest)) rfl (rest := rest) rfl (by rw [hb]; exact hdg) t st, q⟩
theorem vx_baloadN (hexec : p.tables.exec = Jvm.exec) (hb : c.code = cc) {i : Int32} (hdg : decode cc pc = .ok (.baload, 1)) (k : vx_NoteN p l e R s m args below meth c H locs cells slots Q (F0 m pc ls rest)) : W p l e R s m args below meth c H locs cells slots Q (F0 m pc ls (.int i :: .null :: rest)) := by
  intro T hT X
  obtain ⟨t, st, q⟩ := k T hT X
  exact ⟨t, X.baloadNull hexec (g := F0 m pc ls (.int i :: .null :: rest)) rfl (rest := rest) rfl (by rw [hb]; exact hdg) t st, q⟩
theorem vx_caloadN (hexec : p.tables.exec = Jvm.exec) (hb : c.code = cc) {i : Int32} (hdg : decode cc pc = .ok (.caload, 1)) (k : vx_NoteN p l e R s m args below meth c H locs cells slots Q (F0 m pc ls rest)) : W p l e R s m args below meth c H locs cells slots Q (F0 m pc ls (.int i :: .null :: rest)) := by
  intro T hT X
  obtain ⟨t, st, q⟩ := k T hT X
  exact ⟨t, X.caloadNull hexec (g := F0 m pc ls (.int i :: .null :: rest)) rfl (rest := rest) rfl (by rw [hb]; exact hdg) t st, q⟩
theorem vx_saloadN (hexec : p.tables.exec = Jvm.exec) (hb : c.code = cc) {i : Int32} (hdg : decode cc pc = .ok (.saload, 1)) (k : vx_NoteN p l e R s m args below meth c H locs cells slots Q (F0 m pc ls rest)) : W p l e R s m args below meth c H locs cells slots Q (F0 m pc ls (.int i :: .null :: rest)) := by
  intro T hT X
  obtain ⟨t, st, q⟩ := k T hT X
  exact ⟨t, X.saloadNull hexec (g := F0 m pc ls (.int i :: .null :: rest)) rfl (rest := rest) rfl (by rw [hb]; exact hdg) t st, q⟩
theorem vx_iastoreN (hexec : p.tables.exec = Jvm.exec) (hb : c.code = cc) {x : Int32} {i : Int32} (hdg : decode cc pc = .ok (.iastore, 1)) (k : vx_NoteN p l e R s m args below meth c H locs cells slots Q (F0 m pc ls rest)) : W p l e R s m args below meth c H locs cells slots Q (F0 m pc ls (.int x :: .int i :: .null :: rest)) := by
  intro T hT X
  obtain ⟨t, st, q⟩ := k T hT X
  exact ⟨t, X.iastoreNull hexec (g := F0 m pc ls (.int x :: .int i :: .null :: rest)) rfl (rest := rest) rfl (by rw [hb]; exact hdg) t st, q⟩
theorem vx_lastoreN (hexec : p.tables.exec = Jvm.exec) (hb : c.code = cc) {x : Int64} {i : Int32} (hdg : decode cc pc = .ok (.lastore, 1)) (k : vx_NoteN p l e R s m args below meth c H locs cells slots Q (F0 m pc ls rest)) : W p l e R s m args below meth c H locs cells slots Q (F0 m pc ls (.long x :: .int i :: .null :: rest)) := by
  intro T hT X
  obtain ⟨t, st, q⟩ := k T hT X
  exact ⟨t, X.lastoreNull hexec (g := F0 m pc ls (.long x :: .int i :: .null :: rest)) rfl (rest := rest) rfl (by rw [hb]; exact hdg) t st, q⟩
theorem vx_fastoreN (hexec : p.tables.exec = Jvm.exec) (hb : c.code = cc) {x : UInt32} {i : Int32} (hdg : decode cc pc = .ok (.fastore, 1)) (k : vx_NoteN p l e R s m args below meth c H locs cells slots Q (F0 m pc ls rest)) : W p l e R s m args below meth c H locs cells slots Q (F0 m pc ls (.float x :: .int i :: .null :: rest)) := by
  intro T hT X
  obtain ⟨t, st, q⟩ := k T hT X
  exact ⟨t, X.fastoreNull hexec (g := F0 m pc ls (.float x :: .int i :: .null :: rest)) rfl (rest := rest) rfl (by rw [hb]; exact hdg) t st, q⟩
theorem vx_dastoreN (hexec : p.tables.exec = Jvm.exec) (hb : c.code = cc) {x : UInt64} {i : Int32} (hdg : decode cc pc = .ok (.dastore, 1)) (k : vx_NoteN p l e R s m args below meth c H locs cells slots Q (F0 m pc ls rest)) : W p l e R s m args below meth c H locs cells slots Q (F0 m pc ls (.double x :: .int i :: .null :: rest)) := by
  intro T hT X
  obtain ⟨t, st, q⟩ := k T hT X
  exact ⟨t, X.dastoreNull hexec (g := F0 m pc ls (.double x :: .int i :: .null :: rest)) rfl (rest := rest) rfl (by rw [hb]; exact hdg) t st, q⟩
theorem vx_bastoreN (hexec : p.tables.exec = Jvm.exec) (hb : c.code = cc) {x : Int32} {i : Int32} (hdg : decode cc pc = .ok (.bastore, 1)) (k : vx_NoteN p l e R s m args below meth c H locs cells slots Q (F0 m pc ls rest)) : W p l e R s m args below meth c H locs cells slots Q (F0 m pc ls (.int x :: .int i :: .null :: rest)) := by
  intro T hT X
  obtain ⟨t, st, q⟩ := k T hT X
  exact ⟨t, X.bastoreNull hexec (g := F0 m pc ls (.int x :: .int i :: .null :: rest)) rfl (rest := rest) rfl (by rw [hb]; exact hdg) t st, q⟩
theorem vx_castoreN (hexec : p.tables.exec = Jvm.exec) (hb : c.code = cc) {x : Int32} {i : Int32} (hdg : decode cc pc = .ok (.castore, 1)) (k : vx_NoteN p l e R s m args below meth c H locs cells slots Q (F0 m pc ls rest)) : W p l e R s m args below meth c H locs cells slots Q (F0 m pc ls (.int x :: .int i :: .null :: rest)) := by
  intro T hT X
  obtain ⟨t, st, q⟩ := k T hT X
  exact ⟨t, X.castoreNull hexec (g := F0 m pc ls (.int x :: .int i :: .null :: rest)) rfl (rest := rest) rfl (by rw [hb]; exact hdg) t st, q⟩
theorem vx_sastoreN (hexec : p.tables.exec = Jvm.exec) (hb : c.code = cc) {x : Int32} {i : Int32} (hdg : decode cc pc = .ok (.sastore, 1)) (k : vx_NoteN p l e R s m args below meth c H locs cells slots Q (F0 m pc ls rest)) : W p l e R s m args below meth c H locs cells slots Q (F0 m pc ls (.int x :: .int i :: .null :: rest)) := by
  intro T hT X
  obtain ⟨t, st, q⟩ := k T hT X
  exact ⟨t, X.sastoreNull hexec (g := F0 m pc ls (.int x :: .int i :: .null :: rest)) rfl (rest := rest) rfl (by rw [hb]; exact hdg) t st, q⟩
theorem vx_invokeN {own C : String} {index maxL : Nat} {y : MethodName} {bytes : ByteArray} {ret : Option FieldType} (hexec : p.tables.exec = Jvm.exec) (hb : c.code = cc) (hown : s.vm.findClass own = some m.cls) (hlink : (Cond.methodLink own index y).before args s = true) (hinst : (Cond.instanceMethod y).before args s = true) (hcode : (Cond.code y bytes maxL ret).before args s = true) (hsel : (Cond.selects C y y).before args s = true)
    (hx : y.cls ≠ "java/lang/invoke/MethodHandle" ∧ y.cls ≠ "java/lang/invoke/VarHandle") {As : List Value} (hlen : (parseMethodDescriptor y.desc).map (fun d => d.parameters.length) = some As.length) (hdg : decode cc pc = .ok (.invokevirtual index, 3))
    (k : vx_NoteN p l e R s m args below meth c H locs cells slots Q (F0 m pc ls rest)) {st0 : List Value} (hst : st0 = As.reverse ++ .null :: rest) : W p l e R s m args below meth c H locs cells slots Q (F0 m pc ls st0) := by
  intro T hT X
  obtain ⟨r0, r, hn, hrm, hstR, hsigR⟩ := va_Decl.of hinst hcode
  obtain ⟨c2, r2, m2, q1, q2, q3, q4, kP, hkP, hkPi⟩ := Cond.selects_spec hsel
  cases hn.symm.trans q3
  have hl9 : As.length = r.sig.parameters.length := by
    rw [hsigR] at hlen
    exact (Option.some.inj hlen).symm
  obtain ⟨vm', X1, st1⟩ := X.invokevirtualNull hexec hown hlink hn hrm hstR hkP hkPi hx (g := F0 m pc ls st0) rfl (argsL := As) (rest := rest) hl9 hst (by rw [hb]; exact hdg)
  obtain ⟨t, st, q⟩ := k (T.setVm vm') hT X1
  exact ⟨t, st1 t st, q⟩
theorem vx_newarrayZ {atype : ArrayType} (hexec : p.tables.exec = Jvm.exec) (hb : c.code = cc) {n : Int32} (h0 : n < 0) (hdg : decode cc pc = .ok (.newarray atype, 2)) (k : ∀ tx : String, tx = toString n → vx_Note p l e R s m args below meth c H locs cells slots Q (F0 m pc ls rest) "java/lang/NegativeArraySizeException" tx) : W p l e R s m args below meth c H locs cells slots Q (F0 m pc ls (.int n :: rest)) := by
  intro T hT X
  obtain ⟨t, st, q⟩ := k _ rfl T hT X
  exact ⟨t, X.newarrayNegative hexec (g := F0 m pc ls (.int n :: rest)) rfl h0 (rest := rest) rfl (by rw [hb]; exact hdg) t st, q⟩
end
end VXM
/-! ===== END ===== -/
end
section
def RX0 : String := "Harbourmint$Bills"
def TX0 : u_T := fun k => match k with
  | 0 => ("Harbourmint$Bills", "drawers", "[I", true)
  | 1 => ("Harbourmint$Bills", "drawnOn", "[I", true)
  | 2 => ("Harbourmint$Bills", "amounts", "[I", true)
  | 3 => ("Harbourmint$Bills", "dueDays", "[I", true)
  | 4 => ("Harbourmint$Bills", "holders", "[I", true)
  | 5 => ("Harbourmint$Bills", "endorsers", "[I", true)
  | 6 => ("Harbourmint$Bills", "endorserCounts", "[I", true)
  | 7 => ("Harbourmint$Bills", "count", "I", false)
  | _ => ("Harbourmint$Bills", "today", "I", false)
def tyX0 : Nat → FieldType := fun k => match k with
  | 0 => .array .int
  | 1 => .array .int
  | 2 => .array .int
  | 3 => .array .int
  | 4 => .array .int
  | 5 => .array .int
  | 6 => .array .int
  | 7 => .int
  | _ => .int
abbrev wsX00 : List Cond := u_ws RX0 TX0 9
theorem nmX0 : ∀ a, a < 9 → ∀ b, b < 9 → a ≠ b → (TX0 a).2.1 ≠ (TX0 b).2.1 := by decide +kernel
theorem tyX0_ok : ∀ k, k < 9 → parseFieldDescriptor (TX0 k).2.2.1 = some (tyX0 k) := by decide +kernel
abbrev cX0_init : ByteArray := prog_2_method_1_code
def yX0_init : MethodName := ⟨RX0, "<init>", "()V"⟩
abbrev cX0_count : ByteArray := prog_2_method_2_code
def yX0_count : MethodName := ⟨RX0, "count", "()I"⟩
abbrev cX0_write : ByteArray := prog_2_method_3_code
def yX0_write : MethodName := ⟨RX0, "write", "(IIII)I"⟩
abbrev cX0_passOn : ByteArray := prog_2_method_4_code
def yX0_passOn : MethodName := ⟨RX0, "passOn", "(II)V"⟩
abbrev cX0_end : ByteArray := prog_2_method_5_code
def yX0_end : MethodName := ⟨RX0, "end", "(I)V"⟩
abbrev cX0_beginDay : ByteArray := prog_2_method_6_code
def yX0_beginDay : MethodName := ⟨RX0, "beginDay", "()V"⟩
abbrev cX0_isDueToday : ByteArray := prog_2_method_7_code
def yX0_isDueToday : MethodName := ⟨RX0, "isDueToday", "(I)Z"⟩
abbrev cX0_holder : ByteArray := prog_2_method_8_code
def yX0_holder : MethodName := ⟨RX0, "holder", "(I)I"⟩
abbrev cX0_amount : ByteArray := prog_2_method_9_code
def yX0_amount : MethodName := ⟨RX0, "amount", "(I)I"⟩
abbrev cX0_endorsements : ByteArray := prog_2_method_10_code
def yX0_endorsements : MethodName := ⟨RX0, "endorsements", "(I)I"⟩
abbrev cX0_liableCount : ByteArray := prog_2_method_11_code
def yX0_liableCount : MethodName := ⟨RX0, "liableCount", "(I)I"⟩
abbrev cX0_liable : ByteArray := prog_2_method_12_code
def yX0_liable : MethodName := ⟨RX0, "liable", "(II)I"⟩
def RX1 : String := "Harbourmint$Claims"
def TX1 : u_T := fun k => match k with
  | _ => ("Harbourmint$Claims", "amounts", "[I", true)
def tyX1 : Nat → FieldType := fun k => match k with
  | _ => .array .int
abbrev wsX10 : List Cond := u_ws RX1 TX1 1
theorem nmX1 : ∀ a, a < 1 → ∀ b, b < 1 → a ≠ b → (TX1 a).2.1 ≠ (TX1 b).2.1 := by decide +kernel
theorem tyX1_ok : ∀ k, k < 1 → parseFieldDescriptor (TX1 k).2.2.1 = some (tyX1 k) := by decide +kernel
abbrev cX1_init : ByteArray := prog_3_method_1_code
def yX1_init : MethodName := ⟨RX1, "<init>", "()V"⟩
abbrev cX1_amount : ByteArray := prog_3_method_2_code
def yX1_amount : MethodName := ⟨RX1, "amount", "(II)I"⟩
abbrev cX1_add : ByteArray := prog_3_method_3_code
def yX1_add : MethodName := ⟨RX1, "add", "(III)V"⟩
abbrev cX1_sumOf : ByteArray := prog_3_method_4_code
def yX1_sumOf : MethodName := ⟨RX1, "sumOf", "(I)J"⟩
abbrev cX1_sumOn : ByteArray := prog_3_method_5_code
def yX1_sumOn : MethodName := ⟨RX1, "sumOn", "(I)J"⟩
abbrev cX1_leastOf : ByteArray := prog_3_method_6_code
def yX1_leastOf : MethodName := ⟨RX1, "leastOf", "(I)I"⟩
abbrev cX1_greatestCreditor : ByteArray := prog_3_method_7_code
def yX1_greatestCreditor : MethodName := ⟨RX1, "greatestCreditor", "(I)I"⟩
abbrev cX1_dropOn : ByteArray := prog_3_method_8_code
def yX1_dropOn : MethodName := ⟨RX1, "dropOn", "(I)J"⟩
abbrev cX1_leaveToCrown : ByteArray := prog_3_method_9_code
def yX1_leaveToCrown : MethodName := ⟨RX1, "leaveToCrown", "(I)V"⟩
def RX2 : String := "Harbourmint$Coins"
def TX2 : u_T := fun k => match k with
  | 0 => ("Harbourmint$Coins", "metals", "[I", true)
  | 1 => ("Harbourmint$Coins", "weights", "[I", true)
  | 2 => ("Harbourmint$Coins", "houses", "[I", true)
  | 3 => ("Harbourmint$Coins", "ownerCounts", "[I", true)
  | 4 => ("Harbourmint$Coins", "hoarded", "[Z", true)
  | 5 => ("Harbourmint$Coins", "lastTakers", "[I", true)
  | _ => ("Harbourmint$Coins", "count", "I", false)
def tyX2 : Nat → FieldType := fun k => match k with
  | 0 => .array .int
  | 1 => .array .int
  | 2 => .array .int
  | 3 => .array .int
  | 4 => .array .boolean
  | 5 => .array .int
  | _ => .int
abbrev wsX20 : List Cond := u_ws RX2 TX2 7
theorem nmX2 : ∀ a, a < 7 → ∀ b, b < 7 → a ≠ b → (TX2 a).2.1 ≠ (TX2 b).2.1 := by decide +kernel
theorem tyX2_ok : ∀ k, k < 7 → parseFieldDescriptor (TX2 k).2.2.1 = some (tyX2 k) := by decide +kernel
abbrev cX2_init : ByteArray := prog_4_method_1_code
def yX2_init : MethodName := ⟨RX2, "<init>", "()V"⟩
abbrev cX2_count : ByteArray := prog_4_method_2_code
def yX2_count : MethodName := ⟨RX2, "count", "()I"⟩
abbrev cX2_numbersLeft : ByteArray := prog_4_method_3_code
def yX2_numbersLeft : MethodName := ⟨RX2, "numbersLeft", "()I"⟩
abbrev cX2_add : ByteArray := prog_4_method_4_code
def yX2_add : MethodName := ⟨RX2, "add", "(III)V"⟩
abbrev cX2_give : ByteArray := prog_4_method_5_code
def yX2_give : MethodName := ⟨RX2, "give", "(II)V"⟩
abbrev cX2_giveLightest : ByteArray := prog_4_method_6_code
def yX2_giveLightest : MethodName := ⟨RX2, "giveLightest", "(IIII)I"⟩
abbrev cX2_giveAll : ByteArray := prog_4_method_7_code
def yX2_giveAll : MethodName := ⟨RX2, "giveAll", "(II)V"⟩
abbrev cX2_melt : ByteArray := prog_4_method_8_code
def yX2_melt : MethodName := ⟨RX2, "melt", "(II)I"⟩
abbrev cX2_lighten : ByteArray := prog_4_method_9_code
def yX2_lighten : MethodName := ⟨RX2, "lighten", "(II)V"⟩
abbrev cX2_setHoarded : ByteArray := prog_4_method_10_code
def yX2_setHoarded : MethodName := ⟨RX2, "setHoarded", "(IZ)V"⟩
abbrev cX2_metal : ByteArray := prog_4_method_11_code
def yX2_metal : MethodName := ⟨RX2, "metal", "(I)I"⟩
abbrev cX2_weight : ByteArray := prog_4_method_12_code
def yX2_weight : MethodName := ⟨RX2, "weight", "(I)I"⟩
abbrev cX2_owner : ByteArray := prog_4_method_13_code
def yX2_owner : MethodName := ⟨RX2, "owner", "(I)I"⟩
abbrev cX2_ownerCount : ByteArray := prog_4_method_14_code
def yX2_ownerCount : MethodName := ⟨RX2, "ownerCount", "(I)I"⟩
abbrev cX2_isHoarded : ByteArray := prog_4_method_15_code
def yX2_isHoarded : MethodName := ⟨RX2, "isHoarded", "(I)Z"⟩
abbrev cX2_owned : ByteArray := prog_4_method_16_code
def yX2_owned : MethodName := ⟨RX2, "owned", "(II)I"⟩
abbrev cX2_loose : ByteArray := prog_4_method_17_code
def yX2_loose : MethodName := ⟨RX2, "loose", "(II)I"⟩
abbrev cX2_unmelted : ByteArray := prog_4_method_18_code
def yX2_unmelted : MethodName := ⟨RX2, "unmelted", "()I"⟩
abbrev cX2_lighter : ByteArray := prog_4_method_19_code
def yX2_lighter : MethodName := ⟨RX2, "lighter", "(II)I"⟩
abbrev cX2_weightOfAll : ByteArray := prog_4_method_20_code
def yX2_weightOfAll : MethodName := ⟨RX2, "weightOfAll", "(I)I"⟩
abbrev cX2_areWhereGiven : ByteArray := prog_4_method_21_code
def yX2_areWhereGiven : MethodName := ⟨RX2, "areWhereGiven", "()Z"⟩
abbrev cX2_heaviest : ByteArray := prog_4_method_22_code
def yX2_heaviest : MethodName := ⟨RX2, "heaviest", "(I)I"⟩
abbrev cX2_isAhead : ByteArray := prog_4_method_23_code
def yX2_isAhead : MethodName := ⟨RX2, "isAhead", "(II)Z"⟩
abbrev cX2_lightest : ByteArray := prog_4_method_24_code
def yX2_lightest : MethodName := ⟨RX2, "lightest", "(II)I"⟩
abbrev cX2_isLoose : ByteArray := prog_4_method_25_code
def yX2_isLoose : MethodName := ⟨RX2, "isLoose", "(III)Z"⟩
def RX3 : String := "Harbourmint$Houses"
def TX3 : u_T := fun k => match k with
  | 0 => ("Harbourmint$Houses", "kinds", "[C", true)
  | 1 => ("Harbourmint$Houses", "open", "[Z", true)
  | _ => ("Harbourmint$Houses", "count", "I", false)
def tyX3 : Nat → FieldType := fun k => match k with
  | 0 => .array .char
  | 1 => .array .boolean
  | _ => .int
abbrev wsX30 : List Cond := u_ws RX3 TX3 3
theorem nmX3 : ∀ a, a < 3 → ∀ b, b < 3 → a ≠ b → (TX3 a).2.1 ≠ (TX3 b).2.1 := by decide +kernel
theorem tyX3_ok : ∀ k, k < 3 → parseFieldDescriptor (TX3 k).2.2.1 = some (tyX3 k) := by decide +kernel
abbrev cX3_init : ByteArray := prog_5_method_1_code
def yX3_init : MethodName := ⟨RX3, "<init>", "()V"⟩
abbrev cX3_count : ByteArray := prog_5_method_2_code
def yX3_count : MethodName := ⟨RX3, "count", "()I"⟩
abbrev cX3_open : ByteArray := prog_5_method_3_code
def yX3_open : MethodName := ⟨RX3, "open", "(C)I"⟩
abbrev cX3_close : ByteArray := prog_5_method_4_code
def yX3_close : MethodName := ⟨RX3, "close", "(I)V"⟩
abbrev cX3_kind : ByteArray := prog_5_method_5_code
def yX3_kind : MethodName := ⟨RX3, "kind", "(I)C"⟩
abbrev cX3_isOpen : ByteArray := prog_5_method_6_code
def yX3_isOpen : MethodName := ⟨RX3, "isOpen", "(I)Z"⟩
def RX4 : String := "Harbourmint$Metals"
def TX4 : u_T := fun k => match k with
  | 0 => ("Harbourmint$Metals", "faces", "[I", true)
  | 1 => ("Harbourmint$Metals", "fullWeights", "[I", true)
  | 2 => ("Harbourmint$Metals", "dug", "[I", true)
  | _ => ("Harbourmint$Metals", "ores", "[I", true)
def tyX4 : Nat → FieldType := fun k => match k with
  | 0 => .array .int
  | 1 => .array .int
  | 2 => .array .int
  | _ => .array .int
abbrev wsX40 : List Cond := u_ws RX4 TX4 4
theorem nmX4 : ∀ a, a < 4 → ∀ b, b < 4 → a ≠ b → (TX4 a).2.1 ≠ (TX4 b).2.1 := by decide +kernel
theorem tyX4_ok : ∀ k, k < 4 → parseFieldDescriptor (TX4 k).2.2.1 = some (tyX4 k) := by decide +kernel
abbrev cX4_init : ByteArray := prog_6_method_1_code
def yX4_init : MethodName := ⟨RX4, "<init>", "()V"⟩
abbrev cX4_face : ByteArray := prog_6_method_2_code
def yX4_face : MethodName := ⟨RX4, "face", "(I)I"⟩
abbrev cX4_fullWeight : ByteArray := prog_6_method_3_code
def yX4_fullWeight : MethodName := ⟨RX4, "fullWeight", "(I)I"⟩
abbrev cX4_tell : ByteArray := prog_6_method_4_code
def yX4_tell : MethodName := ⟨RX4, "tell", "(III)V"⟩
abbrev cX4_oreOf : ByteArray := prog_6_method_5_code
def yX4_oreOf : MethodName := ⟨RX4, "oreOf", "(II)I"⟩
abbrev cX4_addOre : ByteArray := prog_6_method_6_code
def yX4_addOre : MethodName := ⟨RX4, "addOre", "(III)V"⟩
abbrev cX4_unearth : ByteArray := prog_6_method_7_code
def yX4_unearth : MethodName := ⟨RX4, "unearth", "(III)V"⟩
abbrev cX4_moveOre : ByteArray := prog_6_method_8_code
def yX4_moveOre : MethodName := ⟨RX4, "moveOre", "(III)V"⟩
abbrev cX4_dug : ByteArray := prog_6_method_9_code
def yX4_dug : MethodName := ⟨RX4, "dug", "(I)I"⟩
abbrev cX4_oreOfAll : ByteArray := prog_6_method_10_code
def yX4_oreOfAll : MethodName := ⟨RX4, "oreOfAll", "(I)I"⟩
def RX5 : String := "Harbourmint$Voyages"
def TX5 : u_T := fun k => match k with
  | 0 => ("Harbourmint$Voyages", "values", "[I", true)
  | 1 => ("Harbourmint$Voyages", "borne", "[I", true)
  | _ => ("Harbourmint$Voyages", "remainders", "[I", true)
def tyX5 : Nat → FieldType := fun k => match k with
  | 0 => .array .int
  | 1 => .array .int
  | _ => .array .int
abbrev wsX50 : List Cond := u_ws RX5 TX5 3
theorem nmX5 : ∀ a, a < 3 → ∀ b, b < 3 → a ≠ b → (TX5 a).2.1 ≠ (TX5 b).2.1 := by decide +kernel
theorem tyX5_ok : ∀ k, k < 3 → parseFieldDescriptor (TX5 k).2.2.1 = some (tyX5 k) := by decide +kernel
abbrev cX5_init : ByteArray := prog_7_method_1_code
def yX5_init : MethodName := ⟨RX5, "<init>", "()V"⟩
abbrev cX5_value : ByteArray := prog_7_method_2_code
def yX5_value : MethodName := ⟨RX5, "value", "(II)I"⟩
abbrev cX5_addValue : ByteArray := prog_7_method_3_code
def yX5_addValue : MethodName := ⟨RX5, "addValue", "(III)V"⟩
abbrev cX5_borne : ByteArray := prog_7_method_4_code
def yX5_borne : MethodName := ⟨RX5, "borne", "(I)I"⟩
abbrev cX5_part : ByteArray := prog_7_method_5_code
def yX5_part : MethodName := ⟨RX5, "part", "(II)V"⟩
abbrev cX5_valueOfAll : ByteArray := prog_7_method_6_code
def yX5_valueOfAll : MethodName := ⟨RX5, "valueOfAll", "(I)I"⟩
abbrev cX5_greatestRemainder : ByteArray := prog_7_method_7_code
def yX5_greatestRemainder : MethodName := ⟨RX5, "greatestRemainder", "()I"⟩
def RX6 : String := "Harbourmint"
def TX6 : u_T := fun k => match k with
  | 0 => ("Harbourmint", "houses", "LHarbourmint$Houses;", true)
  | 1 => ("Harbourmint", "metals", "LHarbourmint$Metals;", true)
  | 2 => ("Harbourmint", "purse", "LHarbourmint$Coins;", true)
  | 3 => ("Harbourmint", "claims", "LHarbourmint$Claims;", true)
  | 4 => ("Harbourmint", "bills", "LHarbourmint$Bills;", true)
  | 5 => ("Harbourmint", "voyages", "LHarbourmint$Voyages;", true)
  | _ => ("Harbourmint", "lostAmount", "J", false)
def tyX6 : Nat → FieldType := fun k => match k with
  | 0 => .object "Harbourmint$Houses"
  | 1 => .object "Harbourmint$Metals"
  | 2 => .object "Harbourmint$Coins"
  | 3 => .object "Harbourmint$Claims"
  | 4 => .object "Harbourmint$Bills"
  | 5 => .object "Harbourmint$Voyages"
  | _ => .long
abbrev wsX60 : List Cond := u_ws RX6 TX6 7
theorem nmX6 : ∀ a, a < 7 → ∀ b, b < 7 → a ≠ b → (TX6 a).2.1 ≠ (TX6 b).2.1 := by decide +kernel
theorem tyX6_ok : ∀ k, k < 7 → parseFieldDescriptor (TX6 k).2.2.1 = some (tyX6 k) := by decide +kernel
abbrev cX6_init : ByteArray := prog_1_method_1_code
def yX6_init : MethodName := ⟨RX6, "<init>", "()V"⟩
abbrev cX6_addHouse : ByteArray := prog_1_method_2_code
def yX6_addHouse : MethodName := ⟨RX6, "addHouse", "(C)I"⟩
abbrev cX6_kindOf : ByteArray := prog_1_method_3_code
def yX6_kindOf : MethodName := ⟨RX6, "kindOf", "(I)C"⟩
abbrev cX6_dig : ByteArray := prog_1_method_4_code
def yX6_dig : MethodName := ⟨RX6, "dig", "(ICI)I"⟩
abbrev cX6_decree : ByteArray := prog_1_method_5_code
def yX6_decree : MethodName := ⟨RX6, "decree", "(CII)I"⟩
abbrev cX6_mint : ByteArray := prog_1_method_6_code
def yX6_mint : MethodName := ⟨RX6, "mint", "(ICI)I"⟩
abbrev cX6_clip : ByteArray := prog_1_method_7_code
def yX6_clip : MethodName := ⟨RX6, "clip", "(II)I"⟩
abbrev cX6_hoard : ByteArray := prog_1_method_8_code
def yX6_hoard : MethodName := ⟨RX6, "hoard", "(IZ)Z"⟩
abbrev cX6_recoin : ByteArray := prog_1_method_9_code
def yX6_recoin : MethodName := ⟨RX6, "recoin", "(IC)I"⟩
abbrev cX6_pay : ByteArray := prog_1_method_10_code
def yX6_pay : MethodName := ⟨RX6, "pay", "(IICI)I"⟩
abbrev cX6_deposit : ByteArray := prog_1_method_11_code
def yX6_deposit : MethodName := ⟨RX6, "deposit", "(IICI)I"⟩
abbrev cX6_withdraw : ByteArray := prog_1_method_12_code
def yX6_withdraw : MethodName := ⟨RX6, "withdraw", "(IICI)C"⟩
abbrev cX6_lend : ByteArray := prog_1_method_13_code
def yX6_lend : MethodName := ⟨RX6, "lend", "(III)I"⟩
abbrev cX6_hand : ByteArray := prog_1_method_14_code
def yX6_hand : MethodName := ⟨RX6, "hand", "(IIII)I"⟩
abbrev cX6_forgive : ByteArray := prog_1_method_15_code
def yX6_forgive : MethodName := ⟨RX6, "forgive", "(III)I"⟩
abbrev cX6_claim : ByteArray := prog_1_method_16_code
def yX6_claim : MethodName := ⟨RX6, "claim", "(II)I"⟩
abbrev cX6_draw : ByteArray := prog_1_method_17_code
def yX6_draw : MethodName := ⟨RX6, "draw", "(IIII)I"⟩
abbrev cX6_endorse : ByteArray := prog_1_method_18_code
def yX6_endorse : MethodName := ⟨RX6, "endorse", "(II)I"⟩
abbrev cX6_holderOf : ByteArray := prog_1_method_19_code
def yX6_holderOf : MethodName := ⟨RX6, "holderOf", "(I)I"⟩
abbrev cX6_nextDay : ByteArray := prog_1_method_20_code
def yX6_nextDay : MethodName := ⟨RX6, "nextDay", "()I"⟩
abbrev cX6_addShare : ByteArray := prog_1_method_21_code
def yX6_addShare : MethodName := ⟨RX6, "addShare", "(III)I"⟩
abbrev cX6_throwOver : ByteArray := prog_1_method_22_code
def yX6_throwOver : MethodName := ⟨RX6, "throwOver", "(III)I"⟩
abbrev cX6_coins : ByteArray := prog_1_method_23_code
def yX6_coins : MethodName := ⟨RX6, "coins", "(IC)I"⟩
abbrev cX6_weightOf : ByteArray := prog_1_method_24_code
def yX6_weightOf : MethodName := ⟨RX6, "weightOf", "(I)I"⟩
abbrev cX6_ownerOf : ByteArray := prog_1_method_25_code
def yX6_ownerOf : MethodName := ⟨RX6, "ownerOf", "(I)I"⟩
abbrev cX6_owners : ByteArray := prog_1_method_26_code
def yX6_owners : MethodName := ⟨RX6, "owners", "(I)I"⟩
abbrev cX6_ore : ByteArray := prog_1_method_27_code
def yX6_ore : MethodName := ⟨RX6, "ore", "(IC)I"⟩
abbrev cX6_wealth : ByteArray := prog_1_method_28_code
def yX6_wealth : MethodName := ⟨RX6, "wealth", "(I)J"⟩
abbrev cX6_lost : ByteArray := prog_1_method_29_code
def yX6_lost : MethodName := ⟨RX6, "lost", "()J"⟩
abbrev cX6_lightShare : ByteArray := prog_1_method_30_code
def yX6_lightShare : MethodName := ⟨RX6, "lightShare", "()F"⟩
abbrev cX6_meanWeight : ByteArray := prog_1_method_31_code
def yX6_meanWeight : MethodName := ⟨RX6, "meanWeight", "()D"⟩
abbrev cX6_isSound : ByteArray := prog_1_method_32_code
def yX6_isSound : MethodName := ⟨RX6, "isSound", "()Z"⟩
abbrev cX6_needHouse : ByteArray := prog_1_method_33_code
def yX6_needHouse : MethodName := ⟨RX6, "needHouse", "(I)V"⟩
abbrev cX6_needCoin : ByteArray := prog_1_method_34_code
def yX6_needCoin : MethodName := ⟨RX6, "needCoin", "(I)V"⟩
abbrev cX6_needBill : ByteArray := prog_1_method_35_code
def yX6_needBill : MethodName := ⟨RX6, "needBill", "(I)V"⟩
abbrev cX6_needVoyage : ByteArray := prog_1_method_36_code
def yX6_needVoyage : MethodName := ⟨RX6, "needVoyage", "(I)V"⟩
abbrev cX6_metalNumber : ByteArray := prog_1_method_37_code
def yX6_metalNumber : MethodName := ⟨RX6, "metalNumber", "(C)I"⟩
abbrev cX6_needRange : ByteArray := prog_1_method_38_code
def yX6_needRange : MethodName := ⟨RX6, "needRange", "(II)V"⟩
abbrev cX6_needDifferent : ByteArray := prog_1_method_39_code
def yX6_needDifferent : MethodName := ⟨RX6, "needDifferent", "(II)V"⟩
abbrev cX6_needCustomer : ByteArray := prog_1_method_40_code
def yX6_needCustomer : MethodName := ⟨RX6, "needCustomer", "(II)V"⟩
abbrev cX6_needOpen : ByteArray := prog_1_method_41_code
def yX6_needOpen : MethodName := ⟨RX6, "needOpen", "(I)V"⟩
abbrev cX6_needOpenSharers : ByteArray := prog_1_method_42_code
def yX6_needOpenSharers : MethodName := ⟨RX6, "needOpenSharers", "(I)V"⟩
abbrev cX6_needWhole : ByteArray := prog_1_method_43_code
def yX6_needWhole : MethodName := ⟨RX6, "needWhole", "(I)V"⟩
abbrev cX6_needLoose : ByteArray := prog_1_method_44_code
def yX6_needLoose : MethodName := ⟨RX6, "needLoose", "(III)V"⟩
abbrev cX6_needClaim : ByteArray := prog_1_method_45_code
def yX6_needClaim : MethodName := ⟨RX6, "needClaim", "(III)V"⟩
abbrev cX6_needCoins : ByteArray := prog_1_method_46_code
def yX6_needCoins : MethodName := ⟨RX6, "needCoins", "()I"⟩
abbrev cX6_strike : ByteArray := prog_1_method_47_code
def yX6_strike : MethodName := ⟨RX6, "strike", "(III)I"⟩
abbrev cX6_fail : ByteArray := prog_1_method_48_code
def yX6_fail : MethodName := ⟨RX6, "fail", "(I)V"⟩
abbrev cX6_partCoins : ByteArray := prog_1_method_49_code
def yX6_partCoins : MethodName := ⟨RX6, "partCoins", "(I)V"⟩
abbrev cX6_settle : ByteArray := prog_1_method_50_code
def yX6_settle : MethodName := ⟨RX6, "settle", "(I)Z"⟩
abbrev cX6_firstOpenLiable : ByteArray := prog_1_method_51_code
def yX6_firstOpenLiable : MethodName := ⟨RX6, "firstOpenLiable", "(I)I"⟩
abbrev cX6_isMetalWhole : ByteArray := prog_1_method_52_code
def yX6_isMetalWhole : MethodName := ⟨RX6, "isMetalWhole", "(I)Z"⟩
abbrev cX6_areClaimsSound : ByteArray := prog_1_method_53_code
def yX6_areClaimsSound : MethodName := ⟨RX6, "areClaimsSound", "()Z"⟩
def RX7 : String := "HarbourmintModel$Bill"
def TX7 : u_T := fun k => match k with
  | 0 => ("HarbourmintModel$Bill", "drawer", "I", true)
  | 1 => ("HarbourmintModel$Bill", "on", "I", true)
  | 2 => ("HarbourmintModel$Bill", "amount", "I", true)
  | 3 => ("HarbourmintModel$Bill", "due", "I", true)
  | 4 => ("HarbourmintModel$Bill", "endorsers", "Ljava/util/List;", true)
  | 5 => ("HarbourmintModel$Bill", "holder", "I", false)
  | _ => ("HarbourmintModel$Bill", "isOver", "Z", false)
def tyX7 : Nat → FieldType := fun k => match k with
  | 0 => .int
  | 1 => .int
  | 2 => .int
  | 3 => .int
  | 4 => .object "java/util/List"
  | 5 => .int
  | _ => .boolean
abbrev wsX70 : List Cond := u_ws RX7 TX7 7
theorem nmX7 : ∀ a, a < 7 → ∀ b, b < 7 → a ≠ b → (TX7 a).2.1 ≠ (TX7 b).2.1 := by decide +kernel
theorem tyX7_ok : ∀ k, k < 7 → parseFieldDescriptor (TX7 k).2.2.1 = some (tyX7 k) := by decide +kernel
abbrev cX7_init : ByteArray := prog_10_method_1_code
def yX7_init : MethodName := ⟨RX7, "<init>", "(IIII)V"⟩
def RX8 : String := "HarbourmintModel$Coin"
def TX8 : u_T := fun k => match k with
  | 0 => ("HarbourmintModel$Coin", "number", "I", true)
  | 1 => ("HarbourmintModel$Coin", "metal", "I", true)
  | 2 => ("HarbourmintModel$Coin", "weight", "I", false)
  | 3 => ("HarbourmintModel$Coin", "owner", "I", false)
  | 4 => ("HarbourmintModel$Coin", "owners", "I", false)
  | _ => ("HarbourmintModel$Coin", "isHoarded", "Z", false)
def tyX8 : Nat → FieldType := fun k => match k with
  | 0 => .int
  | 1 => .int
  | 2 => .int
  | 3 => .int
  | 4 => .int
  | _ => .boolean
abbrev wsX80 : List Cond := u_ws RX8 TX8 6
theorem nmX8 : ∀ a, a < 6 → ∀ b, b < 6 → a ≠ b → (TX8 a).2.1 ≠ (TX8 b).2.1 := by decide +kernel
theorem tyX8_ok : ∀ k, k < 6 → parseFieldDescriptor (TX8 k).2.2.1 = some (tyX8 k) := by decide +kernel
abbrev cX8_init : ByteArray := prog_11_method_1_code
def yX8_init : MethodName := ⟨RX8, "<init>", "(IIII)V"⟩
abbrev cX8_goes : ByteArray := prog_11_method_2_code
def yX8_goes : MethodName := ⟨RX8, "goes", "(I)V"⟩
def RX9 : String := "HarbourmintModel"
def TX9 : u_T := fun k => match k with
  | 0 => ("HarbourmintModel", "thrown", "I", false)
  | 1 => ("HarbourmintModel", "kinds", "Ljava/util/List;", true)
  | 2 => ("HarbourmintModel", "faces", "[I", true)
  | 3 => ("HarbourmintModel", "full", "[I", true)
  | 4 => ("HarbourmintModel", "ores", "[[I", true)
  | 5 => ("HarbourmintModel", "coins", "Ljava/util/List;", true)
  | 6 => ("HarbourmintModel", "claims", "[[I", true)
  | 7 => ("HarbourmintModel", "lost", "J", false)
  | 8 => ("HarbourmintModel", "bills", "Ljava/util/List;", true)
  | 9 => ("HarbourmintModel", "day", "I", false)
  | _ => ("HarbourmintModel", "shares", "[[I", true)
def tyX9 : Nat → FieldType := fun k => match k with
  | 0 => .int
  | 1 => .object "java/util/List"
  | 2 => .array .int
  | 3 => .array .int
  | 4 => .array (.array .int)
  | 5 => .object "java/util/List"
  | 6 => .array (.array .int)
  | 7 => .long
  | 8 => .object "java/util/List"
  | 9 => .int
  | _ => .array (.array .int)
abbrev wsX90 : List Cond := u_ws RX9 TX9 11
theorem nmX9 : ∀ a, a < 11 → ∀ b, b < 11 → a ≠ b → (TX9 a).2.1 ≠ (TX9 b).2.1 := by decide +kernel
theorem tyX9_ok : ∀ k, k < 11 → parseFieldDescriptor (TX9 k).2.2.1 = some (tyX9 k) := by decide +kernel
abbrev cX9_thrown : ByteArray := prog_9_method_1_code
def yX9_thrown : MethodName := ⟨RX9, "thrown", "()I"⟩
abbrev cX9_isWrong : ByteArray := prog_9_method_2_code
def yX9_isWrong : MethodName := ⟨RX9, "isWrong", "(I)Z"⟩
abbrev cX9_isBetween : ByteArray := prog_9_method_3_code
def yX9_isBetween : MethodName := ⟨RX9, "isBetween", "(III)Z"⟩
abbrev cX9_init : ByteArray := prog_9_method_4_code
def yX9_init : MethodName := ⟨RX9, "<init>", "()V"⟩
abbrev cX9_isHouse : ByteArray := prog_9_method_5_code
def yX9_isHouse : MethodName := ⟨RX9, "isHouse", "(I)Z"⟩
abbrev cX9_hasFailed : ByteArray := prog_9_method_6_code
def yX9_hasFailed : MethodName := ⟨RX9, "hasFailed", "(I)Z"⟩
abbrev cX9_isMetal : ByteArray := prog_9_method_7_code
def yX9_isMetal : MethodName := ⟨RX9, "isMetal", "(C)Z"⟩
abbrev cX9_addHouse : ByteArray := prog_9_method_8_code
def yX9_addHouse : MethodName := ⟨RX9, "addHouse", "(C)I"⟩
abbrev cX9_kindOf : ByteArray := prog_9_method_9_code
def yX9_kindOf : MethodName := ⟨RX9, "kindOf", "(I)C"⟩
abbrev cX9_dig : ByteArray := prog_9_method_10_code
def yX9_dig : MethodName := ⟨RX9, "dig", "(ICI)I"⟩
abbrev cX9_decree : ByteArray := prog_9_method_11_code
def yX9_decree : MethodName := ⟨RX9, "decree", "(CII)I"⟩
abbrev cX9_mints : ByteArray := prog_9_method_12_code
def yX9_mints : MethodName := ⟨RX9, "mints", "(III)V"⟩
abbrev cX9_mint : ByteArray := prog_9_method_13_code
def yX9_mint : MethodName := ⟨RX9, "mint", "(ICI)I"⟩
abbrev cX9_isCoin : ByteArray := prog_9_method_14_code
def yX9_isCoin : MethodName := ⟨RX9, "isCoin", "(I)Z"⟩
abbrev cX9_isMelted : ByteArray := prog_9_method_15_code
def yX9_isMelted : MethodName := ⟨RX9, "isMelted", "(I)Z"⟩
abbrev cX9_clip : ByteArray := prog_9_method_16_code
def yX9_clip : MethodName := ⟨RX9, "clip", "(II)I"⟩
abbrev cX9_hoard : ByteArray := prog_9_method_17_code
def yX9_hoard : MethodName := ⟨RX9, "hoard", "(IZ)Z"⟩
abbrev cX9_recoin : ByteArray := prog_9_method_18_code
def yX9_recoin : MethodName := ⟨RX9, "recoin", "(IC)I"⟩
abbrev cX9_lightest : ByteArray := prog_9_method_19_code
def yX9_lightest : MethodName := ⟨RX9, "lightest", "(III)Ljava/util/List;"⟩
abbrev cX9_gives : ByteArray := prog_9_method_20_code
def yX9_gives : MethodName := ⟨RX9, "gives", "(Ljava/util/List;I)I"⟩
abbrev cX9_isNoGiving : ByteArray := prog_9_method_21_code
def yX9_isNoGiving : MethodName := ⟨RX9, "isNoGiving", "(IICIZ)Z"⟩
abbrev cX9_wasBank : ByteArray := prog_9_method_22_code
def yX9_wasBank : MethodName := ⟨RX9, "wasBank", "(I)Z"⟩
abbrev cX9_pay : ByteArray := prog_9_method_23_code
def yX9_pay : MethodName := ⟨RX9, "pay", "(IICI)I"⟩
abbrev cX9_deposit : ByteArray := prog_9_method_24_code
def yX9_deposit : MethodName := ⟨RX9, "deposit", "(IICI)I"⟩
abbrev cX9_withdraw : ByteArray := prog_9_method_25_code
def yX9_withdraw : MethodName := ⟨RX9, "withdraw", "(IICI)C"⟩
abbrev cX9_heaviest : ByteArray := prog_9_method_26_code
def yX9_heaviest : MethodName := ⟨RX9, "heaviest", "(I)LHarbourmintModel$Coin;"⟩
abbrev cX9_greatest : ByteArray := prog_9_method_27_code
def yX9_greatest : MethodName := ⟨RX9, "greatest", "(I)I"⟩
abbrev cX9_fails : ByteArray := prog_9_method_28_code
def yX9_fails : MethodName := ⟨RX9, "fails", "(I)V"⟩
abbrev cX9_lend : ByteArray := prog_9_method_29_code
def yX9_lend : MethodName := ⟨RX9, "lend", "(III)I"⟩
abbrev cX9_hand : ByteArray := prog_9_method_30_code
def yX9_hand : MethodName := ⟨RX9, "hand", "(IIII)I"⟩
abbrev cX9_forgive : ByteArray := prog_9_method_31_code
def yX9_forgive : MethodName := ⟨RX9, "forgive", "(III)I"⟩
abbrev cX9_claim : ByteArray := prog_9_method_32_code
def yX9_claim : MethodName := ⟨RX9, "claim", "(II)I"⟩
abbrev cX9_draw : ByteArray := prog_9_method_33_code
def yX9_draw : MethodName := ⟨RX9, "draw", "(IIII)I"⟩
abbrev cX9_isBill : ByteArray := prog_9_method_34_code
def yX9_isBill : MethodName := ⟨RX9, "isBill", "(I)Z"⟩
abbrev cX9_endorse : ByteArray := prog_9_method_35_code
def yX9_endorse : MethodName := ⟨RX9, "endorse", "(II)I"⟩
abbrev cX9_holderOf : ByteArray := prog_9_method_36_code
def yX9_holderOf : MethodName := ⟨RX9, "holderOf", "(I)I"⟩
abbrev cX9_nextDay : ByteArray := prog_9_method_37_code
def yX9_nextDay : MethodName := ⟨RX9, "nextDay", "()I"⟩
abbrev cX9_addShare : ByteArray := prog_9_method_38_code
def yX9_addShare : MethodName := ⟨RX9, "addShare", "(III)I"⟩
abbrev cX9_throwOver : ByteArray := prog_9_method_39_code
def yX9_throwOver : MethodName := ⟨RX9, "throwOver", "(III)I"⟩
abbrev cX9_coins : ByteArray := prog_9_method_40_code
def yX9_coins : MethodName := ⟨RX9, "coins", "(IC)I"⟩
abbrev cX9_weightOf : ByteArray := prog_9_method_41_code
def yX9_weightOf : MethodName := ⟨RX9, "weightOf", "(I)I"⟩
abbrev cX9_ownerOf : ByteArray := prog_9_method_42_code
def yX9_ownerOf : MethodName := ⟨RX9, "ownerOf", "(I)I"⟩
abbrev cX9_owners : ByteArray := prog_9_method_43_code
def yX9_owners : MethodName := ⟨RX9, "owners", "(I)I"⟩
abbrev cX9_ore : ByteArray := prog_9_method_44_code
def yX9_ore : MethodName := ⟨RX9, "ore", "(IC)I"⟩
abbrev cX9_wealth : ByteArray := prog_9_method_45_code
def yX9_wealth : MethodName := ⟨RX9, "wealth", "(I)J"⟩
abbrev cX9_lost : ByteArray := prog_9_method_46_code
def yX9_lost : MethodName := ⟨RX9, "lost", "()J"⟩
abbrev cX9_lightShare : ByteArray := prog_9_method_47_code
def yX9_lightShare : MethodName := ⟨RX9, "lightShare", "()F"⟩
abbrev cX9_meanWeight : ByteArray := prog_9_method_48_code
def yX9_meanWeight : MethodName := ⟨RX9, "meanWeight", "()D"⟩
abbrev cX9_isSound : ByteArray := prog_9_method_49_code
def yX9_isSound : MethodName := ⟨RX9, "isSound", "()Z"⟩
def RJx145de : String := "java/io/Serializable"
def TJx145de : u_T := fun k => match k with
  | _ => ("", "", "", false)
def tyJx145de : Nat → FieldType := fun k => match k with
  | _ => .int
abbrev wsJx145de0 : List Cond := u_ws RJx145de TJx145de 0
theorem nmJx145de : ∀ a, a < 0 → ∀ b, b < 0 → a ≠ b → (TJx145de a).2.1 ≠ (TJx145de b).2.1 := by decide +kernel
theorem tyJx145de_ok : ∀ k, k < 0 → parseFieldDescriptor (TJx145de k).2.2.1 = some (tyJx145de k) := by decide +kernel
def RJ5 : String := "java/lang/AbstractStringBuilder"
def TJ5 : u_T := fun k => match k with
  | _ => ("", "", "", false)
def tyJ5 : Nat → FieldType := fun k => match k with
  | _ => .int
abbrev wsJ50 : List Cond := u_ws RJ5 TJ5 0
theorem nmJ5 : ∀ a, a < 0 → ∀ b, b < 0 → a ≠ b → (TJ5 a).2.1 ≠ (TJ5 b).2.1 := by decide +kernel
theorem tyJ5_ok : ∀ k, k < 0 → parseFieldDescriptor (TJ5 k).2.2.1 = some (tyJ5 k) := by decide +kernel
abbrev cJ5_init_d00df : ByteArray := prog_13_method_2_code
def yJ5_init_d00df : MethodName := ⟨RJ5, "<init>", "(I)V"⟩
abbrev cJ5_length_8abf5 : ByteArray := prog_13_method_6_code
def yJ5_length_8abf5 : MethodName := ⟨RJ5, "length", "()I"⟩
abbrev cJ5_ensureCapacityInternal_d00df : ByteArray := prog_13_method_9_code
def yJ5_ensureCapacityInternal_d00df : MethodName := ⟨RJ5, "ensureCapacityInternal", "(I)V"⟩
abbrev cJ5_newCapacity_0f7a4 : ByteArray := prog_13_method_10_code
def yJ5_newCapacity_0f7a4 : MethodName := ⟨RJ5, "newCapacity", "(I)I"⟩
abbrev cJ5_inflate_da8c8 : ByteArray := prog_13_method_11_code
def yJ5_inflate_da8c8 : MethodName := ⟨RJ5, "inflate", "()V"⟩
abbrev cJ5_append_cf1ce : ByteArray := prog_13_method_22_code
def yJ5_append_cf1ce : MethodName := ⟨RJ5, "append", "(Ljava/lang/String;)Ljava/lang/AbstractStringBuilder;"⟩
abbrev cJ5_appendNull_278bc : ByteArray := prog_13_method_26_code
def yJ5_appendNull_278bc : MethodName := ⟨RJ5, "appendNull", "()Ljava/lang/AbstractStringBuilder;"⟩
abbrev cJ5_append_c97b9 : ByteArray := prog_13_method_32_code
def yJ5_append_c97b9 : MethodName := ⟨RJ5, "append", "(I)Ljava/lang/AbstractStringBuilder;"⟩
abbrev cJ5_getValue_6d5f1 : ByteArray := prog_13_method_64_code
def yJ5_getValue_6d5f1 : MethodName := ⟨RJ5, "getValue", "()[B"⟩
abbrev cJ5_isLatin1_aae02 : ByteArray := prog_13_method_68_code
def yJ5_isLatin1_aae02 : MethodName := ⟨RJ5, "isLatin1", "()Z"⟩
abbrev cJ5_inflateIfNeededFor_a7421 : ByteArray := prog_13_method_71_code
def yJ5_inflateIfNeededFor_a7421 : MethodName := ⟨RJ5, "inflateIfNeededFor", "(Ljava/lang/String;)V"⟩
abbrev cJ5_putStringAt_47b60 : ByteArray := prog_13_method_73_code
def yJ5_putStringAt_47b60 : MethodName := ⟨RJ5, "putStringAt", "(ILjava/lang/String;)V"⟩
def RJx2cfe8 : String := "java/lang/Appendable"
def TJx2cfe8 : u_T := fun k => match k with
  | _ => ("", "", "", false)
def tyJx2cfe8 : Nat → FieldType := fun k => match k with
  | _ => .int
abbrev wsJx2cfe80 : List Cond := u_ws RJx2cfe8 TJx2cfe8 0
theorem nmJx2cfe8 : ∀ a, a < 0 → ∀ b, b < 0 → a ≠ b → (TJx2cfe8 a).2.1 ≠ (TJx2cfe8 b).2.1 := by decide +kernel
theorem tyJx2cfe8_ok : ∀ k, k < 0 → parseFieldDescriptor (TJx2cfe8 k).2.2.1 = some (tyJx2cfe8 k) := by decide +kernel
def RJx00060 : String := "java/lang/ArrayIndexOutOfBoundsException"
def TJx00060 : u_T := fun k => match k with
  | 0 => ("java/lang/Throwable", "backtrace", "Ljava/lang/Object;", false)
  | 1 => ("java/lang/Throwable", "detailMessage", "Ljava/lang/String;", false)
  | 2 => ("java/lang/Throwable", "cause", "Ljava/lang/Throwable;", false)
  | 3 => ("java/lang/Throwable", "stackTrace", "[Ljava/lang/StackTraceElement;", false)
  | 4 => ("java/lang/Throwable", "depth", "I", false)
  | _ => ("java/lang/Throwable", "suppressedExceptions", "Ljava/util/List;", false)
def tyJx00060 : Nat → FieldType := fun k => match k with
  | 0 => .object "java/lang/Object"
  | 1 => .object "java/lang/String"
  | 2 => .object "java/lang/Throwable"
  | 3 => .array (.object "java/lang/StackTraceElement")
  | 4 => .int
  | _ => .object "java/util/List"
abbrev wsJx000600 : List Cond := u_ws RJx00060 TJx00060 6
theorem nmJx00060 : ∀ a, a < 6 → ∀ b, b < 6 → a ≠ b → (TJx00060 a).2.1 ≠ (TJx00060 b).2.1 := by decide +kernel
theorem tyJx00060_ok : ∀ k, k < 6 → parseFieldDescriptor (TJx00060 k).2.2.1 = some (tyJx00060 k) := by decide +kernel
abbrev cJx00060_init_a7421 : ByteArray := prog_16_method_2_code
def yJx00060_init_a7421 : MethodName := ⟨RJx00060, "<init>", "(Ljava/lang/String;)V"⟩
def RJx9f9b0 : String := "java/lang/CharSequence"
def TJx9f9b0 : u_T := fun k => match k with
  | _ => ("", "", "", false)
def tyJx9f9b0 : Nat → FieldType := fun k => match k with
  | _ => .int
abbrev wsJx9f9b00 : List Cond := u_ws RJx9f9b0 TJx9f9b0 0
theorem nmJx9f9b0 : ∀ a, a < 0 → ∀ b, b < 0 → a ≠ b → (TJx9f9b0 a).2.1 ≠ (TJx9f9b0 b).2.1 := by decide +kernel
theorem tyJx9f9b0_ok : ∀ k, k < 0 → parseFieldDescriptor (TJx9f9b0 k).2.2.1 = some (tyJx9f9b0 k) := by decide +kernel
def RJx2885b : String := "java/lang/Character$CharacterCache"
def TJx2885b : u_T := fun k => match k with
  | _ => ("", "", "", false)
def tyJx2885b : Nat → FieldType := fun k => match k with
  | _ => .int
abbrev wsJx2885b0 : List Cond := u_ws RJx2885b TJx2885b 0
theorem nmJx2885b : ∀ a, a < 0 → ∀ b, b < 0 → a ≠ b → (TJx2885b a).2.1 ≠ (TJx2885b b).2.1 := by decide +kernel
theorem tyJx2885b_ok : ∀ k, k < 0 → parseFieldDescriptor (TJx2885b k).2.2.1 = some (tyJx2885b k) := by decide +kernel
def RJ11 : String := "java/lang/Character"
def TJ11 : u_T := fun k => match k with
  | _ => ("java/lang/Character", "value", "C", true)
def tyJ11 : Nat → FieldType := fun k => match k with
  | _ => .char
abbrev wsJ110 : List Cond := u_ws RJ11 TJ11 1
theorem nmJ11 : ∀ a, a < 1 → ∀ b, b < 1 → a ≠ b → (TJ11 a).2.1 ≠ (TJ11 b).2.1 := by decide +kernel
theorem tyJ11_ok : ∀ k, k < 1 → parseFieldDescriptor (TJ11 k).2.2.1 = some (tyJ11 k) := by decide +kernel
abbrev cJ11_init_060e9 : ByteArray := prog_18_method_2_code
def yJ11_init_060e9 : MethodName := ⟨RJ11, "<init>", "(C)V"⟩
abbrev cJ11_valueOf_f0083 : ByteArray := prog_18_method_3_code
def yJ11_valueOf_f0083 : MethodName := ⟨RJ11, "valueOf", "(C)Ljava/lang/Character;"⟩
abbrev cJ11_charValue_ee9a4 : ByteArray := prog_18_method_4_code
def yJ11_charValue_ee9a4 : MethodName := ⟨RJ11, "charValue", "()C"⟩
abbrev cJ11_isValidCodePoint_9a6ad : ByteArray := prog_18_method_11_code
def yJ11_isValidCodePoint_9a6ad : MethodName := ⟨RJ11, "isValidCodePoint", "(I)Z"⟩
abbrev cJ11_highSurrogate_5068e : ByteArray := prog_18_method_28_code
def yJ11_highSurrogate_5068e : MethodName := ⟨RJ11, "highSurrogate", "(I)C"⟩
abbrev cJ11_lowSurrogate_5068e : ByteArray := prog_18_method_29_code
def yJ11_lowSurrogate_5068e : MethodName := ⟨RJ11, "lowSurrogate", "(I)C"⟩
def RJx8e188 : String := "java/lang/Cloneable"
def TJx8e188 : u_T := fun k => match k with
  | _ => ("", "", "", false)
def tyJx8e188 : Nat → FieldType := fun k => match k with
  | _ => .int
abbrev wsJx8e1880 : List Cond := u_ws RJx8e188 TJx8e188 0
theorem nmJx8e188 : ∀ a, a < 0 → ∀ b, b < 0 → a ≠ b → (TJx8e188 a).2.1 ≠ (TJx8e188 b).2.1 := by decide +kernel
theorem tyJx8e188_ok : ∀ k, k < 0 → parseFieldDescriptor (TJx8e188 k).2.2.1 = some (tyJx8e188 k) := by decide +kernel
def RJxb160c : String := "java/lang/Comparable"
def TJxb160c : u_T := fun k => match k with
  | _ => ("", "", "", false)
def tyJxb160c : Nat → FieldType := fun k => match k with
  | _ => .int
abbrev wsJxb160c0 : List Cond := u_ws RJxb160c TJxb160c 0
theorem nmJxb160c : ∀ a, a < 0 → ∀ b, b < 0 → a ≠ b → (TJxb160c a).2.1 ≠ (TJxb160c b).2.1 := by decide +kernel
theorem tyJxb160c_ok : ∀ k, k < 0 → parseFieldDescriptor (TJxb160c k).2.2.1 = some (tyJxb160c k) := by decide +kernel
def RJxabbfe : String := "java/lang/Integer$IntegerCache"
def TJxabbfe : u_T := fun k => match k with
  | _ => ("", "", "", false)
def tyJxabbfe : Nat → FieldType := fun k => match k with
  | _ => .int
abbrev wsJxabbfe0 : List Cond := u_ws RJxabbfe TJxabbfe 0
theorem nmJxabbfe : ∀ a, a < 0 → ∀ b, b < 0 → a ≠ b → (TJxabbfe a).2.1 ≠ (TJxabbfe b).2.1 := by decide +kernel
theorem tyJxabbfe_ok : ∀ k, k < 0 → parseFieldDescriptor (TJxabbfe k).2.2.1 = some (tyJxabbfe k) := by decide +kernel
def RJ6 : String := "java/lang/Integer"
def TJ6 : u_T := fun k => match k with
  | _ => ("java/lang/Integer", "value", "I", true)
def tyJ6 : Nat → FieldType := fun k => match k with
  | _ => .int
abbrev wsJ60 : List Cond := u_ws RJ6 TJ6 1
theorem nmJ6 : ∀ a, a < 1 → ∀ b, b < 1 → a ≠ b → (TJ6 a).2.1 ≠ (TJ6 b).2.1 := by decide +kernel
theorem tyJ6_ok : ∀ k, k < 1 → parseFieldDescriptor (TJ6 k).2.2.1 = some (tyJ6 k) := by decide +kernel
abbrev cJ6_getChars_ba4f3 : ByteArray := prog_26_method_12_code
def yJ6_getChars_ba4f3 : MethodName := ⟨RJ6, "getChars", "(II[B)I"⟩
abbrev cJ6_stringSize_0f7a4 : ByteArray := prog_26_method_13_code
def yJ6_stringSize_0f7a4 : MethodName := ⟨RJ6, "stringSize", "(I)I"⟩
abbrev cJ6_valueOf_2dffe : ByteArray := prog_26_method_22_code
def yJ6_valueOf_2dffe : MethodName := ⟨RJ6, "valueOf", "(I)Ljava/lang/Integer;"⟩
abbrev cJ6_init_d00df : ByteArray := prog_26_method_23_code
def yJ6_init_d00df : MethodName := ⟨RJ6, "<init>", "(I)V"⟩
abbrev cJ6_intValue_8abf5 : ByteArray := prog_26_method_27_code
def yJ6_intValue_8abf5 : MethodName := ⟨RJ6, "intValue", "()I"⟩
def RJxab1ab : String := "java/lang/Iterable"
def TJxab1ab : u_T := fun k => match k with
  | _ => ("", "", "", false)
def tyJxab1ab : Nat → FieldType := fun k => match k with
  | _ => .int
abbrev wsJxab1ab0 : List Cond := u_ws RJxab1ab TJxab1ab 0
theorem nmJxab1ab : ∀ a, a < 0 → ∀ b, b < 0 → a ≠ b → (TJxab1ab a).2.1 ≠ (TJxab1ab b).2.1 := by decide +kernel
theorem tyJxab1ab_ok : ∀ k, k < 0 → parseFieldDescriptor (TJxab1ab k).2.2.1 = some (tyJxab1ab k) := by decide +kernel
def RJ9 : String := "java/lang/Math"
def TJ9 : u_T := fun k => match k with
  | _ => ("", "", "", false)
def tyJ9 : Nat → FieldType := fun k => match k with
  | _ => .int
abbrev wsJ90 : List Cond := u_ws RJ9 TJ9 0
theorem nmJ9 : ∀ a, a < 0 → ∀ b, b < 0 → a ≠ b → (TJ9 a).2.1 ≠ (TJ9 b).2.1 := by decide +kernel
theorem tyJ9_ok : ∀ k, k < 0 → parseFieldDescriptor (TJ9 k).2.2.1 = some (tyJ9 k) := by decide +kernel
abbrev cJ9_max_7cf53 : ByteArray := prog_29_method_65_code
def yJ9_max_7cf53 : MethodName := ⟨RJ9, "max", "(II)I"⟩
abbrev cJ9_min_7cf53 : ByteArray := prog_29_method_69_code
def yJ9_min_7cf53 : MethodName := ⟨RJ9, "min", "(II)I"⟩
def RJxd2413 : String := "java/lang/Number"
def TJxd2413 : u_T := fun k => match k with
  | _ => ("", "", "", false)
def tyJxd2413 : Nat → FieldType := fun k => match k with
  | _ => .int
abbrev wsJxd24130 : List Cond := u_ws RJxd2413 TJxd2413 0
theorem nmJxd2413 : ∀ a, a < 0 → ∀ b, b < 0 → a ≠ b → (TJxd2413 a).2.1 ≠ (TJxd2413 b).2.1 := by decide +kernel
theorem tyJxd2413_ok : ∀ k, k < 0 → parseFieldDescriptor (TJxd2413 k).2.2.1 = some (tyJxd2413 k) := by decide +kernel
abbrev cJxd2413_init_da8c8 : ByteArray := prog_30_method_1_code
def yJxd2413_init_da8c8 : MethodName := ⟨RJxd2413, "<init>", "()V"⟩
def RJ0 : String := "java/lang/String"
def TJ0 : u_T := fun k => match k with
  | 0 => ("java/lang/String", "value", "[B", true)
  | 1 => ("java/lang/String", "coder", "B", true)
  | 2 => ("java/lang/String", "hash", "I", false)
  | _ => ("java/lang/String", "hashIsZero", "Z", false)
def tyJ0 : Nat → FieldType := fun k => match k with
  | 0 => .array .byte
  | 1 => .byte
  | 2 => .int
  | _ => .boolean
abbrev wsJ00 : List Cond := u_ws RJ0 TJ0 4
theorem nmJ0 : ∀ a, a < 4 → ∀ b, b < 4 → a ≠ b → (TJ0 a).2.1 ≠ (TJ0 b).2.1 := by decide +kernel
theorem tyJ0_ok : ∀ k, k < 4 → parseFieldDescriptor (TJ0 k).2.2.1 = some (tyJ0 k) := by decide +kernel
abbrev cJ0_init_81219 : ByteArray := prog_32_method_53_code
def yJ0_init_81219 : MethodName := ⟨RJ0, "<init>", "(Ljava/lang/StringBuilder;)V"⟩
abbrev cJ0_length_8abf5 : ByteArray := prog_32_method_54_code
def yJ0_length_8abf5 : MethodName := ⟨RJ0, "length", "()I"⟩
abbrev cJ0_indexOf_0f7a4 : ByteArray := prog_32_method_79_code
def yJ0_indexOf_0f7a4 : MethodName := ⟨RJ0, "indexOf", "(I)I"⟩
abbrev cJ0_indexOf_7cf53 : ByteArray := prog_32_method_80_code
def yJ0_indexOf_7cf53 : MethodName := ⟨RJ0, "indexOf", "(II)I"⟩
abbrev cJ0_getBytes_840e7 : ByteArray := prog_32_method_147_code
def yJ0_getBytes_840e7 : MethodName := ⟨RJ0, "getBytes", "([BIB)V"⟩
abbrev cJ0_init_db425 : ByteArray := prog_32_method_150_code
def yJ0_init_db425 : MethodName := ⟨RJ0, "<init>", "(Ljava/lang/AbstractStringBuilder;Ljava/lang/Void;)V"⟩
abbrev cJ0_coder_7d493 : ByteArray := prog_32_method_152_code
def yJ0_coder_7d493 : MethodName := ⟨RJ0, "coder", "()B"⟩
abbrev cJ0_isLatin1_aae02 : ByteArray := prog_32_method_154_code
def yJ0_isLatin1_aae02 : MethodName := ⟨RJ0, "isLatin1", "()Z"⟩
abbrev cJ0_checkBoundsOffCount_cabcc : ByteArray := prog_32_method_157_code
def yJ0_checkBoundsOffCount_cabcc : MethodName := ⟨RJ0, "checkBoundsOffCount", "(III)I"⟩
abbrev cJ0_checkBoundsBeginEnd_23922 : ByteArray := prog_32_method_158_code
def yJ0_checkBoundsBeginEnd_23922 : MethodName := ⟨RJ0, "checkBoundsBeginEnd", "(III)V"⟩
def RJ4 : String := "java/lang/StringBuilder"
def TJ4 : u_T := fun k => match k with
  | 0 => ("java/lang/AbstractStringBuilder", "value", "[B", false)
  | 1 => ("java/lang/AbstractStringBuilder", "coder", "B", false)
  | 2 => ("java/lang/AbstractStringBuilder", "maybeLatin1", "Z", false)
  | _ => ("java/lang/AbstractStringBuilder", "count", "I", false)
def tyJ4 : Nat → FieldType := fun k => match k with
  | 0 => .array .byte
  | 1 => .byte
  | 2 => .boolean
  | _ => .int
abbrev wsJ40 : List Cond := u_ws RJ4 TJ4 4
theorem nmJ4 : ∀ a, a < 4 → ∀ b, b < 4 → a ≠ b → (TJ4 a).2.1 ≠ (TJ4 b).2.1 := by decide +kernel
theorem tyJ4_ok : ∀ k, k < 4 → parseFieldDescriptor (TJ4 k).2.2.1 = some (tyJ4 k) := by decide +kernel
abbrev cJ4_init_da8c8 : ByteArray := prog_33_method_1_code
def yJ4_init_da8c8 : MethodName := ⟨RJ4, "<init>", "()V"⟩
abbrev cJ4_append_15ec4 : ByteArray := prog_33_method_7_code
def yJ4_append_15ec4 : MethodName := ⟨RJ4, "append", "(Ljava/lang/String;)Ljava/lang/StringBuilder;"⟩
abbrev cJ4_append_bf812 : ByteArray := prog_33_method_15_code
def yJ4_append_bf812 : MethodName := ⟨RJ4, "append", "(I)Ljava/lang/StringBuilder;"⟩
abbrev cJ4_toString_0e30d : ByteArray := prog_33_method_42_code
def yJ4_toString_0e30d : MethodName := ⟨RJ4, "toString", "()Ljava/lang/String;"⟩
abbrev cJ4_length_8abf5 : ByteArray := prog_33_method_93_code
def yJ4_length_8abf5 : MethodName := ⟨RJ4, "length", "()I"⟩
def RJ1 : String := "java/lang/StringLatin1"
def TJ1 : u_T := fun k => match k with
  | _ => ("", "", "", false)
def tyJ1 : Nat → FieldType := fun k => match k with
  | _ => .int
abbrev wsJ10 : List Cond := u_ws RJ1 TJ1 0
theorem nmJ1 : ∀ a, a < 0 → ∀ b, b < 0 → a ≠ b → (TJ1 a).2.1 ≠ (TJ1 b).2.1 := by decide +kernel
theorem tyJ1_ok : ∀ k, k < 0 → parseFieldDescriptor (TJ1 k).2.2.1 = some (tyJ1 k) := by decide +kernel
abbrev cJ1_canEncode_9a6ad : ByteArray := prog_34_method_4_code
def yJ1_canEncode_9a6ad : MethodName := ⟨RJ1, "canEncode", "(I)Z"⟩
abbrev cJ1_indexOf_4cfef : ByteArray := prog_34_method_22_code
def yJ1_indexOf_4cfef : MethodName := ⟨RJ1, "indexOf", "([BIII)I"⟩
abbrev cJ1_indexOfChar_4cfef : ByteArray := prog_34_method_23_code
def yJ1_indexOfChar_4cfef : MethodName := ⟨RJ1, "indexOfChar", "([BIII)I"⟩
abbrev cJ1_inflate_0e8fd : ByteArray := prog_34_method_50_code
def yJ1_inflate_0e8fd : MethodName := ⟨RJ1, "inflate", "([BI[BII)V"⟩
def RJ2 : String := "java/lang/StringUTF16"
def TJ2 : u_T := fun k => match k with
  | _ => ("", "", "", false)
def tyJ2 : Nat → FieldType := fun k => match k with
  | _ => .int
abbrev wsJ20 : List Cond := u_ws RJ2 TJ2 0
theorem nmJ2 : ∀ a, a < 0 → ∀ b, b < 0 → a ≠ b → (TJ2 a).2.1 ≠ (TJ2 b).2.1 := by decide +kernel
theorem tyJ2_ok : ∀ k, k < 0 → parseFieldDescriptor (TJ2 k).2.2.1 = some (tyJ2 k) := by decide +kernel
abbrev cJ2_newBytesFor_77867 : ByteArray := prog_35_method_2_code
def yJ2_newBytesFor_77867 : MethodName := ⟨RJ2, "newBytesFor", "(I)[B"⟩
abbrev cJ2_newBytesLength_0f7a4 : ByteArray := prog_35_method_3_code
def yJ2_newBytesLength_0f7a4 : MethodName := ⟨RJ2, "newBytesLength", "(I)I"⟩
abbrev cJ2_putChar_b72d1 : ByteArray := prog_35_method_4_code
def yJ2_putChar_b72d1 : MethodName := ⟨RJ2, "putChar", "([BII)V"⟩
abbrev cJ2_getChar_3b067 : ByteArray := prog_35_method_5_code
def yJ2_getChar_3b067 : MethodName := ⟨RJ2, "getChar", "([BI)C"⟩
abbrev cJ2_length_9d52b : ByteArray := prog_35_method_6_code
def yJ2_length_9d52b : MethodName := ⟨RJ2, "length", "([B)I"⟩
abbrev cJ2_coderFromArrayLen_85cad : ByteArray := prog_35_method_15_code
def yJ2_coderFromArrayLen_85cad : MethodName := ⟨RJ2, "coderFromArrayLen", "([BI)B"⟩
abbrev cJ2_compress_39247 : ByteArray := prog_35_method_17_code
def yJ2_compress_39247 : MethodName := ⟨RJ2, "compress", "([BII)[B"⟩
abbrev cJ2_compress_5af95 : ByteArray := prog_35_method_22_code
def yJ2_compress_5af95 : MethodName := ⟨RJ2, "compress", "([BI[BII)I"⟩
abbrev cJ2_indexOf_4cfef : ByteArray := prog_35_method_40_code
def yJ2_indexOf_4cfef : MethodName := ⟨RJ2, "indexOf", "([BIII)I"⟩
abbrev cJ2_indexOfChar_4cfef : ByteArray := prog_35_method_47_code
def yJ2_indexOfChar_4cfef : MethodName := ⟨RJ2, "indexOfChar", "([BIII)I"⟩
abbrev cJ2_indexOfCharUnsafe_4cfef : ByteArray := prog_35_method_48_code
def yJ2_indexOfCharUnsafe_4cfef : MethodName := ⟨RJ2, "indexOfCharUnsafe", "([BIII)I"⟩
abbrev cJ2_indexOfSupplementary_4cfef : ByteArray := prog_35_method_49_code
def yJ2_indexOfSupplementary_4cfef : MethodName := ⟨RJ2, "indexOfSupplementary", "([BIII)I"⟩
abbrev cJ2_getChars_46870 : ByteArray := prog_35_method_77_code
def yJ2_getChars_46870 : MethodName := ⟨RJ2, "getChars", "(III[B)I"⟩
abbrev cJ2_putCharsAt_cd4e5 : ByteArray := prog_35_method_81_code
def yJ2_putCharsAt_cd4e5 : MethodName := ⟨RJ2, "putCharsAt", "([BICCCC)I"⟩
abbrev cJ2_inflate_0e8fd : ByteArray := prog_35_method_86_code
def yJ2_inflate_0e8fd : MethodName := ⟨RJ2, "inflate", "([BI[BII)V"⟩
abbrev cJ2_getChars_ba4f3 : ByteArray := prog_35_method_89_code
def yJ2_getChars_ba4f3 : MethodName := ⟨RJ2, "getChars", "(II[B)I"⟩
abbrev cJ2_checkBoundsBeginEnd_d044e : ByteArray := prog_35_method_93_code
def yJ2_checkBoundsBeginEnd_d044e : MethodName := ⟨RJ2, "checkBoundsBeginEnd", "(II[B)V"⟩
abbrev cJ2_checkBoundsOffCount_d044e : ByteArray := prog_35_method_94_code
def yJ2_checkBoundsOffCount_d044e : MethodName := ⟨RJ2, "checkBoundsOffCount", "(II[B)V"⟩
def RJ10 : String := "java/lang/System"
def TJ10 : u_T := fun k => match k with
  | _ => ("", "", "", false)
def tyJ10 : Nat → FieldType := fun k => match k with
  | _ => .int
abbrev wsJ100 : List Cond := u_ws RJ10 TJ10 0
theorem nmJ10 : ∀ a, a < 0 → ∀ b, b < 0 → a ≠ b → (TJ10 a).2.1 ≠ (TJ10 b).2.1 := by decide +kernel
theorem tyJ10_ok : ∀ k, k < 0 → parseFieldDescriptor (TJ10 k).2.2.1 = some (tyJ10 k) := by decide +kernel
def RJxfd54e : String := "java/lang/constant/Constable"
def TJxfd54e : u_T := fun k => match k with
  | _ => ("", "", "", false)
def tyJxfd54e : Nat → FieldType := fun k => match k with
  | _ => .int
abbrev wsJxfd54e0 : List Cond := u_ws RJxfd54e TJxfd54e 0
theorem nmJxfd54e : ∀ a, a < 0 → ∀ b, b < 0 → a ≠ b → (TJxfd54e a).2.1 ≠ (TJxfd54e b).2.1 := by decide +kernel
theorem tyJxfd54e_ok : ∀ k, k < 0 → parseFieldDescriptor (TJxfd54e k).2.2.1 = some (tyJxfd54e k) := by decide +kernel
def RJx3cf43 : String := "java/lang/constant/ConstantDesc"
def TJx3cf43 : u_T := fun k => match k with
  | _ => ("", "", "", false)
def tyJx3cf43 : Nat → FieldType := fun k => match k with
  | _ => .int
abbrev wsJx3cf430 : List Cond := u_ws RJx3cf43 TJx3cf43 0
theorem nmJx3cf43 : ∀ a, a < 0 → ∀ b, b < 0 → a ≠ b → (TJx3cf43 a).2.1 ≠ (TJx3cf43 b).2.1 := by decide +kernel
theorem tyJx3cf43_ok : ∀ k, k < 0 → parseFieldDescriptor (TJx3cf43 k).2.2.1 = some (tyJx3cf43 k) := by decide +kernel
def RJxa1e45 : String := "java/util/AbstractCollection"
def TJxa1e45 : u_T := fun k => match k with
  | _ => ("", "", "", false)
def tyJxa1e45 : Nat → FieldType := fun k => match k with
  | _ => .int
abbrev wsJxa1e450 : List Cond := u_ws RJxa1e45 TJxa1e45 0
theorem nmJxa1e45 : ∀ a, a < 0 → ∀ b, b < 0 → a ≠ b → (TJxa1e45 a).2.1 ≠ (TJxa1e45 b).2.1 := by decide +kernel
theorem tyJxa1e45_ok : ∀ k, k < 0 → parseFieldDescriptor (TJxa1e45 k).2.2.1 = some (tyJxa1e45 k) := by decide +kernel
abbrev cJxa1e45_init_da8c8 : ByteArray := prog_41_method_1_code
def yJxa1e45_init_da8c8 : MethodName := ⟨RJxa1e45, "<init>", "()V"⟩
def RJxc12de : String := "java/util/AbstractList"
def TJxc12de : u_T := fun k => match k with
  | _ => ("", "", "", false)
def tyJxc12de : Nat → FieldType := fun k => match k with
  | _ => .int
abbrev wsJxc12de0 : List Cond := u_ws RJxc12de TJxc12de 0
theorem nmJxc12de : ∀ a, a < 0 → ∀ b, b < 0 → a ≠ b → (TJxc12de a).2.1 ≠ (TJxc12de b).2.1 := by decide +kernel
theorem tyJxc12de_ok : ∀ k, k < 0 → parseFieldDescriptor (TJxc12de k).2.2.1 = some (tyJxc12de k) := by decide +kernel
abbrev cJxc12de_init_da8c8 : ByteArray := prog_42_method_1_code
def yJxc12de_init_da8c8 : MethodName := ⟨RJxc12de, "<init>", "()V"⟩
def RJx35411 : String := "java/util/ArrayList$Itr"
def TJx35411 : u_T := fun k => match k with
  | 0 => ("java/util/ArrayList$Itr", "cursor", "I", false)
  | 1 => ("java/util/ArrayList$Itr", "lastRet", "I", false)
  | 2 => ("java/util/ArrayList$Itr", "expectedModCount", "I", false)
  | _ => ("java/util/ArrayList$Itr", "this$0", "Ljava/util/ArrayList;", true)
def tyJx35411 : Nat → FieldType := fun k => match k with
  | 0 => .int
  | 1 => .int
  | 2 => .int
  | _ => .object "java/util/ArrayList"
abbrev wsJx354110 : List Cond := u_ws RJx35411 TJx35411 4
theorem nmJx35411 : ∀ a, a < 4 → ∀ b, b < 4 → a ≠ b → (TJx35411 a).2.1 ≠ (TJx35411 b).2.1 := by decide +kernel
theorem tyJx35411_ok : ∀ k, k < 4 → parseFieldDescriptor (TJx35411 k).2.2.1 = some (tyJx35411 k) := by decide +kernel
abbrev cJx35411_init_45d68 : ByteArray := prog_44_method_1_code
def yJx35411_init_45d68 : MethodName := ⟨RJx35411, "<init>", "(Ljava/util/ArrayList;)V"⟩
abbrev cJx35411_hasNext_aae02 : ByteArray := prog_44_method_2_code
def yJx35411_hasNext_aae02 : MethodName := ⟨RJx35411, "hasNext", "()Z"⟩
abbrev cJx35411_next_0502b : ByteArray := prog_44_method_3_code
def yJx35411_next_0502b : MethodName := ⟨RJx35411, "next", "()Ljava/lang/Object;"⟩
abbrev cJx35411_checkForComodification_da8c8 : ByteArray := prog_44_method_6_code
def yJx35411_checkForComodification_da8c8 : MethodName := ⟨RJx35411, "checkForComodification", "()V"⟩
def RJx4a65c : String := "java/util/ArrayList"
def TJx4a65c : u_T := fun k => match k with
  | 0 => ("java/util/AbstractList", "modCount", "I", false)
  | 1 => ("java/util/ArrayList", "elementData", "[Ljava/lang/Object;", false)
  | _ => ("java/util/ArrayList", "size", "I", false)
def tyJx4a65c : Nat → FieldType := fun k => match k with
  | 0 => .int
  | 1 => .array (.object "java/lang/Object")
  | _ => .int
abbrev wsJx4a65c0 : List Cond := u_ws RJx4a65c TJx4a65c 3
theorem nmJx4a65c : ∀ a, a < 3 → ∀ b, b < 3 → a ≠ b → (TJx4a65c a).2.1 ≠ (TJx4a65c b).2.1 := by decide +kernel
theorem tyJx4a65c_ok : ∀ k, k < 3 → parseFieldDescriptor (TJx4a65c k).2.2.1 = some (tyJx4a65c k) := by decide +kernel
abbrev cJx4a65c_init_da8c8 : ByteArray := prog_43_method_2_code
def yJx4a65c_init_da8c8 : MethodName := ⟨RJx4a65c, "<init>", "()V"⟩
abbrev cJx4a65c_grow_92f84 : ByteArray := prog_43_method_6_code
def yJx4a65c_grow_92f84 : MethodName := ⟨RJx4a65c, "grow", "(I)[Ljava/lang/Object;"⟩
abbrev cJx4a65c_grow_d5877 : ByteArray := prog_43_method_7_code
def yJx4a65c_grow_d5877 : MethodName := ⟨RJx4a65c, "grow", "()[Ljava/lang/Object;"⟩
abbrev cJx4a65c_size_8abf5 : ByteArray := prog_43_method_8_code
def yJx4a65c_size_8abf5 : MethodName := ⟨RJx4a65c, "size", "()I"⟩
abbrev cJx4a65c_toArray_d5877 : ByteArray := prog_43_method_16_code
def yJx4a65c_toArray_d5877 : MethodName := ⟨RJx4a65c, "toArray", "()[Ljava/lang/Object;"⟩
abbrev cJx4a65c_elementData_915e3 : ByteArray := prog_43_method_18_code
def yJx4a65c_elementData_915e3 : MethodName := ⟨RJx4a65c, "elementData", "(I)Ljava/lang/Object;"⟩
abbrev cJx4a65c_get_915e3 : ByteArray := prog_43_method_20_code
def yJx4a65c_get_915e3 : MethodName := ⟨RJx4a65c, "get", "(I)Ljava/lang/Object;"⟩
abbrev cJx4a65c_set_bcc79 : ByteArray := prog_43_method_23_code
def yJx4a65c_set_bcc79 : MethodName := ⟨RJx4a65c, "set", "(ILjava/lang/Object;)Ljava/lang/Object;"⟩
abbrev cJx4a65c_add_72be8 : ByteArray := prog_43_method_24_code
def yJx4a65c_add_72be8 : MethodName := ⟨RJx4a65c, "add", "(Ljava/lang/Object;[Ljava/lang/Object;I)V"⟩
abbrev cJx4a65c_add_9ea2d : ByteArray := prog_43_method_25_code
def yJx4a65c_add_9ea2d : MethodName := ⟨RJx4a65c, "add", "(Ljava/lang/Object;)Z"⟩
abbrev cJx4a65c_add_7a177 : ByteArray := prog_43_method_26_code
def yJx4a65c_add_7a177 : MethodName := ⟨RJx4a65c, "add", "(ILjava/lang/Object;)V"⟩
abbrev cJx4a65c_addAll_f0b43 : ByteArray := prog_43_method_41_code
def yJx4a65c_addAll_f0b43 : MethodName := ⟨RJx4a65c, "addAll", "(Ljava/util/Collection;)Z"⟩
abbrev cJx4a65c_rangeCheckForAdd_d00df : ByteArray := prog_43_method_45_code
def yJx4a65c_rangeCheckForAdd_d00df : MethodName := ⟨RJx4a65c, "rangeCheckForAdd", "(I)V"⟩
abbrev cJx4a65c_outOfBoundsMsg_b52d3 : ByteArray := prog_43_method_46_code
def yJx4a65c_outOfBoundsMsg_b52d3 : MethodName := ⟨RJx4a65c, "outOfBoundsMsg", "(I)Ljava/lang/String;"⟩
abbrev cJx4a65c_iterator_32c93 : ByteArray := prog_43_method_55_code
def yJx4a65c_iterator_32c93 : MethodName := ⟨RJx4a65c, "iterator", "()Ljava/util/Iterator;"⟩
def RJ7 : String := "java/util/Arrays"
def TJ7 : u_T := fun k => match k with
  | _ => ("", "", "", false)
def tyJ7 : Nat → FieldType := fun k => match k with
  | _ => .int
abbrev wsJ70 : List Cond := u_ws RJ7 TJ7 0
theorem nmJ7 : ∀ a, a < 0 → ∀ b, b < 0 → a ≠ b → (TJ7 a).2.1 ≠ (TJ7 b).2.1 := by decide +kernel
theorem tyJ7_ok : ∀ k, k < 0 → parseFieldDescriptor (TJ7 k).2.2.1 = some (tyJ7 k) := by decide +kernel
abbrev cJ7_copyOf_1904c : ByteArray := prog_45_method_119_code
def yJ7_copyOf_1904c : MethodName := ⟨RJ7, "copyOf", "([Ljava/lang/Object;I)[Ljava/lang/Object;"⟩
abbrev cJ7_copyOf_6403c : ByteArray := prog_45_method_120_code
def yJ7_copyOf_6403c : MethodName := ⟨RJ7, "copyOf", "([Ljava/lang/Object;ILjava/lang/Class;)[Ljava/lang/Object;"⟩
abbrev cJ7_copyOf_9075b : ByteArray := prog_45_method_121_code
def yJ7_copyOf_9075b : MethodName := ⟨RJ7, "copyOf", "([BI)[B"⟩
abbrev cJ7_checkLength_df160 : ByteArray := prog_45_method_131_code
def yJ7_checkLength_df160 : MethodName := ⟨RJ7, "checkLength", "(II)V"⟩
abbrev cJ7_copyOfRange_39247 : ByteArray := prog_45_method_132_code
def yJ7_copyOfRange_39247 : MethodName := ⟨RJ7, "copyOfRange", "([BII)[B"⟩
abbrev cJ7_copyOfRangeByte_39247 : ByteArray := prog_45_method_133_code
def yJ7_copyOfRangeByte_39247 : MethodName := ⟨RJ7, "copyOfRangeByte", "([BII)[B"⟩
def RJx5ef63 : String := "java/util/Collection"
def TJx5ef63 : u_T := fun k => match k with
  | _ => ("", "", "", false)
def tyJx5ef63 : Nat → FieldType := fun k => match k with
  | _ => .int
abbrev wsJx5ef630 : List Cond := u_ws RJx5ef63 TJx5ef63 0
theorem nmJx5ef63 : ∀ a, a < 0 → ∀ b, b < 0 → a ≠ b → (TJx5ef63 a).2.1 ≠ (TJx5ef63 b).2.1 := by decide +kernel
theorem tyJx5ef63_ok : ∀ k, k < 0 → parseFieldDescriptor (TJx5ef63 k).2.2.1 = some (tyJx5ef63 k) := by decide +kernel
def RJx4d0d8 : String := "java/util/Iterator"
def TJx4d0d8 : u_T := fun k => match k with
  | _ => ("", "", "", false)
def tyJx4d0d8 : Nat → FieldType := fun k => match k with
  | _ => .int
abbrev wsJx4d0d80 : List Cond := u_ws RJx4d0d8 TJx4d0d8 0
theorem nmJx4d0d8 : ∀ a, a < 0 → ∀ b, b < 0 → a ≠ b → (TJx4d0d8 a).2.1 ≠ (TJx4d0d8 b).2.1 := by decide +kernel
theorem tyJx4d0d8_ok : ∀ k, k < 0 → parseFieldDescriptor (TJx4d0d8 k).2.2.1 = some (tyJx4d0d8 k) := by decide +kernel
def RJxbd725 : String := "java/util/List"
def TJxbd725 : u_T := fun k => match k with
  | _ => ("", "", "", false)
def tyJxbd725 : Nat → FieldType := fun k => match k with
  | _ => .int
abbrev wsJxbd7250 : List Cond := u_ws RJxbd725 TJxbd725 0
theorem nmJxbd725 : ∀ a, a < 0 → ∀ b, b < 0 → a ≠ b → (TJxbd725 a).2.1 ≠ (TJxbd725 b).2.1 := by decide +kernel
theorem tyJxbd725_ok : ∀ k, k < 0 → parseFieldDescriptor (TJxbd725 k).2.2.1 = some (tyJxbd725 k) := by decide +kernel
def RJ15 : String := "java/util/Objects"
def TJ15 : u_T := fun k => match k with
  | _ => ("", "", "", false)
def tyJ15 : Nat → FieldType := fun k => match k with
  | _ => .int
abbrev wsJ150 : List Cond := u_ws RJ15 TJ15 0
theorem nmJ15 : ∀ a, a < 0 → ∀ b, b < 0 → a ≠ b → (TJ15 a).2.1 ≠ (TJ15 b).2.1 := by decide +kernel
theorem tyJ15_ok : ∀ k, k < 0 → parseFieldDescriptor (TJ15 k).2.2.1 = some (tyJ15 k) := by decide +kernel
abbrev cJ15_checkIndex_7cf53 : ByteArray := prog_49_method_17_code
def yJ15_checkIndex_7cf53 : MethodName := ⟨RJ15, "checkIndex", "(II)I"⟩
def RJxf0a74 : String := "java/util/RandomAccess"
def TJxf0a74 : u_T := fun k => match k with
  | _ => ("", "", "", false)
def tyJxf0a74 : Nat → FieldType := fun k => match k with
  | _ => .int
abbrev wsJxf0a740 : List Cond := u_ws RJxf0a74 TJxf0a74 0
theorem nmJxf0a74 : ∀ a, a < 0 → ∀ b, b < 0 → a ≠ b → (TJxf0a74 a).2.1 ≠ (TJxf0a74 b).2.1 := by decide +kernel
theorem tyJxf0a74_ok : ∀ k, k < 0 → parseFieldDescriptor (TJxf0a74 k).2.2.1 = some (tyJxf0a74 k) := by decide +kernel
def RJxa66e6 : String := "java/util/SequencedCollection"
def TJxa66e6 : u_T := fun k => match k with
  | _ => ("", "", "", false)
def tyJxa66e6 : Nat → FieldType := fun k => match k with
  | _ => .int
abbrev wsJxa66e60 : List Cond := u_ws RJxa66e6 TJxa66e6 0
theorem nmJxa66e6 : ∀ a, a < 0 → ∀ b, b < 0 → a ≠ b → (TJxa66e6 a).2.1 ≠ (TJxa66e6 b).2.1 := by decide +kernel
theorem tyJxa66e6_ok : ∀ k, k < 0 → parseFieldDescriptor (TJxa66e6 k).2.2.1 = some (tyJxa66e6 k) := by decide +kernel
def RJ8 : String := "jdk/internal/util/ArraysSupport"
def TJ8 : u_T := fun k => match k with
  | _ => ("", "", "", false)
def tyJ8 : Nat → FieldType := fun k => match k with
  | _ => .int
abbrev wsJ80 : List Cond := u_ws RJ8 TJ8 0
theorem nmJ8 : ∀ a, a < 0 → ∀ b, b < 0 → a ≠ b → (TJ8 a).2.1 ≠ (TJ8 b).2.1 := by decide +kernel
theorem tyJ8_ok : ∀ k, k < 0 → parseFieldDescriptor (TJ8 k).2.2.1 = some (tyJ8 k) := by decide +kernel
abbrev cJ8_newLength_cabcc : ByteArray := prog_52_method_27_code
def yJ8_newLength_cabcc : MethodName := ⟨RJ8, "newLength", "(III)I"⟩
abbrev cJ8_hugeLength_7cf53 : ByteArray := prog_52_method_28_code
def yJ8_hugeLength_7cf53 : MethodName := ⟨RJ8, "hugeLength", "(II)I"⟩
def RJ3 : String := "jdk/internal/util/Preconditions"
def TJ3 : u_T := fun k => match k with
  | _ => ("", "", "", false)
def tyJ3 : Nat → FieldType := fun k => match k with
  | _ => .int
abbrev wsJ30 : List Cond := u_ws RJ3 TJ3 0
theorem nmJ3 : ∀ a, a < 0 → ∀ b, b < 0 → a ≠ b → (TJ3 a).2.1 ≠ (TJ3 b).2.1 := by decide +kernel
theorem tyJ3_ok : ∀ k, k < 0 → parseFieldDescriptor (TJ3 k).2.2.1 = some (tyJ3 k) := by decide +kernel
abbrev cJ3_checkIndex_8e157 : ByteArray := prog_53_method_11_code
def yJ3_checkIndex_8e157 : MethodName := ⟨RJ3, "checkIndex", "(IILjava/util/function/BiFunction;)I"⟩
abbrev cJ3_checkFromToIndex_8c36e : ByteArray := prog_53_method_12_code
def yJ3_checkFromToIndex_8c36e : MethodName := ⟨RJ3, "checkFromToIndex", "(IIILjava/util/function/BiFunction;)I"⟩
abbrev cJ3_checkFromIndexSize_8c36e : ByteArray := prog_53_method_13_code
def yJ3_checkFromIndexSize_8c36e : MethodName := ⟨RJ3, "checkFromIndexSize", "(IIILjava/util/function/BiFunction;)I"⟩
def RL : String := "HarbourmintLaw"
abbrev cL_addHouse : ByteArray := method_3_code
def yL_addHouse : MethodName := ⟨RL, "addHouse", "(LHarbourmint;C[J)I"⟩
abbrev cL_kindOf : ByteArray := method_4_code
def yL_kindOf : MethodName := ⟨RL, "kindOf", "(LHarbourmint;I[J)I"⟩
abbrev cL_dig : ByteArray := method_5_code
def yL_dig : MethodName := ⟨RL, "dig", "(LHarbourmint;ICI[J)I"⟩
abbrev cL_decree : ByteArray := method_6_code
def yL_decree : MethodName := ⟨RL, "decree", "(LHarbourmint;CII[J)I"⟩
abbrev cL_mint : ByteArray := method_7_code
def yL_mint : MethodName := ⟨RL, "mint", "(LHarbourmint;ICI[J)I"⟩
abbrev cL_clip : ByteArray := method_8_code
def yL_clip : MethodName := ⟨RL, "clip", "(LHarbourmint;II[J)I"⟩
abbrev cL_hoard : ByteArray := method_9_code
def yL_hoard : MethodName := ⟨RL, "hoard", "(LHarbourmint;IZ[J)I"⟩
abbrev cL_recoin : ByteArray := method_10_code
def yL_recoin : MethodName := ⟨RL, "recoin", "(LHarbourmint;IC[J)I"⟩
abbrev cL_pay : ByteArray := method_11_code
def yL_pay : MethodName := ⟨RL, "pay", "(LHarbourmint;IICI[J)I"⟩
abbrev cL_deposit : ByteArray := method_12_code
def yL_deposit : MethodName := ⟨RL, "deposit", "(LHarbourmint;IICI[J)I"⟩
abbrev cL_withdraw : ByteArray := method_13_code
def yL_withdraw : MethodName := ⟨RL, "withdraw", "(LHarbourmint;IICI[J)I"⟩
abbrev cL_lend : ByteArray := method_14_code
def yL_lend : MethodName := ⟨RL, "lend", "(LHarbourmint;III[J)I"⟩
abbrev cL_hand : ByteArray := method_15_code
def yL_hand : MethodName := ⟨RL, "hand", "(LHarbourmint;IIII[J)I"⟩
abbrev cL_forgive : ByteArray := method_16_code
def yL_forgive : MethodName := ⟨RL, "forgive", "(LHarbourmint;III[J)I"⟩
abbrev cL_claim : ByteArray := method_17_code
def yL_claim : MethodName := ⟨RL, "claim", "(LHarbourmint;II[J)I"⟩
abbrev cL_draw : ByteArray := method_18_code
def yL_draw : MethodName := ⟨RL, "draw", "(LHarbourmint;IIII[J)I"⟩
abbrev cL_endorse : ByteArray := method_19_code
def yL_endorse : MethodName := ⟨RL, "endorse", "(LHarbourmint;II[J)I"⟩
abbrev cL_holderOf : ByteArray := method_20_code
def yL_holderOf : MethodName := ⟨RL, "holderOf", "(LHarbourmint;I[J)I"⟩
abbrev cL_addShare : ByteArray := method_21_code
def yL_addShare : MethodName := ⟨RL, "addShare", "(LHarbourmint;III[J)I"⟩
abbrev cL_throwOver : ByteArray := method_22_code
def yL_throwOver : MethodName := ⟨RL, "throwOver", "(LHarbourmint;III[J)I"⟩
abbrev cL_coins : ByteArray := method_23_code
def yL_coins : MethodName := ⟨RL, "coins", "(LHarbourmint;IC[J)I"⟩
abbrev cL_weightOf : ByteArray := method_24_code
def yL_weightOf : MethodName := ⟨RL, "weightOf", "(LHarbourmint;I[J)I"⟩
abbrev cL_ownerOf : ByteArray := method_25_code
def yL_ownerOf : MethodName := ⟨RL, "ownerOf", "(LHarbourmint;I[J)I"⟩
abbrev cL_owners : ByteArray := method_26_code
def yL_owners : MethodName := ⟨RL, "owners", "(LHarbourmint;I[J)I"⟩
abbrev cL_ore : ByteArray := method_27_code
def yL_ore : MethodName := ⟨RL, "ore", "(LHarbourmint;IC[J)I"⟩
abbrev cL_wealth : ByteArray := method_28_code
def yL_wealth : MethodName := ⟨RL, "wealth", "(LHarbourmint;I[J)I"⟩
abbrev cL_lightShare : ByteArray := method_29_code
def yL_lightShare : MethodName := ⟨RL, "lightShare", "(LHarbourmint;[D)I"⟩
abbrev cL_meanWeight : ByteArray := method_30_code
def yL_meanWeight : MethodName := ⟨RL, "meanWeight", "(LHarbourmint;[D)I"⟩
abbrev cL_law : ByteArray := code
def yL_law : MethodName := ⟨RL, "law", "([I)Z"⟩
end
section
abbrev vwCl : List vw_C := [(RJ0, TJ0, 4), (RJ4, TJ4, 4), (RJ6, TJ6, 1), (RJ11, TJ11, 1), (RJx00060, TJx00060, 6), (RJx35411, TJx35411, 4), (RJx4a65c, TJx4a65c, 3), (RX0, TX0, 9), (RX1, TX1, 1), (RX2, TX2, 7), (RX3, TX3, 3), (RX4, TX4, 4), (RX5, TX5, 3), (RX6, TX6, 7), (RX7, TX7, 7), (RX8, TX8, 6), (RX9, TX9, 11)]
theorem dX0_init_0 : decode cX0_init 0 = .ok (.aload_n 0, 1) := by decide +kernel
theorem dX0_init_1 : decode cX0_init 1 = .ok (.invokespecial 3, 3) := by decide +kernel
theorem dX0_init_4 : decode cX0_init 4 = .ok (.aload_n 0, 1) := by decide +kernel
theorem dX0_init_5 : decode cX0_init 5 = .ok (.bipush 12, 2) := by decide +kernel
theorem dX0_init_7 : decode cX0_init 7 = .ok (.newarray .int, 2) := by decide +kernel
theorem dX0_init_9 : decode cX0_init 9 = .ok (.putfield 9, 3) := by decide +kernel
theorem dX0_init_12 : decode cX0_init 12 = .ok (.aload_n 0, 1) := by decide +kernel
theorem dX0_init_13 : decode cX0_init 13 = .ok (.bipush 12, 2) := by decide +kernel
theorem dX0_init_15 : decode cX0_init 15 = .ok (.newarray .int, 2) := by decide +kernel
theorem dX0_init_17 : decode cX0_init 17 = .ok (.putfield 15, 3) := by decide +kernel
theorem dX0_init_20 : decode cX0_init 20 = .ok (.aload_n 0, 1) := by decide +kernel
theorem dX0_init_21 : decode cX0_init 21 = .ok (.bipush 12, 2) := by decide +kernel
theorem dX0_init_23 : decode cX0_init 23 = .ok (.newarray .int, 2) := by decide +kernel
theorem dX0_init_25 : decode cX0_init 25 = .ok (.putfield 18, 3) := by decide +kernel
theorem dX0_init_28 : decode cX0_init 28 = .ok (.aload_n 0, 1) := by decide +kernel
theorem dX0_init_29 : decode cX0_init 29 = .ok (.bipush 12, 2) := by decide +kernel
theorem dX0_init_31 : decode cX0_init 31 = .ok (.newarray .int, 2) := by decide +kernel
theorem dX0_init_33 : decode cX0_init 33 = .ok (.putfield 21, 3) := by decide +kernel
theorem dX0_init_36 : decode cX0_init 36 = .ok (.aload_n 0, 1) := by decide +kernel
theorem dX0_init_37 : decode cX0_init 37 = .ok (.bipush 12, 2) := by decide +kernel
theorem dX0_init_39 : decode cX0_init 39 = .ok (.newarray .int, 2) := by decide +kernel
theorem dX0_init_41 : decode cX0_init 41 = .ok (.putfield 24, 3) := by decide +kernel
theorem dX0_init_44 : decode cX0_init 44 = .ok (.aload_n 0, 1) := by decide +kernel
theorem dX0_init_45 : decode cX0_init 45 = .ok (.bipush 60, 2) := by decide +kernel
theorem dX0_init_47 : decode cX0_init 47 = .ok (.newarray .int, 2) := by decide +kernel
theorem dX0_init_49 : decode cX0_init 49 = .ok (.putfield 27, 3) := by decide +kernel
theorem dX0_init_52 : decode cX0_init 52 = .ok (.aload_n 0, 1) := by decide +kernel
theorem dX0_init_53 : decode cX0_init 53 = .ok (.bipush 12, 2) := by decide +kernel
theorem dX0_init_55 : decode cX0_init 55 = .ok (.newarray .int, 2) := by decide +kernel
theorem dX0_init_57 : decode cX0_init 57 = .ok (.putfield 30, 3) := by decide +kernel
theorem dX0_init_60 : decode cX0_init 60 = .ok (.return_, 1) := by decide +kernel
theorem dX0_count_0 : decode cX0_count 0 = .ok (.aload_n 0, 1) := by decide +kernel
theorem dX0_count_1 : decode cX0_count 1 = .ok (.getfield 33, 3) := by decide +kernel
theorem dX0_count_4 : decode cX0_count 4 = .ok (.ireturn, 1) := by decide +kernel
theorem dX0_write_0 : decode cX0_write 0 = .ok (.aload_n 0, 1) := by decide +kernel
theorem dX0_write_1 : decode cX0_write 1 = .ok (.getfield 33, 3) := by decide +kernel
theorem dX0_write_4 : decode cX0_write 4 = .ok (.bipush 12, 2) := by decide +kernel
theorem dX0_write_6 : decode cX0_write 6 = .ok (.if_icmp .lt 5, 3) := by decide +kernel
theorem dX0_write_9 : decode cX0_write 9 = .ok (.iconst (-1), 1) := by decide +kernel
theorem dX0_write_10 : decode cX0_write 10 = .ok (.ireturn, 1) := by decide +kernel
theorem dX0_write_11 : decode cX0_write 11 = .ok (.aload_n 0, 1) := by decide +kernel
theorem dX0_write_12 : decode cX0_write 12 = .ok (.getfield 33, 3) := by decide +kernel
theorem dX0_write_15 : decode cX0_write 15 = .ok (.istore 5, 2) := by decide +kernel
theorem dX0_write_17 : decode cX0_write 17 = .ok (.aload_n 0, 1) := by decide +kernel
theorem dX0_write_18 : decode cX0_write 18 = .ok (.dup, 1) := by decide +kernel
theorem dX0_write_19 : decode cX0_write 19 = .ok (.getfield 33, 3) := by decide +kernel
theorem dX0_write_22 : decode cX0_write 22 = .ok (.iconst 1, 1) := by decide +kernel
theorem dX0_write_23 : decode cX0_write 23 = .ok (.iadd, 1) := by decide +kernel
theorem dX0_write_24 : decode cX0_write 24 = .ok (.putfield 33, 3) := by decide +kernel
theorem dX0_write_27 : decode cX0_write 27 = .ok (.aload_n 0, 1) := by decide +kernel
theorem dX0_write_28 : decode cX0_write 28 = .ok (.getfield 9, 3) := by decide +kernel
theorem dX0_write_31 : decode cX0_write 31 = .ok (.iload 5, 2) := by decide +kernel
theorem dX0_write_33 : decode cX0_write 33 = .ok (.iload_n 1, 1) := by decide +kernel
theorem dX0_write_34 : decode cX0_write 34 = .ok (.iastore, 1) := by decide +kernel
theorem dX0_write_35 : decode cX0_write 35 = .ok (.aload_n 0, 1) := by decide +kernel
theorem dX0_write_36 : decode cX0_write 36 = .ok (.getfield 15, 3) := by decide +kernel
theorem dX0_write_39 : decode cX0_write 39 = .ok (.iload 5, 2) := by decide +kernel
theorem dX0_write_41 : decode cX0_write 41 = .ok (.iload_n 2, 1) := by decide +kernel
theorem dX0_write_42 : decode cX0_write 42 = .ok (.iastore, 1) := by decide +kernel
theorem dX0_write_43 : decode cX0_write 43 = .ok (.aload_n 0, 1) := by decide +kernel
theorem dX0_write_44 : decode cX0_write 44 = .ok (.getfield 18, 3) := by decide +kernel
theorem dX0_write_47 : decode cX0_write 47 = .ok (.iload 5, 2) := by decide +kernel
theorem dX0_write_49 : decode cX0_write 49 = .ok (.iload_n 3, 1) := by decide +kernel
theorem dX0_write_50 : decode cX0_write 50 = .ok (.iastore, 1) := by decide +kernel
theorem dX0_write_51 : decode cX0_write 51 = .ok (.aload_n 0, 1) := by decide +kernel
theorem dX0_write_52 : decode cX0_write 52 = .ok (.getfield 21, 3) := by decide +kernel
theorem dX0_write_55 : decode cX0_write 55 = .ok (.iload 5, 2) := by decide +kernel
theorem dX0_write_57 : decode cX0_write 57 = .ok (.aload_n 0, 1) := by decide +kernel
theorem dX0_write_58 : decode cX0_write 58 = .ok (.getfield 37, 3) := by decide +kernel
theorem dX0_write_61 : decode cX0_write 61 = .ok (.iload 4, 2) := by decide +kernel
theorem dX0_write_63 : decode cX0_write 63 = .ok (.iadd, 1) := by decide +kernel
theorem dX0_write_64 : decode cX0_write 64 = .ok (.iastore, 1) := by decide +kernel
theorem dX0_write_65 : decode cX0_write 65 = .ok (.aload_n 0, 1) := by decide +kernel
theorem dX0_write_66 : decode cX0_write 66 = .ok (.getfield 24, 3) := by decide +kernel
theorem dX0_write_69 : decode cX0_write 69 = .ok (.iload 5, 2) := by decide +kernel
theorem dX0_write_71 : decode cX0_write 71 = .ok (.iload_n 1, 1) := by decide +kernel
theorem dX0_write_72 : decode cX0_write 72 = .ok (.iastore, 1) := by decide +kernel
theorem dX0_write_73 : decode cX0_write 73 = .ok (.iload 5, 2) := by decide +kernel
theorem dX0_write_75 : decode cX0_write 75 = .ok (.ireturn, 1) := by decide +kernel
theorem dX0_passOn_0 : decode cX0_passOn 0 = .ok (.aload_n 0, 1) := by decide +kernel
theorem dX0_passOn_1 : decode cX0_passOn 1 = .ok (.getfield 30, 3) := by decide +kernel
theorem dX0_passOn_4 : decode cX0_passOn 4 = .ok (.iload_n 1, 1) := by decide +kernel
theorem dX0_passOn_5 : decode cX0_passOn 5 = .ok (.iaload, 1) := by decide +kernel
theorem dX0_passOn_6 : decode cX0_passOn 6 = .ok (.istore_n 3, 1) := by decide +kernel
theorem dX0_passOn_7 : decode cX0_passOn 7 = .ok (.iload_n 3, 1) := by decide +kernel
theorem dX0_passOn_8 : decode cX0_passOn 8 = .ok (.iconst 5, 1) := by decide +kernel
theorem dX0_passOn_9 : decode cX0_passOn 9 = .ok (.if_icmp .lt 4, 3) := by decide +kernel
theorem dX0_passOn_12 : decode cX0_passOn 12 = .ok (.return_, 1) := by decide +kernel
theorem dX0_passOn_13 : decode cX0_passOn 13 = .ok (.aload_n 0, 1) := by decide +kernel
theorem dX0_passOn_14 : decode cX0_passOn 14 = .ok (.getfield 27, 3) := by decide +kernel
theorem dX0_passOn_17 : decode cX0_passOn 17 = .ok (.iload_n 1, 1) := by decide +kernel
theorem dX0_passOn_18 : decode cX0_passOn 18 = .ok (.iconst 5, 1) := by decide +kernel
theorem dX0_passOn_19 : decode cX0_passOn 19 = .ok (.imul, 1) := by decide +kernel
theorem dX0_passOn_20 : decode cX0_passOn 20 = .ok (.iload_n 3, 1) := by decide +kernel
theorem dX0_passOn_21 : decode cX0_passOn 21 = .ok (.iadd, 1) := by decide +kernel
theorem dX0_passOn_22 : decode cX0_passOn 22 = .ok (.aload_n 0, 1) := by decide +kernel
theorem dX0_passOn_23 : decode cX0_passOn 23 = .ok (.getfield 24, 3) := by decide +kernel
theorem dX0_passOn_26 : decode cX0_passOn 26 = .ok (.iload_n 1, 1) := by decide +kernel
theorem dX0_passOn_27 : decode cX0_passOn 27 = .ok (.iaload, 1) := by decide +kernel
theorem dX0_passOn_28 : decode cX0_passOn 28 = .ok (.iastore, 1) := by decide +kernel
theorem dX0_passOn_29 : decode cX0_passOn 29 = .ok (.aload_n 0, 1) := by decide +kernel
theorem dX0_passOn_30 : decode cX0_passOn 30 = .ok (.getfield 30, 3) := by decide +kernel
theorem dX0_passOn_33 : decode cX0_passOn 33 = .ok (.iload_n 1, 1) := by decide +kernel
theorem dX0_passOn_34 : decode cX0_passOn 34 = .ok (.dup2, 1) := by decide +kernel
theorem dX0_passOn_35 : decode cX0_passOn 35 = .ok (.iaload, 1) := by decide +kernel
theorem dX0_passOn_36 : decode cX0_passOn 36 = .ok (.iconst 1, 1) := by decide +kernel
theorem dX0_passOn_37 : decode cX0_passOn 37 = .ok (.iadd, 1) := by decide +kernel
theorem dX0_passOn_38 : decode cX0_passOn 38 = .ok (.iastore, 1) := by decide +kernel
theorem dX0_passOn_39 : decode cX0_passOn 39 = .ok (.aload_n 0, 1) := by decide +kernel
theorem dX0_passOn_40 : decode cX0_passOn 40 = .ok (.getfield 24, 3) := by decide +kernel
theorem dX0_passOn_43 : decode cX0_passOn 43 = .ok (.iload_n 1, 1) := by decide +kernel
theorem dX0_passOn_44 : decode cX0_passOn 44 = .ok (.iload_n 2, 1) := by decide +kernel
theorem dX0_passOn_45 : decode cX0_passOn 45 = .ok (.iastore, 1) := by decide +kernel
theorem dX0_passOn_46 : decode cX0_passOn 46 = .ok (.return_, 1) := by decide +kernel
theorem dX0_end_0 : decode cX0_end 0 = .ok (.aload_n 0, 1) := by decide +kernel
theorem dX0_end_1 : decode cX0_end 1 = .ok (.getfield 24, 3) := by decide +kernel
theorem dX0_end_4 : decode cX0_end 4 = .ok (.iload_n 1, 1) := by decide +kernel
theorem dX0_end_5 : decode cX0_end 5 = .ok (.iconst (-1), 1) := by decide +kernel
theorem dX0_end_6 : decode cX0_end 6 = .ok (.iastore, 1) := by decide +kernel
theorem dX0_end_7 : decode cX0_end 7 = .ok (.return_, 1) := by decide +kernel
theorem dX0_beginDay_0 : decode cX0_beginDay 0 = .ok (.aload_n 0, 1) := by decide +kernel
theorem dX0_beginDay_1 : decode cX0_beginDay 1 = .ok (.dup, 1) := by decide +kernel
theorem dX0_beginDay_2 : decode cX0_beginDay 2 = .ok (.getfield 37, 3) := by decide +kernel
theorem dX0_beginDay_5 : decode cX0_beginDay 5 = .ok (.iconst 1, 1) := by decide +kernel
theorem dX0_beginDay_6 : decode cX0_beginDay 6 = .ok (.iadd, 1) := by decide +kernel
theorem dX0_beginDay_7 : decode cX0_beginDay 7 = .ok (.putfield 37, 3) := by decide +kernel
theorem dX0_beginDay_10 : decode cX0_beginDay 10 = .ok (.return_, 1) := by decide +kernel
theorem dX0_isDueToday_0 : decode cX0_isDueToday 0 = .ok (.aload_n 0, 1) := by decide +kernel
theorem dX0_isDueToday_1 : decode cX0_isDueToday 1 = .ok (.getfield 21, 3) := by decide +kernel
theorem dX0_isDueToday_4 : decode cX0_isDueToday 4 = .ok (.iload_n 1, 1) := by decide +kernel
theorem dX0_isDueToday_5 : decode cX0_isDueToday 5 = .ok (.iaload, 1) := by decide +kernel
theorem dX0_isDueToday_6 : decode cX0_isDueToday 6 = .ok (.aload_n 0, 1) := by decide +kernel
theorem dX0_isDueToday_7 : decode cX0_isDueToday 7 = .ok (.getfield 37, 3) := by decide +kernel
theorem dX0_isDueToday_10 : decode cX0_isDueToday 10 = .ok (.if_icmp .ne 7, 3) := by decide +kernel
theorem dX0_isDueToday_13 : decode cX0_isDueToday 13 = .ok (.iconst 1, 1) := by decide +kernel
theorem dX0_isDueToday_14 : decode cX0_isDueToday 14 = .ok (.goto 4, 3) := by decide +kernel
theorem dX0_isDueToday_17 : decode cX0_isDueToday 17 = .ok (.iconst 0, 1) := by decide +kernel
theorem dX0_isDueToday_18 : decode cX0_isDueToday 18 = .ok (.ireturn, 1) := by decide +kernel
theorem dX0_holder_0 : decode cX0_holder 0 = .ok (.aload_n 0, 1) := by decide +kernel
theorem dX0_holder_1 : decode cX0_holder 1 = .ok (.getfield 24, 3) := by decide +kernel
theorem dX0_holder_4 : decode cX0_holder 4 = .ok (.iload_n 1, 1) := by decide +kernel
theorem dX0_holder_5 : decode cX0_holder 5 = .ok (.iaload, 1) := by decide +kernel
theorem dX0_holder_6 : decode cX0_holder 6 = .ok (.ireturn, 1) := by decide +kernel
theorem dX0_amount_0 : decode cX0_amount 0 = .ok (.aload_n 0, 1) := by decide +kernel
theorem dX0_amount_1 : decode cX0_amount 1 = .ok (.getfield 18, 3) := by decide +kernel
theorem dX0_amount_4 : decode cX0_amount 4 = .ok (.iload_n 1, 1) := by decide +kernel
theorem dX0_amount_5 : decode cX0_amount 5 = .ok (.iaload, 1) := by decide +kernel
theorem dX0_amount_6 : decode cX0_amount 6 = .ok (.ireturn, 1) := by decide +kernel
theorem dX0_endorsements_0 : decode cX0_endorsements 0 = .ok (.aload_n 0, 1) := by decide +kernel
theorem dX0_endorsements_1 : decode cX0_endorsements 1 = .ok (.getfield 30, 3) := by decide +kernel
theorem dX0_endorsements_4 : decode cX0_endorsements 4 = .ok (.iload_n 1, 1) := by decide +kernel
theorem dX0_endorsements_5 : decode cX0_endorsements 5 = .ok (.iaload, 1) := by decide +kernel
theorem dX0_endorsements_6 : decode cX0_endorsements 6 = .ok (.ireturn, 1) := by decide +kernel
theorem dX0_liableCount_0 : decode cX0_liableCount 0 = .ok (.iconst 2, 1) := by decide +kernel
theorem dX0_liableCount_1 : decode cX0_liableCount 1 = .ok (.aload_n 0, 1) := by decide +kernel
theorem dX0_liableCount_2 : decode cX0_liableCount 2 = .ok (.getfield 30, 3) := by decide +kernel
theorem dX0_liableCount_5 : decode cX0_liableCount 5 = .ok (.iload_n 1, 1) := by decide +kernel
theorem dX0_liableCount_6 : decode cX0_liableCount 6 = .ok (.iaload, 1) := by decide +kernel
theorem dX0_liableCount_7 : decode cX0_liableCount 7 = .ok (.iadd, 1) := by decide +kernel
theorem dX0_liableCount_8 : decode cX0_liableCount 8 = .ok (.ireturn, 1) := by decide +kernel
theorem dX0_liable_0 : decode cX0_liable 0 = .ok (.iload_n 2, 1) := by decide +kernel
theorem dX0_liable_1 : decode cX0_liable 1 = .ok (.ifCond .ne 10, 3) := by decide +kernel
theorem dX0_liable_4 : decode cX0_liable 4 = .ok (.aload_n 0, 1) := by decide +kernel
theorem dX0_liable_5 : decode cX0_liable 5 = .ok (.getfield 15, 3) := by decide +kernel
theorem dX0_liable_8 : decode cX0_liable 8 = .ok (.iload_n 1, 1) := by decide +kernel
theorem dX0_liable_9 : decode cX0_liable 9 = .ok (.iaload, 1) := by decide +kernel
theorem dX0_liable_10 : decode cX0_liable 10 = .ok (.ireturn, 1) := by decide +kernel
theorem dX0_liable_11 : decode cX0_liable 11 = .ok (.iload_n 2, 1) := by decide +kernel
theorem dX0_liable_12 : decode cX0_liable 12 = .ok (.iconst 1, 1) := by decide +kernel
theorem dX0_liable_13 : decode cX0_liable 13 = .ok (.if_icmp .ne 10, 3) := by decide +kernel
theorem dX0_liable_16 : decode cX0_liable 16 = .ok (.aload_n 0, 1) := by decide +kernel
theorem dX0_liable_17 : decode cX0_liable 17 = .ok (.getfield 9, 3) := by decide +kernel
theorem dX0_liable_20 : decode cX0_liable 20 = .ok (.iload_n 1, 1) := by decide +kernel
theorem dX0_liable_21 : decode cX0_liable 21 = .ok (.iaload, 1) := by decide +kernel
theorem dX0_liable_22 : decode cX0_liable 22 = .ok (.ireturn, 1) := by decide +kernel
theorem dX0_liable_23 : decode cX0_liable 23 = .ok (.aload_n 0, 1) := by decide +kernel
theorem dX0_liable_24 : decode cX0_liable 24 = .ok (.getfield 27, 3) := by decide +kernel
theorem dX0_liable_27 : decode cX0_liable 27 = .ok (.iload_n 1, 1) := by decide +kernel
theorem dX0_liable_28 : decode cX0_liable 28 = .ok (.iconst 5, 1) := by decide +kernel
theorem dX0_liable_29 : decode cX0_liable 29 = .ok (.imul, 1) := by decide +kernel
theorem dX0_liable_30 : decode cX0_liable 30 = .ok (.aload_n 0, 1) := by decide +kernel
theorem dX0_liable_31 : decode cX0_liable 31 = .ok (.getfield 30, 3) := by decide +kernel
theorem dX0_liable_34 : decode cX0_liable 34 = .ok (.iload_n 1, 1) := by decide +kernel
theorem dX0_liable_35 : decode cX0_liable 35 = .ok (.iaload, 1) := by decide +kernel
theorem dX0_liable_36 : decode cX0_liable 36 = .ok (.iadd, 1) := by decide +kernel
theorem dX0_liable_37 : decode cX0_liable 37 = .ok (.iconst 1, 1) := by decide +kernel
theorem dX0_liable_38 : decode cX0_liable 38 = .ok (.iadd, 1) := by decide +kernel
theorem dX0_liable_39 : decode cX0_liable 39 = .ok (.iload_n 2, 1) := by decide +kernel
theorem dX0_liable_40 : decode cX0_liable 40 = .ok (.isub, 1) := by decide +kernel
theorem dX0_liable_41 : decode cX0_liable 41 = .ok (.iaload, 1) := by decide +kernel
theorem dX0_liable_42 : decode cX0_liable 42 = .ok (.ireturn, 1) := by decide +kernel
theorem dX1_init_0 : decode cX1_init 0 = .ok (.aload_n 0, 1) := by decide +kernel
theorem dX1_init_1 : decode cX1_init 1 = .ok (.invokespecial 3, 3) := by decide +kernel
theorem dX1_init_4 : decode cX1_init 4 = .ok (.aload_n 0, 1) := by decide +kernel
theorem dX1_init_5 : decode cX1_init 5 = .ok (.bipush 36, 2) := by decide +kernel
theorem dX1_init_7 : decode cX1_init 7 = .ok (.newarray .int, 2) := by decide +kernel
theorem dX1_init_9 : decode cX1_init 9 = .ok (.putfield 9, 3) := by decide +kernel
theorem dX1_init_12 : decode cX1_init 12 = .ok (.return_, 1) := by decide +kernel
theorem dX1_amount_0 : decode cX1_amount 0 = .ok (.aload_n 0, 1) := by decide +kernel
theorem dX1_amount_1 : decode cX1_amount 1 = .ok (.getfield 9, 3) := by decide +kernel
theorem dX1_amount_4 : decode cX1_amount 4 = .ok (.iload_n 1, 1) := by decide +kernel
theorem dX1_amount_5 : decode cX1_amount 5 = .ok (.bipush 6, 2) := by decide +kernel
theorem dX1_amount_7 : decode cX1_amount 7 = .ok (.imul, 1) := by decide +kernel
theorem dX1_amount_8 : decode cX1_amount 8 = .ok (.iload_n 2, 1) := by decide +kernel
theorem dX1_amount_9 : decode cX1_amount 9 = .ok (.iadd, 1) := by decide +kernel
theorem dX1_amount_10 : decode cX1_amount 10 = .ok (.iaload, 1) := by decide +kernel
theorem dX1_amount_11 : decode cX1_amount 11 = .ok (.ireturn, 1) := by decide +kernel
theorem dX1_add_0 : decode cX1_add 0 = .ok (.aload_n 0, 1) := by decide +kernel
theorem dX1_add_1 : decode cX1_add 1 = .ok (.getfield 9, 3) := by decide +kernel
theorem dX1_add_4 : decode cX1_add 4 = .ok (.iload_n 1, 1) := by decide +kernel
theorem dX1_add_5 : decode cX1_add 5 = .ok (.bipush 6, 2) := by decide +kernel
theorem dX1_add_7 : decode cX1_add 7 = .ok (.imul, 1) := by decide +kernel
theorem dX1_add_8 : decode cX1_add 8 = .ok (.iload_n 2, 1) := by decide +kernel
theorem dX1_add_9 : decode cX1_add 9 = .ok (.iadd, 1) := by decide +kernel
theorem dX1_add_10 : decode cX1_add 10 = .ok (.dup2, 1) := by decide +kernel
theorem dX1_add_11 : decode cX1_add 11 = .ok (.iaload, 1) := by decide +kernel
theorem dX1_add_12 : decode cX1_add 12 = .ok (.iload_n 3, 1) := by decide +kernel
theorem dX1_add_13 : decode cX1_add 13 = .ok (.iadd, 1) := by decide +kernel
theorem dX1_add_14 : decode cX1_add 14 = .ok (.iastore, 1) := by decide +kernel
theorem dX1_add_15 : decode cX1_add 15 = .ok (.return_, 1) := by decide +kernel
theorem dX1_sumOf_0 : decode cX1_sumOf 0 = .ok (.lconst 0, 1) := by decide +kernel
theorem dX1_sumOf_1 : decode cX1_sumOf 1 = .ok (.lstore_n 2, 1) := by decide +kernel
theorem dX1_sumOf_2 : decode cX1_sumOf 2 = .ok (.iconst 0, 1) := by decide +kernel
theorem dX1_sumOf_3 : decode cX1_sumOf 3 = .ok (.istore 4, 2) := by decide +kernel
theorem dX1_sumOf_5 : decode cX1_sumOf 5 = .ok (.iload 4, 2) := by decide +kernel
theorem dX1_sumOf_7 : decode cX1_sumOf 7 = .ok (.bipush 6, 2) := by decide +kernel
theorem dX1_sumOf_9 : decode cX1_sumOf 9 = .ok (.if_icmp .ge 20, 3) := by decide +kernel
theorem dX1_sumOf_12 : decode cX1_sumOf 12 = .ok (.lload_n 2, 1) := by decide +kernel
theorem dX1_sumOf_13 : decode cX1_sumOf 13 = .ok (.aload_n 0, 1) := by decide +kernel
theorem dX1_sumOf_14 : decode cX1_sumOf 14 = .ok (.iload_n 1, 1) := by decide +kernel
theorem dX1_sumOf_15 : decode cX1_sumOf 15 = .ok (.iload 4, 2) := by decide +kernel
theorem dX1_sumOf_17 : decode cX1_sumOf 17 = .ok (.invokevirtual 15, 3) := by decide +kernel
theorem dX1_sumOf_20 : decode cX1_sumOf 20 = .ok (.i2l, 1) := by decide +kernel
theorem dX1_sumOf_21 : decode cX1_sumOf 21 = .ok (.ladd, 1) := by decide +kernel
theorem dX1_sumOf_22 : decode cX1_sumOf 22 = .ok (.lstore_n 2, 1) := by decide +kernel
theorem dX1_sumOf_23 : decode cX1_sumOf 23 = .ok (.iinc 4 1, 3) := by decide +kernel
theorem dX1_sumOf_26 : decode cX1_sumOf 26 = .ok (.goto (-21), 3) := by decide +kernel
theorem dX1_sumOf_29 : decode cX1_sumOf 29 = .ok (.lload_n 2, 1) := by decide +kernel
theorem dX1_sumOf_30 : decode cX1_sumOf 30 = .ok (.lreturn, 1) := by decide +kernel
theorem dX1_sumOn_0 : decode cX1_sumOn 0 = .ok (.lconst 0, 1) := by decide +kernel
theorem dX1_sumOn_1 : decode cX1_sumOn 1 = .ok (.lstore_n 2, 1) := by decide +kernel
theorem dX1_sumOn_2 : decode cX1_sumOn 2 = .ok (.iconst 0, 1) := by decide +kernel
theorem dX1_sumOn_3 : decode cX1_sumOn 3 = .ok (.istore 4, 2) := by decide +kernel
theorem dX1_sumOn_5 : decode cX1_sumOn 5 = .ok (.iload 4, 2) := by decide +kernel
theorem dX1_sumOn_7 : decode cX1_sumOn 7 = .ok (.bipush 6, 2) := by decide +kernel
theorem dX1_sumOn_9 : decode cX1_sumOn 9 = .ok (.if_icmp .ge 20, 3) := by decide +kernel
theorem dX1_sumOn_12 : decode cX1_sumOn 12 = .ok (.lload_n 2, 1) := by decide +kernel
theorem dX1_sumOn_13 : decode cX1_sumOn 13 = .ok (.aload_n 0, 1) := by decide +kernel
theorem dX1_sumOn_14 : decode cX1_sumOn 14 = .ok (.iload 4, 2) := by decide +kernel
theorem dX1_sumOn_16 : decode cX1_sumOn 16 = .ok (.iload_n 1, 1) := by decide +kernel
theorem dX1_sumOn_17 : decode cX1_sumOn 17 = .ok (.invokevirtual 15, 3) := by decide +kernel
theorem dX1_sumOn_20 : decode cX1_sumOn 20 = .ok (.i2l, 1) := by decide +kernel
theorem dX1_sumOn_21 : decode cX1_sumOn 21 = .ok (.ladd, 1) := by decide +kernel
theorem dX1_sumOn_22 : decode cX1_sumOn 22 = .ok (.lstore_n 2, 1) := by decide +kernel
theorem dX1_sumOn_23 : decode cX1_sumOn 23 = .ok (.iinc 4 1, 3) := by decide +kernel
theorem dX1_sumOn_26 : decode cX1_sumOn 26 = .ok (.goto (-21), 3) := by decide +kernel
theorem dX1_sumOn_29 : decode cX1_sumOn 29 = .ok (.lload_n 2, 1) := by decide +kernel
theorem dX1_sumOn_30 : decode cX1_sumOn 30 = .ok (.lreturn, 1) := by decide +kernel
theorem dX1_leastOf_0 : decode cX1_leastOf 0 = .ok (.aload_n 0, 1) := by decide +kernel
theorem dX1_leastOf_1 : decode cX1_leastOf 1 = .ok (.iload_n 1, 1) := by decide +kernel
theorem dX1_leastOf_2 : decode cX1_leastOf 2 = .ok (.iconst 0, 1) := by decide +kernel
theorem dX1_leastOf_3 : decode cX1_leastOf 3 = .ok (.invokevirtual 15, 3) := by decide +kernel
theorem dX1_leastOf_6 : decode cX1_leastOf 6 = .ok (.istore_n 2, 1) := by decide +kernel
theorem dX1_leastOf_7 : decode cX1_leastOf 7 = .ok (.iconst 1, 1) := by decide +kernel
theorem dX1_leastOf_8 : decode cX1_leastOf 8 = .ok (.istore_n 3, 1) := by decide +kernel
theorem dX1_leastOf_9 : decode cX1_leastOf 9 = .ok (.iload_n 3, 1) := by decide +kernel
theorem dX1_leastOf_10 : decode cX1_leastOf 10 = .ok (.bipush 6, 2) := by decide +kernel
theorem dX1_leastOf_12 : decode cX1_leastOf 12 = .ok (.if_icmp .ge 20, 3) := by decide +kernel
theorem dX1_leastOf_15 : decode cX1_leastOf 15 = .ok (.iload_n 2, 1) := by decide +kernel
theorem dX1_leastOf_16 : decode cX1_leastOf 16 = .ok (.aload_n 0, 1) := by decide +kernel
theorem dX1_leastOf_17 : decode cX1_leastOf 17 = .ok (.iload_n 1, 1) := by decide +kernel
theorem dX1_leastOf_18 : decode cX1_leastOf 18 = .ok (.iload_n 3, 1) := by decide +kernel
theorem dX1_leastOf_19 : decode cX1_leastOf 19 = .ok (.invokevirtual 15, 3) := by decide +kernel
theorem dX1_leastOf_22 : decode cX1_leastOf 22 = .ok (.invokestatic 19, 3) := by decide +kernel
theorem dX1_leastOf_25 : decode cX1_leastOf 25 = .ok (.istore_n 2, 1) := by decide +kernel
theorem dX1_leastOf_26 : decode cX1_leastOf 26 = .ok (.iinc 3 1, 3) := by decide +kernel
theorem dX1_leastOf_29 : decode cX1_leastOf 29 = .ok (.goto (-20), 3) := by decide +kernel
theorem dX1_leastOf_32 : decode cX1_leastOf 32 = .ok (.iload_n 2, 1) := by decide +kernel
theorem dX1_leastOf_33 : decode cX1_leastOf 33 = .ok (.ireturn, 1) := by decide +kernel
theorem dX1_greatestCreditor_0 : decode cX1_greatestCreditor 0 = .ok (.iconst (-1), 1) := by decide +kernel
theorem dX1_greatestCreditor_1 : decode cX1_greatestCreditor 1 = .ok (.istore_n 2, 1) := by decide +kernel
theorem dX1_greatestCreditor_2 : decode cX1_greatestCreditor 2 = .ok (.iconst 0, 1) := by decide +kernel
theorem dX1_greatestCreditor_3 : decode cX1_greatestCreditor 3 = .ok (.istore_n 3, 1) := by decide +kernel
theorem dX1_greatestCreditor_4 : decode cX1_greatestCreditor 4 = .ok (.iconst 0, 1) := by decide +kernel
theorem dX1_greatestCreditor_5 : decode cX1_greatestCreditor 5 = .ok (.istore 4, 2) := by decide +kernel
theorem dX1_greatestCreditor_7 : decode cX1_greatestCreditor 7 = .ok (.iload 4, 2) := by decide +kernel
theorem dX1_greatestCreditor_9 : decode cX1_greatestCreditor 9 = .ok (.bipush 6, 2) := by decide +kernel
theorem dX1_greatestCreditor_11 : decode cX1_greatestCreditor 11 = .ok (.if_icmp .ge 31, 3) := by decide +kernel
theorem dX1_greatestCreditor_14 : decode cX1_greatestCreditor 14 = .ok (.aload_n 0, 1) := by decide +kernel
theorem dX1_greatestCreditor_15 : decode cX1_greatestCreditor 15 = .ok (.iload 4, 2) := by decide +kernel
theorem dX1_greatestCreditor_17 : decode cX1_greatestCreditor 17 = .ok (.iload_n 1, 1) := by decide +kernel
theorem dX1_greatestCreditor_18 : decode cX1_greatestCreditor 18 = .ok (.invokevirtual 15, 3) := by decide +kernel
theorem dX1_greatestCreditor_21 : decode cX1_greatestCreditor 21 = .ok (.iload_n 3, 1) := by decide +kernel
theorem dX1_greatestCreditor_22 : decode cX1_greatestCreditor 22 = .ok (.if_icmp .le 14, 3) := by decide +kernel
theorem dX1_greatestCreditor_25 : decode cX1_greatestCreditor 25 = .ok (.iload 4, 2) := by decide +kernel
theorem dX1_greatestCreditor_27 : decode cX1_greatestCreditor 27 = .ok (.istore_n 2, 1) := by decide +kernel
theorem dX1_greatestCreditor_28 : decode cX1_greatestCreditor 28 = .ok (.aload_n 0, 1) := by decide +kernel
theorem dX1_greatestCreditor_29 : decode cX1_greatestCreditor 29 = .ok (.iload 4, 2) := by decide +kernel
theorem dX1_greatestCreditor_31 : decode cX1_greatestCreditor 31 = .ok (.iload_n 1, 1) := by decide +kernel
theorem dX1_greatestCreditor_32 : decode cX1_greatestCreditor 32 = .ok (.invokevirtual 15, 3) := by decide +kernel
theorem dX1_greatestCreditor_35 : decode cX1_greatestCreditor 35 = .ok (.istore_n 3, 1) := by decide +kernel
theorem dX1_greatestCreditor_36 : decode cX1_greatestCreditor 36 = .ok (.iinc 4 1, 3) := by decide +kernel
theorem dX1_greatestCreditor_39 : decode cX1_greatestCreditor 39 = .ok (.goto (-32), 3) := by decide +kernel
theorem dX1_greatestCreditor_42 : decode cX1_greatestCreditor 42 = .ok (.iload_n 2, 1) := by decide +kernel
theorem dX1_greatestCreditor_43 : decode cX1_greatestCreditor 43 = .ok (.ireturn, 1) := by decide +kernel
theorem dX1_dropOn_0 : decode cX1_dropOn 0 = .ok (.aload_n 0, 1) := by decide +kernel
theorem dX1_dropOn_1 : decode cX1_dropOn 1 = .ok (.iload_n 1, 1) := by decide +kernel
theorem dX1_dropOn_2 : decode cX1_dropOn 2 = .ok (.invokevirtual 24, 3) := by decide +kernel
theorem dX1_dropOn_5 : decode cX1_dropOn 5 = .ok (.lstore_n 2, 1) := by decide +kernel
theorem dX1_dropOn_6 : decode cX1_dropOn 6 = .ok (.iconst 0, 1) := by decide +kernel
theorem dX1_dropOn_7 : decode cX1_dropOn 7 = .ok (.istore 4, 2) := by decide +kernel
theorem dX1_dropOn_9 : decode cX1_dropOn 9 = .ok (.iload 4, 2) := by decide +kernel
theorem dX1_dropOn_11 : decode cX1_dropOn 11 = .ok (.bipush 6, 2) := by decide +kernel
theorem dX1_dropOn_13 : decode cX1_dropOn 13 = .ok (.if_icmp .ge 22, 3) := by decide +kernel
theorem dX1_dropOn_16 : decode cX1_dropOn 16 = .ok (.aload_n 0, 1) := by decide +kernel
theorem dX1_dropOn_17 : decode cX1_dropOn 17 = .ok (.getfield 9, 3) := by decide +kernel
theorem dX1_dropOn_20 : decode cX1_dropOn 20 = .ok (.iload 4, 2) := by decide +kernel
theorem dX1_dropOn_22 : decode cX1_dropOn 22 = .ok (.bipush 6, 2) := by decide +kernel
theorem dX1_dropOn_24 : decode cX1_dropOn 24 = .ok (.imul, 1) := by decide +kernel
theorem dX1_dropOn_25 : decode cX1_dropOn 25 = .ok (.iload_n 1, 1) := by decide +kernel
theorem dX1_dropOn_26 : decode cX1_dropOn 26 = .ok (.iadd, 1) := by decide +kernel
theorem dX1_dropOn_27 : decode cX1_dropOn 27 = .ok (.iconst 0, 1) := by decide +kernel
theorem dX1_dropOn_28 : decode cX1_dropOn 28 = .ok (.iastore, 1) := by decide +kernel
theorem dX1_dropOn_29 : decode cX1_dropOn 29 = .ok (.iinc 4 1, 3) := by decide +kernel
theorem dX1_dropOn_32 : decode cX1_dropOn 32 = .ok (.goto (-23), 3) := by decide +kernel
theorem dX1_dropOn_35 : decode cX1_dropOn 35 = .ok (.lload_n 2, 1) := by decide +kernel
theorem dX1_dropOn_36 : decode cX1_dropOn 36 = .ok (.lreturn, 1) := by decide +kernel
theorem dX1_leaveToCrown_0 : decode cX1_leaveToCrown 0 = .ok (.iconst 0, 1) := by decide +kernel
theorem dX1_leaveToCrown_1 : decode cX1_leaveToCrown 1 = .ok (.istore_n 2, 1) := by decide +kernel
theorem dX1_leaveToCrown_2 : decode cX1_leaveToCrown 2 = .ok (.iload_n 2, 1) := by decide +kernel
theorem dX1_leaveToCrown_3 : decode cX1_leaveToCrown 3 = .ok (.bipush 6, 2) := by decide +kernel
theorem dX1_leaveToCrown_5 : decode cX1_leaveToCrown 5 = .ok (.if_icmp .ge 37, 3) := by decide +kernel
theorem dX1_leaveToCrown_8 : decode cX1_leaveToCrown 8 = .ok (.iload_n 2, 1) := by decide +kernel
theorem dX1_leaveToCrown_9 : decode cX1_leaveToCrown 9 = .ok (.ifCond .eq 15, 3) := by decide +kernel
theorem dX1_leaveToCrown_12 : decode cX1_leaveToCrown 12 = .ok (.aload_n 0, 1) := by decide +kernel
theorem dX1_leaveToCrown_13 : decode cX1_leaveToCrown 13 = .ok (.iconst 0, 1) := by decide +kernel
theorem dX1_leaveToCrown_14 : decode cX1_leaveToCrown 14 = .ok (.iload_n 2, 1) := by decide +kernel
theorem dX1_leaveToCrown_15 : decode cX1_leaveToCrown 15 = .ok (.aload_n 0, 1) := by decide +kernel
theorem dX1_leaveToCrown_16 : decode cX1_leaveToCrown 16 = .ok (.iload_n 1, 1) := by decide +kernel
theorem dX1_leaveToCrown_17 : decode cX1_leaveToCrown 17 = .ok (.iload_n 2, 1) := by decide +kernel
theorem dX1_leaveToCrown_18 : decode cX1_leaveToCrown 18 = .ok (.invokevirtual 15, 3) := by decide +kernel
theorem dX1_leaveToCrown_21 : decode cX1_leaveToCrown 21 = .ok (.invokevirtual 28, 3) := by decide +kernel
theorem dX1_leaveToCrown_24 : decode cX1_leaveToCrown 24 = .ok (.aload_n 0, 1) := by decide +kernel
theorem dX1_leaveToCrown_25 : decode cX1_leaveToCrown 25 = .ok (.getfield 9, 3) := by decide +kernel
theorem dX1_leaveToCrown_28 : decode cX1_leaveToCrown 28 = .ok (.iload_n 1, 1) := by decide +kernel
theorem dX1_leaveToCrown_29 : decode cX1_leaveToCrown 29 = .ok (.bipush 6, 2) := by decide +kernel
theorem dX1_leaveToCrown_31 : decode cX1_leaveToCrown 31 = .ok (.imul, 1) := by decide +kernel
theorem dX1_leaveToCrown_32 : decode cX1_leaveToCrown 32 = .ok (.iload_n 2, 1) := by decide +kernel
theorem dX1_leaveToCrown_33 : decode cX1_leaveToCrown 33 = .ok (.iadd, 1) := by decide +kernel
theorem dX1_leaveToCrown_34 : decode cX1_leaveToCrown 34 = .ok (.iconst 0, 1) := by decide +kernel
theorem dX1_leaveToCrown_35 : decode cX1_leaveToCrown 35 = .ok (.iastore, 1) := by decide +kernel
theorem dX1_leaveToCrown_36 : decode cX1_leaveToCrown 36 = .ok (.iinc 2 1, 3) := by decide +kernel
theorem dX1_leaveToCrown_39 : decode cX1_leaveToCrown 39 = .ok (.goto (-37), 3) := by decide +kernel
theorem dX1_leaveToCrown_42 : decode cX1_leaveToCrown 42 = .ok (.return_, 1) := by decide +kernel
theorem dX2_init_0 : decode cX2_init 0 = .ok (.aload_n 0, 1) := by decide +kernel
theorem dX2_init_1 : decode cX2_init 1 = .ok (.invokespecial 3, 3) := by decide +kernel
theorem dX2_init_4 : decode cX2_init 4 = .ok (.aload_n 0, 1) := by decide +kernel
theorem dX2_init_5 : decode cX2_init 5 = .ok (.bipush 90, 2) := by decide +kernel
theorem dX2_init_7 : decode cX2_init 7 = .ok (.newarray .int, 2) := by decide +kernel
theorem dX2_init_9 : decode cX2_init 9 = .ok (.putfield 9, 3) := by decide +kernel
theorem dX2_init_12 : decode cX2_init 12 = .ok (.aload_n 0, 1) := by decide +kernel
theorem dX2_init_13 : decode cX2_init 13 = .ok (.bipush 90, 2) := by decide +kernel
theorem dX2_init_15 : decode cX2_init 15 = .ok (.newarray .int, 2) := by decide +kernel
theorem dX2_init_17 : decode cX2_init 17 = .ok (.putfield 15, 3) := by decide +kernel
theorem dX2_init_20 : decode cX2_init 20 = .ok (.aload_n 0, 1) := by decide +kernel
theorem dX2_init_21 : decode cX2_init 21 = .ok (.bipush 90, 2) := by decide +kernel
theorem dX2_init_23 : decode cX2_init 23 = .ok (.newarray .int, 2) := by decide +kernel
theorem dX2_init_25 : decode cX2_init 25 = .ok (.putfield 18, 3) := by decide +kernel
theorem dX2_init_28 : decode cX2_init 28 = .ok (.aload_n 0, 1) := by decide +kernel
theorem dX2_init_29 : decode cX2_init 29 = .ok (.bipush 90, 2) := by decide +kernel
theorem dX2_init_31 : decode cX2_init 31 = .ok (.newarray .int, 2) := by decide +kernel
theorem dX2_init_33 : decode cX2_init 33 = .ok (.putfield 21, 3) := by decide +kernel
theorem dX2_init_36 : decode cX2_init 36 = .ok (.aload_n 0, 1) := by decide +kernel
theorem dX2_init_37 : decode cX2_init 37 = .ok (.bipush 90, 2) := by decide +kernel
theorem dX2_init_39 : decode cX2_init 39 = .ok (.newarray .boolean, 2) := by decide +kernel
theorem dX2_init_41 : decode cX2_init 41 = .ok (.putfield 24, 3) := by decide +kernel
theorem dX2_init_44 : decode cX2_init 44 = .ok (.aload_n 0, 1) := by decide +kernel
theorem dX2_init_45 : decode cX2_init 45 = .ok (.bipush 90, 2) := by decide +kernel
theorem dX2_init_47 : decode cX2_init 47 = .ok (.newarray .int, 2) := by decide +kernel
theorem dX2_init_49 : decode cX2_init 49 = .ok (.putfield 28, 3) := by decide +kernel
theorem dX2_init_52 : decode cX2_init 52 = .ok (.return_, 1) := by decide +kernel
theorem dX2_count_0 : decode cX2_count 0 = .ok (.aload_n 0, 1) := by decide +kernel
theorem dX2_count_1 : decode cX2_count 1 = .ok (.getfield 31, 3) := by decide +kernel
theorem dX2_count_4 : decode cX2_count 4 = .ok (.ireturn, 1) := by decide +kernel
theorem dX2_numbersLeft_0 : decode cX2_numbersLeft 0 = .ok (.bipush 90, 2) := by decide +kernel
theorem dX2_numbersLeft_2 : decode cX2_numbersLeft 2 = .ok (.aload_n 0, 1) := by decide +kernel
theorem dX2_numbersLeft_3 : decode cX2_numbersLeft 3 = .ok (.getfield 31, 3) := by decide +kernel
theorem dX2_numbersLeft_6 : decode cX2_numbersLeft 6 = .ok (.isub, 1) := by decide +kernel
theorem dX2_numbersLeft_7 : decode cX2_numbersLeft 7 = .ok (.ireturn, 1) := by decide +kernel
theorem dX2_add_0 : decode cX2_add 0 = .ok (.aload_n 0, 1) := by decide +kernel
theorem dX2_add_1 : decode cX2_add 1 = .ok (.getfield 31, 3) := by decide +kernel
theorem dX2_add_4 : decode cX2_add 4 = .ok (.bipush 90, 2) := by decide +kernel
theorem dX2_add_6 : decode cX2_add 6 = .ok (.if_icmp .lt 4, 3) := by decide +kernel
theorem dX2_add_9 : decode cX2_add 9 = .ok (.return_, 1) := by decide +kernel
theorem dX2_add_10 : decode cX2_add 10 = .ok (.aload_n 0, 1) := by decide +kernel
theorem dX2_add_11 : decode cX2_add 11 = .ok (.getfield 31, 3) := by decide +kernel
theorem dX2_add_14 : decode cX2_add 14 = .ok (.istore 4, 2) := by decide +kernel
theorem dX2_add_16 : decode cX2_add 16 = .ok (.aload_n 0, 1) := by decide +kernel
theorem dX2_add_17 : decode cX2_add 17 = .ok (.dup, 1) := by decide +kernel
theorem dX2_add_18 : decode cX2_add 18 = .ok (.getfield 31, 3) := by decide +kernel
theorem dX2_add_21 : decode cX2_add 21 = .ok (.iconst 1, 1) := by decide +kernel
theorem dX2_add_22 : decode cX2_add 22 = .ok (.iadd, 1) := by decide +kernel
theorem dX2_add_23 : decode cX2_add 23 = .ok (.putfield 31, 3) := by decide +kernel
theorem dX2_add_26 : decode cX2_add 26 = .ok (.aload_n 0, 1) := by decide +kernel
theorem dX2_add_27 : decode cX2_add 27 = .ok (.getfield 9, 3) := by decide +kernel
theorem dX2_add_30 : decode cX2_add 30 = .ok (.iload 4, 2) := by decide +kernel
theorem dX2_add_32 : decode cX2_add 32 = .ok (.iload_n 2, 1) := by decide +kernel
theorem dX2_add_33 : decode cX2_add 33 = .ok (.iastore, 1) := by decide +kernel
theorem dX2_add_34 : decode cX2_add 34 = .ok (.aload_n 0, 1) := by decide +kernel
theorem dX2_add_35 : decode cX2_add 35 = .ok (.getfield 15, 3) := by decide +kernel
theorem dX2_add_38 : decode cX2_add 38 = .ok (.iload 4, 2) := by decide +kernel
theorem dX2_add_40 : decode cX2_add 40 = .ok (.iload_n 3, 1) := by decide +kernel
theorem dX2_add_41 : decode cX2_add 41 = .ok (.iastore, 1) := by decide +kernel
theorem dX2_add_42 : decode cX2_add 42 = .ok (.aload_n 0, 1) := by decide +kernel
theorem dX2_add_43 : decode cX2_add 43 = .ok (.iload 4, 2) := by decide +kernel
theorem dX2_add_45 : decode cX2_add 45 = .ok (.iload_n 1, 1) := by decide +kernel
theorem dX2_add_46 : decode cX2_add 46 = .ok (.invokevirtual 35, 3) := by decide +kernel
theorem dX2_add_49 : decode cX2_add 49 = .ok (.return_, 1) := by decide +kernel
theorem dX2_give_0 : decode cX2_give 0 = .ok (.aload_n 0, 1) := by decide +kernel
theorem dX2_give_1 : decode cX2_give 1 = .ok (.getfield 18, 3) := by decide +kernel
theorem dX2_give_4 : decode cX2_give 4 = .ok (.iload_n 1, 1) := by decide +kernel
theorem dX2_give_5 : decode cX2_give 5 = .ok (.iload_n 2, 1) := by decide +kernel
theorem dX2_give_6 : decode cX2_give 6 = .ok (.iastore, 1) := by decide +kernel
theorem dX2_give_7 : decode cX2_give 7 = .ok (.aload_n 0, 1) := by decide +kernel
theorem dX2_give_8 : decode cX2_give 8 = .ok (.getfield 28, 3) := by decide +kernel
theorem dX2_give_11 : decode cX2_give 11 = .ok (.iload_n 1, 1) := by decide +kernel
theorem dX2_give_12 : decode cX2_give 12 = .ok (.iload_n 2, 1) := by decide +kernel
theorem dX2_give_13 : decode cX2_give 13 = .ok (.iastore, 1) := by decide +kernel
theorem dX2_give_14 : decode cX2_give 14 = .ok (.aload_n 0, 1) := by decide +kernel
theorem dX2_give_15 : decode cX2_give 15 = .ok (.getfield 21, 3) := by decide +kernel
theorem dX2_give_18 : decode cX2_give 18 = .ok (.iload_n 1, 1) := by decide +kernel
theorem dX2_give_19 : decode cX2_give 19 = .ok (.dup2, 1) := by decide +kernel
theorem dX2_give_20 : decode cX2_give 20 = .ok (.iaload, 1) := by decide +kernel
theorem dX2_give_21 : decode cX2_give 21 = .ok (.iconst 1, 1) := by decide +kernel
theorem dX2_give_22 : decode cX2_give 22 = .ok (.iadd, 1) := by decide +kernel
theorem dX2_give_23 : decode cX2_give 23 = .ok (.iastore, 1) := by decide +kernel
theorem dX2_give_24 : decode cX2_give 24 = .ok (.aload_n 0, 1) := by decide +kernel
theorem dX2_give_25 : decode cX2_give 25 = .ok (.getfield 24, 3) := by decide +kernel
theorem dX2_give_28 : decode cX2_give 28 = .ok (.iload_n 1, 1) := by decide +kernel
theorem dX2_give_29 : decode cX2_give 29 = .ok (.iconst 0, 1) := by decide +kernel
theorem dX2_give_30 : decode cX2_give 30 = .ok (.bastore, 1) := by decide +kernel
theorem dX2_give_31 : decode cX2_give 31 = .ok (.return_, 1) := by decide +kernel
theorem dX2_giveLightest_0 : decode cX2_giveLightest 0 = .ok (.iconst 0, 1) := by decide +kernel
theorem dX2_giveLightest_1 : decode cX2_giveLightest 1 = .ok (.istore 5, 2) := by decide +kernel
theorem dX2_giveLightest_3 : decode cX2_giveLightest 3 = .ok (.iconst 0, 1) := by decide +kernel
theorem dX2_giveLightest_4 : decode cX2_giveLightest 4 = .ok (.istore 6, 2) := by decide +kernel
theorem dX2_giveLightest_6 : decode cX2_giveLightest 6 = .ok (.iload 6, 2) := by decide +kernel
theorem dX2_giveLightest_8 : decode cX2_giveLightest 8 = .ok (.iload 4, 2) := by decide +kernel
theorem dX2_giveLightest_10 : decode cX2_giveLightest 10 = .ok (.if_icmp .ge 45, 3) := by decide +kernel
theorem dX2_giveLightest_13 : decode cX2_giveLightest 13 = .ok (.aload_n 0, 1) := by decide +kernel
theorem dX2_giveLightest_14 : decode cX2_giveLightest 14 = .ok (.iload_n 1, 1) := by decide +kernel
theorem dX2_giveLightest_15 : decode cX2_giveLightest 15 = .ok (.iload_n 3, 1) := by decide +kernel
theorem dX2_giveLightest_16 : decode cX2_giveLightest 16 = .ok (.invokevirtual 39, 3) := by decide +kernel
theorem dX2_giveLightest_19 : decode cX2_giveLightest 19 = .ok (.istore 7, 2) := by decide +kernel
theorem dX2_giveLightest_21 : decode cX2_giveLightest 21 = .ok (.iload 7, 2) := by decide +kernel
theorem dX2_giveLightest_23 : decode cX2_giveLightest 23 = .ok (.iconst (-1), 1) := by decide +kernel
theorem dX2_giveLightest_24 : decode cX2_giveLightest 24 = .ok (.if_icmp .ne 6, 3) := by decide +kernel
theorem dX2_giveLightest_27 : decode cX2_giveLightest 27 = .ok (.iload 5, 2) := by decide +kernel
theorem dX2_giveLightest_29 : decode cX2_giveLightest 29 = .ok (.ireturn, 1) := by decide +kernel
theorem dX2_giveLightest_30 : decode cX2_giveLightest 30 = .ok (.aload_n 0, 1) := by decide +kernel
theorem dX2_giveLightest_31 : decode cX2_giveLightest 31 = .ok (.iload 7, 2) := by decide +kernel
theorem dX2_giveLightest_33 : decode cX2_giveLightest 33 = .ok (.iload_n 2, 1) := by decide +kernel
theorem dX2_giveLightest_34 : decode cX2_giveLightest 34 = .ok (.invokevirtual 35, 3) := by decide +kernel
theorem dX2_giveLightest_37 : decode cX2_giveLightest 37 = .ok (.iload 5, 2) := by decide +kernel
theorem dX2_giveLightest_39 : decode cX2_giveLightest 39 = .ok (.aload_n 0, 1) := by decide +kernel
theorem dX2_giveLightest_40 : decode cX2_giveLightest 40 = .ok (.getfield 15, 3) := by decide +kernel
theorem dX2_giveLightest_43 : decode cX2_giveLightest 43 = .ok (.iload 7, 2) := by decide +kernel
theorem dX2_giveLightest_45 : decode cX2_giveLightest 45 = .ok (.iaload, 1) := by decide +kernel
theorem dX2_giveLightest_46 : decode cX2_giveLightest 46 = .ok (.iadd, 1) := by decide +kernel
theorem dX2_giveLightest_47 : decode cX2_giveLightest 47 = .ok (.istore 5, 2) := by decide +kernel
theorem dX2_giveLightest_49 : decode cX2_giveLightest 49 = .ok (.iinc 6 1, 3) := by decide +kernel
theorem dX2_giveLightest_52 : decode cX2_giveLightest 52 = .ok (.goto (-46), 3) := by decide +kernel
theorem dX2_giveLightest_55 : decode cX2_giveLightest 55 = .ok (.iload 5, 2) := by decide +kernel
theorem dX2_giveLightest_57 : decode cX2_giveLightest 57 = .ok (.ireturn, 1) := by decide +kernel
theorem dX2_giveAll_0 : decode cX2_giveAll 0 = .ok (.iconst 0, 1) := by decide +kernel
theorem dX2_giveAll_1 : decode cX2_giveAll 1 = .ok (.istore_n 3, 1) := by decide +kernel
theorem dX2_giveAll_2 : decode cX2_giveAll 2 = .ok (.iload_n 3, 1) := by decide +kernel
theorem dX2_giveAll_3 : decode cX2_giveAll 3 = .ok (.aload_n 0, 1) := by decide +kernel
theorem dX2_giveAll_4 : decode cX2_giveAll 4 = .ok (.getfield 31, 3) := by decide +kernel
theorem dX2_giveAll_7 : decode cX2_giveAll 7 = .ok (.if_icmp .ge 25, 3) := by decide +kernel
theorem dX2_giveAll_10 : decode cX2_giveAll 10 = .ok (.aload_n 0, 1) := by decide +kernel
theorem dX2_giveAll_11 : decode cX2_giveAll 11 = .ok (.getfield 18, 3) := by decide +kernel
theorem dX2_giveAll_14 : decode cX2_giveAll 14 = .ok (.iload_n 3, 1) := by decide +kernel
theorem dX2_giveAll_15 : decode cX2_giveAll 15 = .ok (.iaload, 1) := by decide +kernel
theorem dX2_giveAll_16 : decode cX2_giveAll 16 = .ok (.iload_n 1, 1) := by decide +kernel
theorem dX2_giveAll_17 : decode cX2_giveAll 17 = .ok (.if_icmp .ne 9, 3) := by decide +kernel
theorem dX2_giveAll_20 : decode cX2_giveAll 20 = .ok (.aload_n 0, 1) := by decide +kernel
theorem dX2_giveAll_21 : decode cX2_giveAll 21 = .ok (.iload_n 3, 1) := by decide +kernel
theorem dX2_giveAll_22 : decode cX2_giveAll 22 = .ok (.iload_n 2, 1) := by decide +kernel
theorem dX2_giveAll_23 : decode cX2_giveAll 23 = .ok (.invokevirtual 35, 3) := by decide +kernel
theorem dX2_giveAll_26 : decode cX2_giveAll 26 = .ok (.iinc 3 1, 3) := by decide +kernel
theorem dX2_giveAll_29 : decode cX2_giveAll 29 = .ok (.goto (-27), 3) := by decide +kernel
theorem dX2_giveAll_32 : decode cX2_giveAll 32 = .ok (.return_, 1) := by decide +kernel
theorem dX2_melt_0 : decode cX2_melt 0 = .ok (.iconst 0, 1) := by decide +kernel
theorem dX2_melt_1 : decode cX2_melt 1 = .ok (.istore_n 3, 1) := by decide +kernel
theorem dX2_melt_2 : decode cX2_melt 2 = .ok (.iconst 0, 1) := by decide +kernel
theorem dX2_melt_3 : decode cX2_melt 3 = .ok (.istore 4, 2) := by decide +kernel
theorem dX2_melt_5 : decode cX2_melt 5 = .ok (.iload 4, 2) := by decide +kernel
theorem dX2_melt_7 : decode cX2_melt 7 = .ok (.aload_n 0, 1) := by decide +kernel
theorem dX2_melt_8 : decode cX2_melt 8 = .ok (.getfield 31, 3) := by decide +kernel
theorem dX2_melt_11 : decode cX2_melt 11 = .ok (.if_icmp .ge 46, 3) := by decide +kernel
theorem dX2_melt_14 : decode cX2_melt 14 = .ok (.aload_n 0, 1) := by decide +kernel
theorem dX2_melt_15 : decode cX2_melt 15 = .ok (.iload 4, 2) := by decide +kernel
theorem dX2_melt_17 : decode cX2_melt 17 = .ok (.iload_n 1, 1) := by decide +kernel
theorem dX2_melt_18 : decode cX2_melt 18 = .ok (.iload_n 2, 1) := by decide +kernel
theorem dX2_melt_19 : decode cX2_melt 19 = .ok (.invokevirtual 43, 3) := by decide +kernel
theorem dX2_melt_22 : decode cX2_melt 22 = .ok (.ifCond .eq 29, 3) := by decide +kernel
theorem dX2_melt_25 : decode cX2_melt 25 = .ok (.iload_n 3, 1) := by decide +kernel
theorem dX2_melt_26 : decode cX2_melt 26 = .ok (.aload_n 0, 1) := by decide +kernel
theorem dX2_melt_27 : decode cX2_melt 27 = .ok (.getfield 15, 3) := by decide +kernel
theorem dX2_melt_30 : decode cX2_melt 30 = .ok (.iload 4, 2) := by decide +kernel
theorem dX2_melt_32 : decode cX2_melt 32 = .ok (.iaload, 1) := by decide +kernel
theorem dX2_melt_33 : decode cX2_melt 33 = .ok (.iadd, 1) := by decide +kernel
theorem dX2_melt_34 : decode cX2_melt 34 = .ok (.istore_n 3, 1) := by decide +kernel
theorem dX2_melt_35 : decode cX2_melt 35 = .ok (.aload_n 0, 1) := by decide +kernel
theorem dX2_melt_36 : decode cX2_melt 36 = .ok (.getfield 15, 3) := by decide +kernel
theorem dX2_melt_39 : decode cX2_melt 39 = .ok (.iload 4, 2) := by decide +kernel
theorem dX2_melt_41 : decode cX2_melt 41 = .ok (.iconst 0, 1) := by decide +kernel
theorem dX2_melt_42 : decode cX2_melt 42 = .ok (.iastore, 1) := by decide +kernel
theorem dX2_melt_43 : decode cX2_melt 43 = .ok (.aload_n 0, 1) := by decide +kernel
theorem dX2_melt_44 : decode cX2_melt 44 = .ok (.getfield 18, 3) := by decide +kernel
theorem dX2_melt_47 : decode cX2_melt 47 = .ok (.iload 4, 2) := by decide +kernel
theorem dX2_melt_49 : decode cX2_melt 49 = .ok (.iconst (-1), 1) := by decide +kernel
theorem dX2_melt_50 : decode cX2_melt 50 = .ok (.iastore, 1) := by decide +kernel
theorem dX2_melt_51 : decode cX2_melt 51 = .ok (.iinc 4 1, 3) := by decide +kernel
theorem dX2_melt_54 : decode cX2_melt 54 = .ok (.goto (-49), 3) := by decide +kernel
theorem dX2_melt_57 : decode cX2_melt 57 = .ok (.iload_n 3, 1) := by decide +kernel
theorem dX2_melt_58 : decode cX2_melt 58 = .ok (.ireturn, 1) := by decide +kernel
theorem dX2_lighten_0 : decode cX2_lighten 0 = .ok (.aload_n 0, 1) := by decide +kernel
theorem dX2_lighten_1 : decode cX2_lighten 1 = .ok (.getfield 15, 3) := by decide +kernel
theorem dX2_lighten_4 : decode cX2_lighten 4 = .ok (.iload_n 1, 1) := by decide +kernel
theorem dX2_lighten_5 : decode cX2_lighten 5 = .ok (.dup2, 1) := by decide +kernel
theorem dX2_lighten_6 : decode cX2_lighten 6 = .ok (.iaload, 1) := by decide +kernel
theorem dX2_lighten_7 : decode cX2_lighten 7 = .ok (.iload_n 2, 1) := by decide +kernel
theorem dX2_lighten_8 : decode cX2_lighten 8 = .ok (.isub, 1) := by decide +kernel
theorem dX2_lighten_9 : decode cX2_lighten 9 = .ok (.iastore, 1) := by decide +kernel
theorem dX2_lighten_10 : decode cX2_lighten 10 = .ok (.return_, 1) := by decide +kernel
theorem dX2_setHoarded_0 : decode cX2_setHoarded 0 = .ok (.aload_n 0, 1) := by decide +kernel
theorem dX2_setHoarded_1 : decode cX2_setHoarded 1 = .ok (.getfield 24, 3) := by decide +kernel
theorem dX2_setHoarded_4 : decode cX2_setHoarded 4 = .ok (.iload_n 1, 1) := by decide +kernel
theorem dX2_setHoarded_5 : decode cX2_setHoarded 5 = .ok (.iload_n 2, 1) := by decide +kernel
theorem dX2_setHoarded_6 : decode cX2_setHoarded 6 = .ok (.bastore, 1) := by decide +kernel
theorem dX2_setHoarded_7 : decode cX2_setHoarded 7 = .ok (.return_, 1) := by decide +kernel
theorem dX2_metal_0 : decode cX2_metal 0 = .ok (.aload_n 0, 1) := by decide +kernel
theorem dX2_metal_1 : decode cX2_metal 1 = .ok (.getfield 9, 3) := by decide +kernel
theorem dX2_metal_4 : decode cX2_metal 4 = .ok (.iload_n 1, 1) := by decide +kernel
theorem dX2_metal_5 : decode cX2_metal 5 = .ok (.iaload, 1) := by decide +kernel
theorem dX2_metal_6 : decode cX2_metal 6 = .ok (.ireturn, 1) := by decide +kernel
theorem dX2_weight_0 : decode cX2_weight 0 = .ok (.aload_n 0, 1) := by decide +kernel
theorem dX2_weight_1 : decode cX2_weight 1 = .ok (.getfield 15, 3) := by decide +kernel
theorem dX2_weight_4 : decode cX2_weight 4 = .ok (.iload_n 1, 1) := by decide +kernel
theorem dX2_weight_5 : decode cX2_weight 5 = .ok (.iaload, 1) := by decide +kernel
theorem dX2_weight_6 : decode cX2_weight 6 = .ok (.ireturn, 1) := by decide +kernel
theorem dX2_owner_0 : decode cX2_owner 0 = .ok (.aload_n 0, 1) := by decide +kernel
theorem dX2_owner_1 : decode cX2_owner 1 = .ok (.getfield 18, 3) := by decide +kernel
theorem dX2_owner_4 : decode cX2_owner 4 = .ok (.iload_n 1, 1) := by decide +kernel
theorem dX2_owner_5 : decode cX2_owner 5 = .ok (.iaload, 1) := by decide +kernel
theorem dX2_owner_6 : decode cX2_owner 6 = .ok (.ireturn, 1) := by decide +kernel
theorem dX2_ownerCount_0 : decode cX2_ownerCount 0 = .ok (.aload_n 0, 1) := by decide +kernel
theorem dX2_ownerCount_1 : decode cX2_ownerCount 1 = .ok (.getfield 21, 3) := by decide +kernel
theorem dX2_ownerCount_4 : decode cX2_ownerCount 4 = .ok (.iload_n 1, 1) := by decide +kernel
theorem dX2_ownerCount_5 : decode cX2_ownerCount 5 = .ok (.iaload, 1) := by decide +kernel
theorem dX2_ownerCount_6 : decode cX2_ownerCount 6 = .ok (.ireturn, 1) := by decide +kernel
theorem dX2_isHoarded_0 : decode cX2_isHoarded 0 = .ok (.aload_n 0, 1) := by decide +kernel
theorem dX2_isHoarded_1 : decode cX2_isHoarded 1 = .ok (.getfield 24, 3) := by decide +kernel
theorem dX2_isHoarded_4 : decode cX2_isHoarded 4 = .ok (.iload_n 1, 1) := by decide +kernel
theorem dX2_isHoarded_5 : decode cX2_isHoarded 5 = .ok (.baload, 1) := by decide +kernel
theorem dX2_isHoarded_6 : decode cX2_isHoarded 6 = .ok (.ireturn, 1) := by decide +kernel
theorem dX2_owned_0 : decode cX2_owned 0 = .ok (.iconst 0, 1) := by decide +kernel
theorem dX2_owned_1 : decode cX2_owned 1 = .ok (.istore_n 3, 1) := by decide +kernel
theorem dX2_owned_2 : decode cX2_owned 2 = .ok (.iconst 0, 1) := by decide +kernel
theorem dX2_owned_3 : decode cX2_owned 3 = .ok (.istore 4, 2) := by decide +kernel
theorem dX2_owned_5 : decode cX2_owned 5 = .ok (.iload 4, 2) := by decide +kernel
theorem dX2_owned_7 : decode cX2_owned 7 = .ok (.aload_n 0, 1) := by decide +kernel
theorem dX2_owned_8 : decode cX2_owned 8 = .ok (.getfield 31, 3) := by decide +kernel
theorem dX2_owned_11 : decode cX2_owned 11 = .ok (.if_icmp .ge 34, 3) := by decide +kernel
theorem dX2_owned_14 : decode cX2_owned 14 = .ok (.aload_n 0, 1) := by decide +kernel
theorem dX2_owned_15 : decode cX2_owned 15 = .ok (.getfield 18, 3) := by decide +kernel
theorem dX2_owned_18 : decode cX2_owned 18 = .ok (.iload 4, 2) := by decide +kernel
theorem dX2_owned_20 : decode cX2_owned 20 = .ok (.iaload, 1) := by decide +kernel
theorem dX2_owned_21 : decode cX2_owned 21 = .ok (.iload_n 1, 1) := by decide +kernel
theorem dX2_owned_22 : decode cX2_owned 22 = .ok (.if_icmp .ne 17, 3) := by decide +kernel
theorem dX2_owned_25 : decode cX2_owned 25 = .ok (.aload_n 0, 1) := by decide +kernel
theorem dX2_owned_26 : decode cX2_owned 26 = .ok (.getfield 9, 3) := by decide +kernel
theorem dX2_owned_29 : decode cX2_owned 29 = .ok (.iload 4, 2) := by decide +kernel
theorem dX2_owned_31 : decode cX2_owned 31 = .ok (.iaload, 1) := by decide +kernel
theorem dX2_owned_32 : decode cX2_owned 32 = .ok (.iload_n 2, 1) := by decide +kernel
theorem dX2_owned_33 : decode cX2_owned 33 = .ok (.if_icmp .ne 6, 3) := by decide +kernel
theorem dX2_owned_36 : decode cX2_owned 36 = .ok (.iinc 3 1, 3) := by decide +kernel
theorem dX2_owned_39 : decode cX2_owned 39 = .ok (.iinc 4 1, 3) := by decide +kernel
theorem dX2_owned_42 : decode cX2_owned 42 = .ok (.goto (-37), 3) := by decide +kernel
theorem dX2_owned_45 : decode cX2_owned 45 = .ok (.iload_n 3, 1) := by decide +kernel
theorem dX2_owned_46 : decode cX2_owned 46 = .ok (.ireturn, 1) := by decide +kernel
theorem dX2_loose_0 : decode cX2_loose 0 = .ok (.iconst 0, 1) := by decide +kernel
theorem dX2_loose_1 : decode cX2_loose 1 = .ok (.istore_n 3, 1) := by decide +kernel
theorem dX2_loose_2 : decode cX2_loose 2 = .ok (.iconst 0, 1) := by decide +kernel
theorem dX2_loose_3 : decode cX2_loose 3 = .ok (.istore 4, 2) := by decide +kernel
theorem dX2_loose_5 : decode cX2_loose 5 = .ok (.iload 4, 2) := by decide +kernel
theorem dX2_loose_7 : decode cX2_loose 7 = .ok (.aload_n 0, 1) := by decide +kernel
theorem dX2_loose_8 : decode cX2_loose 8 = .ok (.getfield 31, 3) := by decide +kernel
theorem dX2_loose_11 : decode cX2_loose 11 = .ok (.if_icmp .ge 23, 3) := by decide +kernel
theorem dX2_loose_14 : decode cX2_loose 14 = .ok (.aload_n 0, 1) := by decide +kernel
theorem dX2_loose_15 : decode cX2_loose 15 = .ok (.iload 4, 2) := by decide +kernel
theorem dX2_loose_17 : decode cX2_loose 17 = .ok (.iload_n 1, 1) := by decide +kernel
theorem dX2_loose_18 : decode cX2_loose 18 = .ok (.iload_n 2, 1) := by decide +kernel
theorem dX2_loose_19 : decode cX2_loose 19 = .ok (.invokevirtual 43, 3) := by decide +kernel
theorem dX2_loose_22 : decode cX2_loose 22 = .ok (.ifCond .eq 6, 3) := by decide +kernel
theorem dX2_loose_25 : decode cX2_loose 25 = .ok (.iinc 3 1, 3) := by decide +kernel
theorem dX2_loose_28 : decode cX2_loose 28 = .ok (.iinc 4 1, 3) := by decide +kernel
theorem dX2_loose_31 : decode cX2_loose 31 = .ok (.goto (-26), 3) := by decide +kernel
theorem dX2_loose_34 : decode cX2_loose 34 = .ok (.iload_n 3, 1) := by decide +kernel
theorem dX2_loose_35 : decode cX2_loose 35 = .ok (.ireturn, 1) := by decide +kernel
theorem dX2_unmelted_0 : decode cX2_unmelted 0 = .ok (.iconst 0, 1) := by decide +kernel
theorem dX2_unmelted_1 : decode cX2_unmelted 1 = .ok (.istore_n 1, 1) := by decide +kernel
theorem dX2_unmelted_2 : decode cX2_unmelted 2 = .ok (.iconst 0, 1) := by decide +kernel
theorem dX2_unmelted_3 : decode cX2_unmelted 3 = .ok (.istore_n 2, 1) := by decide +kernel
theorem dX2_unmelted_4 : decode cX2_unmelted 4 = .ok (.iload_n 2, 1) := by decide +kernel
theorem dX2_unmelted_5 : decode cX2_unmelted 5 = .ok (.aload_n 0, 1) := by decide +kernel
theorem dX2_unmelted_6 : decode cX2_unmelted 6 = .ok (.getfield 31, 3) := by decide +kernel
theorem dX2_unmelted_9 : decode cX2_unmelted 9 = .ok (.if_icmp .ge 22, 3) := by decide +kernel
theorem dX2_unmelted_12 : decode cX2_unmelted 12 = .ok (.aload_n 0, 1) := by decide +kernel
theorem dX2_unmelted_13 : decode cX2_unmelted 13 = .ok (.getfield 18, 3) := by decide +kernel
theorem dX2_unmelted_16 : decode cX2_unmelted 16 = .ok (.iload_n 2, 1) := by decide +kernel
theorem dX2_unmelted_17 : decode cX2_unmelted 17 = .ok (.iaload, 1) := by decide +kernel
theorem dX2_unmelted_18 : decode cX2_unmelted 18 = .ok (.iconst (-1), 1) := by decide +kernel
theorem dX2_unmelted_19 : decode cX2_unmelted 19 = .ok (.if_icmp .eq 6, 3) := by decide +kernel
theorem dX2_unmelted_22 : decode cX2_unmelted 22 = .ok (.iinc 1 1, 3) := by decide +kernel
theorem dX2_unmelted_25 : decode cX2_unmelted 25 = .ok (.iinc 2 1, 3) := by decide +kernel
theorem dX2_unmelted_28 : decode cX2_unmelted 28 = .ok (.goto (-24), 3) := by decide +kernel
theorem dX2_unmelted_31 : decode cX2_unmelted 31 = .ok (.iload_n 1, 1) := by decide +kernel
theorem dX2_unmelted_32 : decode cX2_unmelted 32 = .ok (.ireturn, 1) := by decide +kernel
theorem dX2_lighter_0 : decode cX2_lighter 0 = .ok (.iconst 0, 1) := by decide +kernel
theorem dX2_lighter_1 : decode cX2_lighter 1 = .ok (.istore_n 3, 1) := by decide +kernel
theorem dX2_lighter_2 : decode cX2_lighter 2 = .ok (.iconst 0, 1) := by decide +kernel
theorem dX2_lighter_3 : decode cX2_lighter 3 = .ok (.istore 4, 2) := by decide +kernel
theorem dX2_lighter_5 : decode cX2_lighter 5 = .ok (.iload 4, 2) := by decide +kernel
theorem dX2_lighter_7 : decode cX2_lighter 7 = .ok (.aload_n 0, 1) := by decide +kernel
theorem dX2_lighter_8 : decode cX2_lighter 8 = .ok (.getfield 31, 3) := by decide +kernel
theorem dX2_lighter_11 : decode cX2_lighter 11 = .ok (.if_icmp .ge 45, 3) := by decide +kernel
theorem dX2_lighter_14 : decode cX2_lighter 14 = .ok (.aload_n 0, 1) := by decide +kernel
theorem dX2_lighter_15 : decode cX2_lighter 15 = .ok (.getfield 18, 3) := by decide +kernel
theorem dX2_lighter_18 : decode cX2_lighter 18 = .ok (.iload 4, 2) := by decide +kernel
theorem dX2_lighter_20 : decode cX2_lighter 20 = .ok (.iaload, 1) := by decide +kernel
theorem dX2_lighter_21 : decode cX2_lighter 21 = .ok (.iconst (-1), 1) := by decide +kernel
theorem dX2_lighter_22 : decode cX2_lighter 22 = .ok (.if_icmp .eq 28, 3) := by decide +kernel
theorem dX2_lighter_25 : decode cX2_lighter 25 = .ok (.aload_n 0, 1) := by decide +kernel
theorem dX2_lighter_26 : decode cX2_lighter 26 = .ok (.getfield 9, 3) := by decide +kernel
theorem dX2_lighter_29 : decode cX2_lighter 29 = .ok (.iload 4, 2) := by decide +kernel
theorem dX2_lighter_31 : decode cX2_lighter 31 = .ok (.iaload, 1) := by decide +kernel
theorem dX2_lighter_32 : decode cX2_lighter 32 = .ok (.iload_n 1, 1) := by decide +kernel
theorem dX2_lighter_33 : decode cX2_lighter 33 = .ok (.if_icmp .ne 17, 3) := by decide +kernel
theorem dX2_lighter_36 : decode cX2_lighter 36 = .ok (.aload_n 0, 1) := by decide +kernel
theorem dX2_lighter_37 : decode cX2_lighter 37 = .ok (.getfield 15, 3) := by decide +kernel
theorem dX2_lighter_40 : decode cX2_lighter 40 = .ok (.iload 4, 2) := by decide +kernel
theorem dX2_lighter_42 : decode cX2_lighter 42 = .ok (.iaload, 1) := by decide +kernel
theorem dX2_lighter_43 : decode cX2_lighter 43 = .ok (.iload_n 2, 1) := by decide +kernel
theorem dX2_lighter_44 : decode cX2_lighter 44 = .ok (.if_icmp .ge 6, 3) := by decide +kernel
theorem dX2_lighter_47 : decode cX2_lighter 47 = .ok (.iinc 3 1, 3) := by decide +kernel
theorem dX2_lighter_50 : decode cX2_lighter 50 = .ok (.iinc 4 1, 3) := by decide +kernel
theorem dX2_lighter_53 : decode cX2_lighter 53 = .ok (.goto (-48), 3) := by decide +kernel
theorem dX2_lighter_56 : decode cX2_lighter 56 = .ok (.iload_n 3, 1) := by decide +kernel
theorem dX2_lighter_57 : decode cX2_lighter 57 = .ok (.ireturn, 1) := by decide +kernel
theorem dX2_weightOfAll_0 : decode cX2_weightOfAll 0 = .ok (.iconst 0, 1) := by decide +kernel
theorem dX2_weightOfAll_1 : decode cX2_weightOfAll 1 = .ok (.istore_n 2, 1) := by decide +kernel
theorem dX2_weightOfAll_2 : decode cX2_weightOfAll 2 = .ok (.iconst 0, 1) := by decide +kernel
theorem dX2_weightOfAll_3 : decode cX2_weightOfAll 3 = .ok (.istore_n 3, 1) := by decide +kernel
theorem dX2_weightOfAll_4 : decode cX2_weightOfAll 4 = .ok (.iload_n 3, 1) := by decide +kernel
theorem dX2_weightOfAll_5 : decode cX2_weightOfAll 5 = .ok (.aload_n 0, 1) := by decide +kernel
theorem dX2_weightOfAll_6 : decode cX2_weightOfAll 6 = .ok (.getfield 31, 3) := by decide +kernel
theorem dX2_weightOfAll_9 : decode cX2_weightOfAll 9 = .ok (.if_icmp .ge 28, 3) := by decide +kernel
theorem dX2_weightOfAll_12 : decode cX2_weightOfAll 12 = .ok (.aload_n 0, 1) := by decide +kernel
theorem dX2_weightOfAll_13 : decode cX2_weightOfAll 13 = .ok (.getfield 9, 3) := by decide +kernel
theorem dX2_weightOfAll_16 : decode cX2_weightOfAll 16 = .ok (.iload_n 3, 1) := by decide +kernel
theorem dX2_weightOfAll_17 : decode cX2_weightOfAll 17 = .ok (.iaload, 1) := by decide +kernel
theorem dX2_weightOfAll_18 : decode cX2_weightOfAll 18 = .ok (.iload_n 1, 1) := by decide +kernel
theorem dX2_weightOfAll_19 : decode cX2_weightOfAll 19 = .ok (.if_icmp .ne 12, 3) := by decide +kernel
theorem dX2_weightOfAll_22 : decode cX2_weightOfAll 22 = .ok (.iload_n 2, 1) := by decide +kernel
theorem dX2_weightOfAll_23 : decode cX2_weightOfAll 23 = .ok (.aload_n 0, 1) := by decide +kernel
theorem dX2_weightOfAll_24 : decode cX2_weightOfAll 24 = .ok (.getfield 15, 3) := by decide +kernel
theorem dX2_weightOfAll_27 : decode cX2_weightOfAll 27 = .ok (.iload_n 3, 1) := by decide +kernel
theorem dX2_weightOfAll_28 : decode cX2_weightOfAll 28 = .ok (.iaload, 1) := by decide +kernel
theorem dX2_weightOfAll_29 : decode cX2_weightOfAll 29 = .ok (.iadd, 1) := by decide +kernel
theorem dX2_weightOfAll_30 : decode cX2_weightOfAll 30 = .ok (.istore_n 2, 1) := by decide +kernel
theorem dX2_weightOfAll_31 : decode cX2_weightOfAll 31 = .ok (.iinc 3 1, 3) := by decide +kernel
theorem dX2_weightOfAll_34 : decode cX2_weightOfAll 34 = .ok (.goto (-30), 3) := by decide +kernel
theorem dX2_weightOfAll_37 : decode cX2_weightOfAll 37 = .ok (.iload_n 2, 1) := by decide +kernel
theorem dX2_weightOfAll_38 : decode cX2_weightOfAll 38 = .ok (.ireturn, 1) := by decide +kernel
theorem dX2_areWhereGiven_0 : decode cX2_areWhereGiven 0 = .ok (.iconst 0, 1) := by decide +kernel
theorem dX2_areWhereGiven_1 : decode cX2_areWhereGiven 1 = .ok (.istore_n 1, 1) := by decide +kernel
theorem dX2_areWhereGiven_2 : decode cX2_areWhereGiven 2 = .ok (.iload_n 1, 1) := by decide +kernel
theorem dX2_areWhereGiven_3 : decode cX2_areWhereGiven 3 = .ok (.aload_n 0, 1) := by decide +kernel
theorem dX2_areWhereGiven_4 : decode cX2_areWhereGiven 4 = .ok (.getfield 31, 3) := by decide +kernel
theorem dX2_areWhereGiven_7 : decode cX2_areWhereGiven 7 = .ok (.if_icmp .ge 36, 3) := by decide +kernel
theorem dX2_areWhereGiven_10 : decode cX2_areWhereGiven 10 = .ok (.aload_n 0, 1) := by decide +kernel
theorem dX2_areWhereGiven_11 : decode cX2_areWhereGiven 11 = .ok (.getfield 18, 3) := by decide +kernel
theorem dX2_areWhereGiven_14 : decode cX2_areWhereGiven 14 = .ok (.iload_n 1, 1) := by decide +kernel
theorem dX2_areWhereGiven_15 : decode cX2_areWhereGiven 15 = .ok (.iaload, 1) := by decide +kernel
theorem dX2_areWhereGiven_16 : decode cX2_areWhereGiven 16 = .ok (.iconst (-1), 1) := by decide +kernel
theorem dX2_areWhereGiven_17 : decode cX2_areWhereGiven 17 = .ok (.if_icmp .eq 20, 3) := by decide +kernel
theorem dX2_areWhereGiven_20 : decode cX2_areWhereGiven 20 = .ok (.aload_n 0, 1) := by decide +kernel
theorem dX2_areWhereGiven_21 : decode cX2_areWhereGiven 21 = .ok (.getfield 18, 3) := by decide +kernel
theorem dX2_areWhereGiven_24 : decode cX2_areWhereGiven 24 = .ok (.iload_n 1, 1) := by decide +kernel
theorem dX2_areWhereGiven_25 : decode cX2_areWhereGiven 25 = .ok (.iaload, 1) := by decide +kernel
theorem dX2_areWhereGiven_26 : decode cX2_areWhereGiven 26 = .ok (.aload_n 0, 1) := by decide +kernel
theorem dX2_areWhereGiven_27 : decode cX2_areWhereGiven 27 = .ok (.getfield 28, 3) := by decide +kernel
theorem dX2_areWhereGiven_30 : decode cX2_areWhereGiven 30 = .ok (.iload_n 1, 1) := by decide +kernel
theorem dX2_areWhereGiven_31 : decode cX2_areWhereGiven 31 = .ok (.iaload, 1) := by decide +kernel
theorem dX2_areWhereGiven_32 : decode cX2_areWhereGiven 32 = .ok (.if_icmp .eq 5, 3) := by decide +kernel
theorem dX2_areWhereGiven_35 : decode cX2_areWhereGiven 35 = .ok (.iconst 0, 1) := by decide +kernel
theorem dX2_areWhereGiven_36 : decode cX2_areWhereGiven 36 = .ok (.ireturn, 1) := by decide +kernel
theorem dX2_areWhereGiven_37 : decode cX2_areWhereGiven 37 = .ok (.iinc 1 1, 3) := by decide +kernel
theorem dX2_areWhereGiven_40 : decode cX2_areWhereGiven 40 = .ok (.goto (-38), 3) := by decide +kernel
theorem dX2_areWhereGiven_43 : decode cX2_areWhereGiven 43 = .ok (.iconst 1, 1) := by decide +kernel
theorem dX2_areWhereGiven_44 : decode cX2_areWhereGiven 44 = .ok (.ireturn, 1) := by decide +kernel
theorem dX2_heaviest_0 : decode cX2_heaviest 0 = .ok (.iconst (-1), 1) := by decide +kernel
theorem dX2_heaviest_1 : decode cX2_heaviest 1 = .ok (.istore_n 2, 1) := by decide +kernel
theorem dX2_heaviest_2 : decode cX2_heaviest 2 = .ok (.iconst 0, 1) := by decide +kernel
theorem dX2_heaviest_3 : decode cX2_heaviest 3 = .ok (.istore_n 3, 1) := by decide +kernel
theorem dX2_heaviest_4 : decode cX2_heaviest 4 = .ok (.iload_n 3, 1) := by decide +kernel
theorem dX2_heaviest_5 : decode cX2_heaviest 5 = .ok (.aload_n 0, 1) := by decide +kernel
theorem dX2_heaviest_6 : decode cX2_heaviest 6 = .ok (.getfield 31, 3) := by decide +kernel
theorem dX2_heaviest_9 : decode cX2_heaviest 9 = .ok (.if_icmp .ge 35, 3) := by decide +kernel
theorem dX2_heaviest_12 : decode cX2_heaviest 12 = .ok (.aload_n 0, 1) := by decide +kernel
theorem dX2_heaviest_13 : decode cX2_heaviest 13 = .ok (.getfield 18, 3) := by decide +kernel
theorem dX2_heaviest_16 : decode cX2_heaviest 16 = .ok (.iload_n 3, 1) := by decide +kernel
theorem dX2_heaviest_17 : decode cX2_heaviest 17 = .ok (.iaload, 1) := by decide +kernel
theorem dX2_heaviest_18 : decode cX2_heaviest 18 = .ok (.iload_n 1, 1) := by decide +kernel
theorem dX2_heaviest_19 : decode cX2_heaviest 19 = .ok (.if_icmp .ne 19, 3) := by decide +kernel
theorem dX2_heaviest_22 : decode cX2_heaviest 22 = .ok (.iload_n 2, 1) := by decide +kernel
theorem dX2_heaviest_23 : decode cX2_heaviest 23 = .ok (.iconst (-1), 1) := by decide +kernel
theorem dX2_heaviest_24 : decode cX2_heaviest 24 = .ok (.if_icmp .eq 12, 3) := by decide +kernel
theorem dX2_heaviest_27 : decode cX2_heaviest 27 = .ok (.aload_n 0, 1) := by decide +kernel
theorem dX2_heaviest_28 : decode cX2_heaviest 28 = .ok (.iload_n 3, 1) := by decide +kernel
theorem dX2_heaviest_29 : decode cX2_heaviest 29 = .ok (.iload_n 2, 1) := by decide +kernel
theorem dX2_heaviest_30 : decode cX2_heaviest 30 = .ok (.invokevirtual 47, 3) := by decide +kernel
theorem dX2_heaviest_33 : decode cX2_heaviest 33 = .ok (.ifCond .eq 5, 3) := by decide +kernel
theorem dX2_heaviest_36 : decode cX2_heaviest 36 = .ok (.iload_n 3, 1) := by decide +kernel
theorem dX2_heaviest_37 : decode cX2_heaviest 37 = .ok (.istore_n 2, 1) := by decide +kernel
theorem dX2_heaviest_38 : decode cX2_heaviest 38 = .ok (.iinc 3 1, 3) := by decide +kernel
theorem dX2_heaviest_41 : decode cX2_heaviest 41 = .ok (.goto (-37), 3) := by decide +kernel
theorem dX2_heaviest_44 : decode cX2_heaviest 44 = .ok (.iload_n 2, 1) := by decide +kernel
theorem dX2_heaviest_45 : decode cX2_heaviest 45 = .ok (.ireturn, 1) := by decide +kernel
theorem dX2_isAhead_0 : decode cX2_isAhead 0 = .ok (.aload_n 0, 1) := by decide +kernel
theorem dX2_isAhead_1 : decode cX2_isAhead 1 = .ok (.getfield 15, 3) := by decide +kernel
theorem dX2_isAhead_4 : decode cX2_isAhead 4 = .ok (.iload_n 1, 1) := by decide +kernel
theorem dX2_isAhead_5 : decode cX2_isAhead 5 = .ok (.iaload, 1) := by decide +kernel
theorem dX2_isAhead_6 : decode cX2_isAhead 6 = .ok (.aload_n 0, 1) := by decide +kernel
theorem dX2_isAhead_7 : decode cX2_isAhead 7 = .ok (.getfield 15, 3) := by decide +kernel
theorem dX2_isAhead_10 : decode cX2_isAhead 10 = .ok (.iload_n 2, 1) := by decide +kernel
theorem dX2_isAhead_11 : decode cX2_isAhead 11 = .ok (.iaload, 1) := by decide +kernel
theorem dX2_isAhead_12 : decode cX2_isAhead 12 = .ok (.if_icmp .eq 24, 3) := by decide +kernel
theorem dX2_isAhead_15 : decode cX2_isAhead 15 = .ok (.aload_n 0, 1) := by decide +kernel
theorem dX2_isAhead_16 : decode cX2_isAhead 16 = .ok (.getfield 15, 3) := by decide +kernel
theorem dX2_isAhead_19 : decode cX2_isAhead 19 = .ok (.iload_n 1, 1) := by decide +kernel
theorem dX2_isAhead_20 : decode cX2_isAhead 20 = .ok (.iaload, 1) := by decide +kernel
theorem dX2_isAhead_21 : decode cX2_isAhead 21 = .ok (.aload_n 0, 1) := by decide +kernel
theorem dX2_isAhead_22 : decode cX2_isAhead 22 = .ok (.getfield 15, 3) := by decide +kernel
theorem dX2_isAhead_25 : decode cX2_isAhead 25 = .ok (.iload_n 2, 1) := by decide +kernel
theorem dX2_isAhead_26 : decode cX2_isAhead 26 = .ok (.iaload, 1) := by decide +kernel
theorem dX2_isAhead_27 : decode cX2_isAhead 27 = .ok (.if_icmp .le 7, 3) := by decide +kernel
theorem dX2_isAhead_30 : decode cX2_isAhead 30 = .ok (.iconst 1, 1) := by decide +kernel
theorem dX2_isAhead_31 : decode cX2_isAhead 31 = .ok (.goto 4, 3) := by decide +kernel
theorem dX2_isAhead_34 : decode cX2_isAhead 34 = .ok (.iconst 0, 1) := by decide +kernel
theorem dX2_isAhead_35 : decode cX2_isAhead 35 = .ok (.ireturn, 1) := by decide +kernel
theorem dX2_isAhead_36 : decode cX2_isAhead 36 = .ok (.aload_n 0, 1) := by decide +kernel
theorem dX2_isAhead_37 : decode cX2_isAhead 37 = .ok (.getfield 9, 3) := by decide +kernel
theorem dX2_isAhead_40 : decode cX2_isAhead 40 = .ok (.iload_n 1, 1) := by decide +kernel
theorem dX2_isAhead_41 : decode cX2_isAhead 41 = .ok (.iaload, 1) := by decide +kernel
theorem dX2_isAhead_42 : decode cX2_isAhead 42 = .ok (.ifCond .ne 17, 3) := by decide +kernel
theorem dX2_isAhead_45 : decode cX2_isAhead 45 = .ok (.aload_n 0, 1) := by decide +kernel
theorem dX2_isAhead_46 : decode cX2_isAhead 46 = .ok (.getfield 9, 3) := by decide +kernel
theorem dX2_isAhead_49 : decode cX2_isAhead 49 = .ok (.iload_n 2, 1) := by decide +kernel
theorem dX2_isAhead_50 : decode cX2_isAhead 50 = .ok (.iaload, 1) := by decide +kernel
theorem dX2_isAhead_51 : decode cX2_isAhead 51 = .ok (.iconst 1, 1) := by decide +kernel
theorem dX2_isAhead_52 : decode cX2_isAhead 52 = .ok (.if_icmp .ne 7, 3) := by decide +kernel
theorem dX2_isAhead_55 : decode cX2_isAhead 55 = .ok (.iconst 1, 1) := by decide +kernel
theorem dX2_isAhead_56 : decode cX2_isAhead 56 = .ok (.goto 4, 3) := by decide +kernel
theorem dX2_isAhead_59 : decode cX2_isAhead 59 = .ok (.iconst 0, 1) := by decide +kernel
theorem dX2_isAhead_60 : decode cX2_isAhead 60 = .ok (.ireturn, 1) := by decide +kernel
theorem dX2_lightest_0 : decode cX2_lightest 0 = .ok (.iconst (-1), 1) := by decide +kernel
theorem dX2_lightest_1 : decode cX2_lightest 1 = .ok (.istore_n 3, 1) := by decide +kernel
theorem dX2_lightest_2 : decode cX2_lightest 2 = .ok (.iconst 0, 1) := by decide +kernel
theorem dX2_lightest_3 : decode cX2_lightest 3 = .ok (.istore 4, 2) := by decide +kernel
theorem dX2_lightest_5 : decode cX2_lightest 5 = .ok (.iload 4, 2) := by decide +kernel
theorem dX2_lightest_7 : decode cX2_lightest 7 = .ok (.aload_n 0, 1) := by decide +kernel
theorem dX2_lightest_8 : decode cX2_lightest 8 = .ok (.getfield 31, 3) := by decide +kernel
theorem dX2_lightest_11 : decode cX2_lightest 11 = .ok (.if_icmp .ge 44, 3) := by decide +kernel
theorem dX2_lightest_14 : decode cX2_lightest 14 = .ok (.aload_n 0, 1) := by decide +kernel
theorem dX2_lightest_15 : decode cX2_lightest 15 = .ok (.iload 4, 2) := by decide +kernel
theorem dX2_lightest_17 : decode cX2_lightest 17 = .ok (.iload_n 1, 1) := by decide +kernel
theorem dX2_lightest_18 : decode cX2_lightest 18 = .ok (.iload_n 2, 1) := by decide +kernel
theorem dX2_lightest_19 : decode cX2_lightest 19 = .ok (.invokevirtual 43, 3) := by decide +kernel
theorem dX2_lightest_22 : decode cX2_lightest 22 = .ok (.ifCond .eq 27, 3) := by decide +kernel
theorem dX2_lightest_25 : decode cX2_lightest 25 = .ok (.iload_n 3, 1) := by decide +kernel
theorem dX2_lightest_26 : decode cX2_lightest 26 = .ok (.iconst (-1), 1) := by decide +kernel
theorem dX2_lightest_27 : decode cX2_lightest 27 = .ok (.if_icmp .eq 19, 3) := by decide +kernel
theorem dX2_lightest_30 : decode cX2_lightest 30 = .ok (.aload_n 0, 1) := by decide +kernel
theorem dX2_lightest_31 : decode cX2_lightest 31 = .ok (.getfield 15, 3) := by decide +kernel
theorem dX2_lightest_34 : decode cX2_lightest 34 = .ok (.iload 4, 2) := by decide +kernel
theorem dX2_lightest_36 : decode cX2_lightest 36 = .ok (.iaload, 1) := by decide +kernel
theorem dX2_lightest_37 : decode cX2_lightest 37 = .ok (.aload_n 0, 1) := by decide +kernel
theorem dX2_lightest_38 : decode cX2_lightest 38 = .ok (.getfield 15, 3) := by decide +kernel
theorem dX2_lightest_41 : decode cX2_lightest 41 = .ok (.iload_n 3, 1) := by decide +kernel
theorem dX2_lightest_42 : decode cX2_lightest 42 = .ok (.iaload, 1) := by decide +kernel
theorem dX2_lightest_43 : decode cX2_lightest 43 = .ok (.if_icmp .ge 6, 3) := by decide +kernel
theorem dX2_lightest_46 : decode cX2_lightest 46 = .ok (.iload 4, 2) := by decide +kernel
theorem dX2_lightest_48 : decode cX2_lightest 48 = .ok (.istore_n 3, 1) := by decide +kernel
theorem dX2_lightest_49 : decode cX2_lightest 49 = .ok (.iinc 4 1, 3) := by decide +kernel
theorem dX2_lightest_52 : decode cX2_lightest 52 = .ok (.goto (-47), 3) := by decide +kernel
theorem dX2_lightest_55 : decode cX2_lightest 55 = .ok (.iload_n 3, 1) := by decide +kernel
theorem dX2_lightest_56 : decode cX2_lightest 56 = .ok (.ireturn, 1) := by decide +kernel
theorem dX2_isLoose_0 : decode cX2_isLoose 0 = .ok (.aload_n 0, 1) := by decide +kernel
theorem dX2_isLoose_1 : decode cX2_isLoose 1 = .ok (.getfield 18, 3) := by decide +kernel
theorem dX2_isLoose_4 : decode cX2_isLoose 4 = .ok (.iload_n 1, 1) := by decide +kernel
theorem dX2_isLoose_5 : decode cX2_isLoose 5 = .ok (.iaload, 1) := by decide +kernel
theorem dX2_isLoose_6 : decode cX2_isLoose 6 = .ok (.iload_n 2, 1) := by decide +kernel
theorem dX2_isLoose_7 : decode cX2_isLoose 7 = .ok (.if_icmp .ne 26, 3) := by decide +kernel
theorem dX2_isLoose_10 : decode cX2_isLoose 10 = .ok (.aload_n 0, 1) := by decide +kernel
theorem dX2_isLoose_11 : decode cX2_isLoose 11 = .ok (.getfield 9, 3) := by decide +kernel
theorem dX2_isLoose_14 : decode cX2_isLoose 14 = .ok (.iload_n 1, 1) := by decide +kernel
theorem dX2_isLoose_15 : decode cX2_isLoose 15 = .ok (.iaload, 1) := by decide +kernel
theorem dX2_isLoose_16 : decode cX2_isLoose 16 = .ok (.iload_n 3, 1) := by decide +kernel
theorem dX2_isLoose_17 : decode cX2_isLoose 17 = .ok (.if_icmp .ne 16, 3) := by decide +kernel
theorem dX2_isLoose_20 : decode cX2_isLoose 20 = .ok (.aload_n 0, 1) := by decide +kernel
theorem dX2_isLoose_21 : decode cX2_isLoose 21 = .ok (.getfield 24, 3) := by decide +kernel
theorem dX2_isLoose_24 : decode cX2_isLoose 24 = .ok (.iload_n 1, 1) := by decide +kernel
theorem dX2_isLoose_25 : decode cX2_isLoose 25 = .ok (.baload, 1) := by decide +kernel
theorem dX2_isLoose_26 : decode cX2_isLoose 26 = .ok (.ifCond .ne 7, 3) := by decide +kernel
theorem dX2_isLoose_29 : decode cX2_isLoose 29 = .ok (.iconst 1, 1) := by decide +kernel
theorem dX2_isLoose_30 : decode cX2_isLoose 30 = .ok (.goto 4, 3) := by decide +kernel
theorem dX2_isLoose_33 : decode cX2_isLoose 33 = .ok (.iconst 0, 1) := by decide +kernel
theorem dX2_isLoose_34 : decode cX2_isLoose 34 = .ok (.ireturn, 1) := by decide +kernel
theorem dX3_init_0 : decode cX3_init 0 = .ok (.aload_n 0, 1) := by decide +kernel
theorem dX3_init_1 : decode cX3_init 1 = .ok (.invokespecial 3, 3) := by decide +kernel
theorem dX3_init_4 : decode cX3_init 4 = .ok (.aload_n 0, 1) := by decide +kernel
theorem dX3_init_5 : decode cX3_init 5 = .ok (.bipush 6, 2) := by decide +kernel
theorem dX3_init_7 : decode cX3_init 7 = .ok (.newarray .char, 2) := by decide +kernel
theorem dX3_init_9 : decode cX3_init 9 = .ok (.putfield 9, 3) := by decide +kernel
theorem dX3_init_12 : decode cX3_init 12 = .ok (.aload_n 0, 1) := by decide +kernel
theorem dX3_init_13 : decode cX3_init 13 = .ok (.bipush 6, 2) := by decide +kernel
theorem dX3_init_15 : decode cX3_init 15 = .ok (.newarray .boolean, 2) := by decide +kernel
theorem dX3_init_17 : decode cX3_init 17 = .ok (.putfield 15, 3) := by decide +kernel
theorem dX3_init_20 : decode cX3_init 20 = .ok (.return_, 1) := by decide +kernel
theorem dX3_count_0 : decode cX3_count 0 = .ok (.aload_n 0, 1) := by decide +kernel
theorem dX3_count_1 : decode cX3_count 1 = .ok (.getfield 19, 3) := by decide +kernel
theorem dX3_count_4 : decode cX3_count 4 = .ok (.ireturn, 1) := by decide +kernel
theorem dX3_open_0 : decode cX3_open 0 = .ok (.aload_n 0, 1) := by decide +kernel
theorem dX3_open_1 : decode cX3_open 1 = .ok (.getfield 19, 3) := by decide +kernel
theorem dX3_open_4 : decode cX3_open 4 = .ok (.bipush 6, 2) := by decide +kernel
theorem dX3_open_6 : decode cX3_open 6 = .ok (.if_icmp .lt 5, 3) := by decide +kernel
theorem dX3_open_9 : decode cX3_open 9 = .ok (.iconst (-1), 1) := by decide +kernel
theorem dX3_open_10 : decode cX3_open 10 = .ok (.ireturn, 1) := by decide +kernel
theorem dX3_open_11 : decode cX3_open 11 = .ok (.aload_n 0, 1) := by decide +kernel
theorem dX3_open_12 : decode cX3_open 12 = .ok (.getfield 9, 3) := by decide +kernel
theorem dX3_open_15 : decode cX3_open 15 = .ok (.aload_n 0, 1) := by decide +kernel
theorem dX3_open_16 : decode cX3_open 16 = .ok (.getfield 19, 3) := by decide +kernel
theorem dX3_open_19 : decode cX3_open 19 = .ok (.iload_n 1, 1) := by decide +kernel
theorem dX3_open_20 : decode cX3_open 20 = .ok (.castore, 1) := by decide +kernel
theorem dX3_open_21 : decode cX3_open 21 = .ok (.aload_n 0, 1) := by decide +kernel
theorem dX3_open_22 : decode cX3_open 22 = .ok (.getfield 15, 3) := by decide +kernel
theorem dX3_open_25 : decode cX3_open 25 = .ok (.aload_n 0, 1) := by decide +kernel
theorem dX3_open_26 : decode cX3_open 26 = .ok (.getfield 19, 3) := by decide +kernel
theorem dX3_open_29 : decode cX3_open 29 = .ok (.iconst 1, 1) := by decide +kernel
theorem dX3_open_30 : decode cX3_open 30 = .ok (.bastore, 1) := by decide +kernel
theorem dX3_open_31 : decode cX3_open 31 = .ok (.aload_n 0, 1) := by decide +kernel
theorem dX3_open_32 : decode cX3_open 32 = .ok (.dup, 1) := by decide +kernel
theorem dX3_open_33 : decode cX3_open 33 = .ok (.getfield 19, 3) := by decide +kernel
theorem dX3_open_36 : decode cX3_open 36 = .ok (.iconst 1, 1) := by decide +kernel
theorem dX3_open_37 : decode cX3_open 37 = .ok (.iadd, 1) := by decide +kernel
theorem dX3_open_38 : decode cX3_open 38 = .ok (.putfield 19, 3) := by decide +kernel
theorem dX3_open_41 : decode cX3_open 41 = .ok (.aload_n 0, 1) := by decide +kernel
theorem dX3_open_42 : decode cX3_open 42 = .ok (.getfield 19, 3) := by decide +kernel
theorem dX3_open_45 : decode cX3_open 45 = .ok (.iconst 1, 1) := by decide +kernel
theorem dX3_open_46 : decode cX3_open 46 = .ok (.isub, 1) := by decide +kernel
theorem dX3_open_47 : decode cX3_open 47 = .ok (.ireturn, 1) := by decide +kernel
theorem dX3_close_0 : decode cX3_close 0 = .ok (.aload_n 0, 1) := by decide +kernel
theorem dX3_close_1 : decode cX3_close 1 = .ok (.getfield 15, 3) := by decide +kernel
theorem dX3_close_4 : decode cX3_close 4 = .ok (.iload_n 1, 1) := by decide +kernel
theorem dX3_close_5 : decode cX3_close 5 = .ok (.iconst 0, 1) := by decide +kernel
theorem dX3_close_6 : decode cX3_close 6 = .ok (.bastore, 1) := by decide +kernel
theorem dX3_close_7 : decode cX3_close 7 = .ok (.return_, 1) := by decide +kernel
theorem dX3_kind_0 : decode cX3_kind 0 = .ok (.aload_n 0, 1) := by decide +kernel
theorem dX3_kind_1 : decode cX3_kind 1 = .ok (.getfield 9, 3) := by decide +kernel
theorem dX3_kind_4 : decode cX3_kind 4 = .ok (.iload_n 1, 1) := by decide +kernel
theorem dX3_kind_5 : decode cX3_kind 5 = .ok (.caload, 1) := by decide +kernel
theorem dX3_kind_6 : decode cX3_kind 6 = .ok (.ireturn, 1) := by decide +kernel
theorem dX3_isOpen_0 : decode cX3_isOpen 0 = .ok (.aload_n 0, 1) := by decide +kernel
theorem dX3_isOpen_1 : decode cX3_isOpen 1 = .ok (.getfield 15, 3) := by decide +kernel
theorem dX3_isOpen_4 : decode cX3_isOpen 4 = .ok (.iload_n 1, 1) := by decide +kernel
theorem dX3_isOpen_5 : decode cX3_isOpen 5 = .ok (.baload, 1) := by decide +kernel
theorem dX3_isOpen_6 : decode cX3_isOpen 6 = .ok (.ireturn, 1) := by decide +kernel
theorem dX4_init_0 : decode cX4_init 0 = .ok (.aload_n 0, 1) := by decide +kernel
theorem dX4_init_1 : decode cX4_init 1 = .ok (.invokespecial 3, 3) := by decide +kernel
theorem dX4_init_4 : decode cX4_init 4 = .ok (.aload_n 0, 1) := by decide +kernel
theorem dX4_init_5 : decode cX4_init 5 = .ok (.iconst 2, 1) := by decide +kernel
theorem dX4_init_6 : decode cX4_init 6 = .ok (.newarray .int, 2) := by decide +kernel
theorem dX4_init_8 : decode cX4_init 8 = .ok (.dup, 1) := by decide +kernel
theorem dX4_init_9 : decode cX4_init 9 = .ok (.iconst 0, 1) := by decide +kernel
theorem dX4_init_10 : decode cX4_init 10 = .ok (.bipush 10, 2) := by decide +kernel
theorem dX4_init_12 : decode cX4_init 12 = .ok (.iastore, 1) := by decide +kernel
theorem dX4_init_13 : decode cX4_init 13 = .ok (.dup, 1) := by decide +kernel
theorem dX4_init_14 : decode cX4_init 14 = .ok (.iconst 1, 1) := by decide +kernel
theorem dX4_init_15 : decode cX4_init 15 = .ok (.iconst 1, 1) := by decide +kernel
theorem dX4_init_16 : decode cX4_init 16 = .ok (.iastore, 1) := by decide +kernel
theorem dX4_init_17 : decode cX4_init 17 = .ok (.putfield 9, 3) := by decide +kernel
theorem dX4_init_20 : decode cX4_init 20 = .ok (.aload_n 0, 1) := by decide +kernel
theorem dX4_init_21 : decode cX4_init 21 = .ok (.iconst 2, 1) := by decide +kernel
theorem dX4_init_22 : decode cX4_init 22 = .ok (.newarray .int, 2) := by decide +kernel
theorem dX4_init_24 : decode cX4_init 24 = .ok (.dup, 1) := by decide +kernel
theorem dX4_init_25 : decode cX4_init 25 = .ok (.iconst 0, 1) := by decide +kernel
theorem dX4_init_26 : decode cX4_init 26 = .ok (.iconst 5, 1) := by decide +kernel
theorem dX4_init_27 : decode cX4_init 27 = .ok (.iastore, 1) := by decide +kernel
theorem dX4_init_28 : decode cX4_init 28 = .ok (.dup, 1) := by decide +kernel
theorem dX4_init_29 : decode cX4_init 29 = .ok (.iconst 1, 1) := by decide +kernel
theorem dX4_init_30 : decode cX4_init 30 = .ok (.iconst 5, 1) := by decide +kernel
theorem dX4_init_31 : decode cX4_init 31 = .ok (.iastore, 1) := by decide +kernel
theorem dX4_init_32 : decode cX4_init 32 = .ok (.putfield 15, 3) := by decide +kernel
theorem dX4_init_35 : decode cX4_init 35 = .ok (.aload_n 0, 1) := by decide +kernel
theorem dX4_init_36 : decode cX4_init 36 = .ok (.iconst 2, 1) := by decide +kernel
theorem dX4_init_37 : decode cX4_init 37 = .ok (.newarray .int, 2) := by decide +kernel
theorem dX4_init_39 : decode cX4_init 39 = .ok (.putfield 18, 3) := by decide +kernel
theorem dX4_init_42 : decode cX4_init 42 = .ok (.aload_n 0, 1) := by decide +kernel
theorem dX4_init_43 : decode cX4_init 43 = .ok (.bipush 12, 2) := by decide +kernel
theorem dX4_init_45 : decode cX4_init 45 = .ok (.newarray .int, 2) := by decide +kernel
theorem dX4_init_47 : decode cX4_init 47 = .ok (.putfield 21, 3) := by decide +kernel
theorem dX4_init_50 : decode cX4_init 50 = .ok (.return_, 1) := by decide +kernel
theorem dX4_face_0 : decode cX4_face 0 = .ok (.aload_n 0, 1) := by decide +kernel
theorem dX4_face_1 : decode cX4_face 1 = .ok (.getfield 9, 3) := by decide +kernel
theorem dX4_face_4 : decode cX4_face 4 = .ok (.iload_n 1, 1) := by decide +kernel
theorem dX4_face_5 : decode cX4_face 5 = .ok (.iaload, 1) := by decide +kernel
theorem dX4_face_6 : decode cX4_face 6 = .ok (.ireturn, 1) := by decide +kernel
theorem dX4_fullWeight_0 : decode cX4_fullWeight 0 = .ok (.aload_n 0, 1) := by decide +kernel
theorem dX4_fullWeight_1 : decode cX4_fullWeight 1 = .ok (.getfield 15, 3) := by decide +kernel
theorem dX4_fullWeight_4 : decode cX4_fullWeight 4 = .ok (.iload_n 1, 1) := by decide +kernel
theorem dX4_fullWeight_5 : decode cX4_fullWeight 5 = .ok (.iaload, 1) := by decide +kernel
theorem dX4_fullWeight_6 : decode cX4_fullWeight 6 = .ok (.ireturn, 1) := by decide +kernel
theorem dX4_tell_0 : decode cX4_tell 0 = .ok (.aload_n 0, 1) := by decide +kernel
theorem dX4_tell_1 : decode cX4_tell 1 = .ok (.getfield 9, 3) := by decide +kernel
theorem dX4_tell_4 : decode cX4_tell 4 = .ok (.iload_n 1, 1) := by decide +kernel
theorem dX4_tell_5 : decode cX4_tell 5 = .ok (.iload_n 2, 1) := by decide +kernel
theorem dX4_tell_6 : decode cX4_tell 6 = .ok (.iastore, 1) := by decide +kernel
theorem dX4_tell_7 : decode cX4_tell 7 = .ok (.aload_n 0, 1) := by decide +kernel
theorem dX4_tell_8 : decode cX4_tell 8 = .ok (.getfield 15, 3) := by decide +kernel
theorem dX4_tell_11 : decode cX4_tell 11 = .ok (.iload_n 1, 1) := by decide +kernel
theorem dX4_tell_12 : decode cX4_tell 12 = .ok (.iload_n 3, 1) := by decide +kernel
theorem dX4_tell_13 : decode cX4_tell 13 = .ok (.iastore, 1) := by decide +kernel
theorem dX4_tell_14 : decode cX4_tell 14 = .ok (.return_, 1) := by decide +kernel
theorem dX4_oreOf_0 : decode cX4_oreOf 0 = .ok (.aload_n 0, 1) := by decide +kernel
theorem dX4_oreOf_1 : decode cX4_oreOf 1 = .ok (.getfield 21, 3) := by decide +kernel
theorem dX4_oreOf_4 : decode cX4_oreOf 4 = .ok (.iload_n 1, 1) := by decide +kernel
theorem dX4_oreOf_5 : decode cX4_oreOf 5 = .ok (.iconst 2, 1) := by decide +kernel
theorem dX4_oreOf_6 : decode cX4_oreOf 6 = .ok (.imul, 1) := by decide +kernel
theorem dX4_oreOf_7 : decode cX4_oreOf 7 = .ok (.iload_n 2, 1) := by decide +kernel
theorem dX4_oreOf_8 : decode cX4_oreOf 8 = .ok (.iadd, 1) := by decide +kernel
theorem dX4_oreOf_9 : decode cX4_oreOf 9 = .ok (.iaload, 1) := by decide +kernel
theorem dX4_oreOf_10 : decode cX4_oreOf 10 = .ok (.ireturn, 1) := by decide +kernel
theorem dX4_addOre_0 : decode cX4_addOre 0 = .ok (.aload_n 0, 1) := by decide +kernel
theorem dX4_addOre_1 : decode cX4_addOre 1 = .ok (.getfield 21, 3) := by decide +kernel
theorem dX4_addOre_4 : decode cX4_addOre 4 = .ok (.iload_n 1, 1) := by decide +kernel
theorem dX4_addOre_5 : decode cX4_addOre 5 = .ok (.iconst 2, 1) := by decide +kernel
theorem dX4_addOre_6 : decode cX4_addOre 6 = .ok (.imul, 1) := by decide +kernel
theorem dX4_addOre_7 : decode cX4_addOre 7 = .ok (.iload_n 2, 1) := by decide +kernel
theorem dX4_addOre_8 : decode cX4_addOre 8 = .ok (.iadd, 1) := by decide +kernel
theorem dX4_addOre_9 : decode cX4_addOre 9 = .ok (.dup2, 1) := by decide +kernel
theorem dX4_addOre_10 : decode cX4_addOre 10 = .ok (.iaload, 1) := by decide +kernel
theorem dX4_addOre_11 : decode cX4_addOre 11 = .ok (.iload_n 3, 1) := by decide +kernel
theorem dX4_addOre_12 : decode cX4_addOre 12 = .ok (.iadd, 1) := by decide +kernel
theorem dX4_addOre_13 : decode cX4_addOre 13 = .ok (.iastore, 1) := by decide +kernel
theorem dX4_addOre_14 : decode cX4_addOre 14 = .ok (.return_, 1) := by decide +kernel
theorem dX4_unearth_0 : decode cX4_unearth 0 = .ok (.aload_n 0, 1) := by decide +kernel
theorem dX4_unearth_1 : decode cX4_unearth 1 = .ok (.iload_n 1, 1) := by decide +kernel
theorem dX4_unearth_2 : decode cX4_unearth 2 = .ok (.iload_n 2, 1) := by decide +kernel
theorem dX4_unearth_3 : decode cX4_unearth 3 = .ok (.iload_n 3, 1) := by decide +kernel
theorem dX4_unearth_4 : decode cX4_unearth 4 = .ok (.invokevirtual 24, 3) := by decide +kernel
theorem dX4_unearth_7 : decode cX4_unearth 7 = .ok (.aload_n 0, 1) := by decide +kernel
theorem dX4_unearth_8 : decode cX4_unearth 8 = .ok (.getfield 18, 3) := by decide +kernel
theorem dX4_unearth_11 : decode cX4_unearth 11 = .ok (.iload_n 2, 1) := by decide +kernel
theorem dX4_unearth_12 : decode cX4_unearth 12 = .ok (.dup2, 1) := by decide +kernel
theorem dX4_unearth_13 : decode cX4_unearth 13 = .ok (.iaload, 1) := by decide +kernel
theorem dX4_unearth_14 : decode cX4_unearth 14 = .ok (.iload_n 3, 1) := by decide +kernel
theorem dX4_unearth_15 : decode cX4_unearth 15 = .ok (.iadd, 1) := by decide +kernel
theorem dX4_unearth_16 : decode cX4_unearth 16 = .ok (.iastore, 1) := by decide +kernel
theorem dX4_unearth_17 : decode cX4_unearth 17 = .ok (.return_, 1) := by decide +kernel
theorem dX4_moveOre_0 : decode cX4_moveOre 0 = .ok (.aload_n 0, 1) := by decide +kernel
theorem dX4_moveOre_1 : decode cX4_moveOre 1 = .ok (.iload_n 1, 1) := by decide +kernel
theorem dX4_moveOre_2 : decode cX4_moveOre 2 = .ok (.iload_n 3, 1) := by decide +kernel
theorem dX4_moveOre_3 : decode cX4_moveOre 3 = .ok (.invokevirtual 28, 3) := by decide +kernel
theorem dX4_moveOre_6 : decode cX4_moveOre 6 = .ok (.istore 4, 2) := by decide +kernel
theorem dX4_moveOre_8 : decode cX4_moveOre 8 = .ok (.aload_n 0, 1) := by decide +kernel
theorem dX4_moveOre_9 : decode cX4_moveOre 9 = .ok (.iload_n 1, 1) := by decide +kernel
theorem dX4_moveOre_10 : decode cX4_moveOre 10 = .ok (.iload_n 3, 1) := by decide +kernel
theorem dX4_moveOre_11 : decode cX4_moveOre 11 = .ok (.iload 4, 2) := by decide +kernel
theorem dX4_moveOre_13 : decode cX4_moveOre 13 = .ok (.ineg, 1) := by decide +kernel
theorem dX4_moveOre_14 : decode cX4_moveOre 14 = .ok (.invokevirtual 24, 3) := by decide +kernel
theorem dX4_moveOre_17 : decode cX4_moveOre 17 = .ok (.aload_n 0, 1) := by decide +kernel
theorem dX4_moveOre_18 : decode cX4_moveOre 18 = .ok (.iload_n 2, 1) := by decide +kernel
theorem dX4_moveOre_19 : decode cX4_moveOre 19 = .ok (.iload_n 3, 1) := by decide +kernel
theorem dX4_moveOre_20 : decode cX4_moveOre 20 = .ok (.iload 4, 2) := by decide +kernel
theorem dX4_moveOre_22 : decode cX4_moveOre 22 = .ok (.invokevirtual 24, 3) := by decide +kernel
theorem dX4_moveOre_25 : decode cX4_moveOre 25 = .ok (.return_, 1) := by decide +kernel
theorem dX4_dug_0 : decode cX4_dug 0 = .ok (.aload_n 0, 1) := by decide +kernel
theorem dX4_dug_1 : decode cX4_dug 1 = .ok (.getfield 18, 3) := by decide +kernel
theorem dX4_dug_4 : decode cX4_dug 4 = .ok (.iload_n 1, 1) := by decide +kernel
theorem dX4_dug_5 : decode cX4_dug 5 = .ok (.iaload, 1) := by decide +kernel
theorem dX4_dug_6 : decode cX4_dug 6 = .ok (.ireturn, 1) := by decide +kernel
theorem dX4_oreOfAll_0 : decode cX4_oreOfAll 0 = .ok (.iconst 0, 1) := by decide +kernel
theorem dX4_oreOfAll_1 : decode cX4_oreOfAll 1 = .ok (.istore_n 2, 1) := by decide +kernel
theorem dX4_oreOfAll_2 : decode cX4_oreOfAll 2 = .ok (.iconst 0, 1) := by decide +kernel
theorem dX4_oreOfAll_3 : decode cX4_oreOfAll 3 = .ok (.istore_n 3, 1) := by decide +kernel
theorem dX4_oreOfAll_4 : decode cX4_oreOfAll 4 = .ok (.iload_n 3, 1) := by decide +kernel
theorem dX4_oreOfAll_5 : decode cX4_oreOfAll 5 = .ok (.bipush 6, 2) := by decide +kernel
theorem dX4_oreOfAll_7 : decode cX4_oreOfAll 7 = .ok (.if_icmp .ge 18, 3) := by decide +kernel
theorem dX4_oreOfAll_10 : decode cX4_oreOfAll 10 = .ok (.iload_n 2, 1) := by decide +kernel
theorem dX4_oreOfAll_11 : decode cX4_oreOfAll 11 = .ok (.aload_n 0, 1) := by decide +kernel
theorem dX4_oreOfAll_12 : decode cX4_oreOfAll 12 = .ok (.iload_n 3, 1) := by decide +kernel
theorem dX4_oreOfAll_13 : decode cX4_oreOfAll 13 = .ok (.iload_n 1, 1) := by decide +kernel
theorem dX4_oreOfAll_14 : decode cX4_oreOfAll 14 = .ok (.invokevirtual 28, 3) := by decide +kernel
theorem dX4_oreOfAll_17 : decode cX4_oreOfAll 17 = .ok (.iadd, 1) := by decide +kernel
theorem dX4_oreOfAll_18 : decode cX4_oreOfAll 18 = .ok (.istore_n 2, 1) := by decide +kernel
theorem dX4_oreOfAll_19 : decode cX4_oreOfAll 19 = .ok (.iinc 3 1, 3) := by decide +kernel
theorem dX4_oreOfAll_22 : decode cX4_oreOfAll 22 = .ok (.goto (-18), 3) := by decide +kernel
theorem dX4_oreOfAll_25 : decode cX4_oreOfAll 25 = .ok (.iload_n 2, 1) := by decide +kernel
theorem dX4_oreOfAll_26 : decode cX4_oreOfAll 26 = .ok (.ireturn, 1) := by decide +kernel
theorem dX5_init_0 : decode cX5_init 0 = .ok (.aload_n 0, 1) := by decide +kernel
theorem dX5_init_1 : decode cX5_init 1 = .ok (.invokespecial 3, 3) := by decide +kernel
theorem dX5_init_4 : decode cX5_init 4 = .ok (.aload_n 0, 1) := by decide +kernel
theorem dX5_init_5 : decode cX5_init 5 = .ok (.bipush 24, 2) := by decide +kernel
theorem dX5_init_7 : decode cX5_init 7 = .ok (.newarray .int, 2) := by decide +kernel
theorem dX5_init_9 : decode cX5_init 9 = .ok (.putfield 9, 3) := by decide +kernel
theorem dX5_init_12 : decode cX5_init 12 = .ok (.aload_n 0, 1) := by decide +kernel
theorem dX5_init_13 : decode cX5_init 13 = .ok (.bipush 6, 2) := by decide +kernel
theorem dX5_init_15 : decode cX5_init 15 = .ok (.newarray .int, 2) := by decide +kernel
theorem dX5_init_17 : decode cX5_init 17 = .ok (.putfield 15, 3) := by decide +kernel
theorem dX5_init_20 : decode cX5_init 20 = .ok (.aload_n 0, 1) := by decide +kernel
theorem dX5_init_21 : decode cX5_init 21 = .ok (.bipush 6, 2) := by decide +kernel
theorem dX5_init_23 : decode cX5_init 23 = .ok (.newarray .int, 2) := by decide +kernel
theorem dX5_init_25 : decode cX5_init 25 = .ok (.putfield 18, 3) := by decide +kernel
theorem dX5_init_28 : decode cX5_init 28 = .ok (.return_, 1) := by decide +kernel
theorem dX5_value_0 : decode cX5_value 0 = .ok (.aload_n 0, 1) := by decide +kernel
theorem dX5_value_1 : decode cX5_value 1 = .ok (.getfield 9, 3) := by decide +kernel
theorem dX5_value_4 : decode cX5_value 4 = .ok (.iload_n 1, 1) := by decide +kernel
theorem dX5_value_5 : decode cX5_value 5 = .ok (.bipush 6, 2) := by decide +kernel
theorem dX5_value_7 : decode cX5_value 7 = .ok (.imul, 1) := by decide +kernel
theorem dX5_value_8 : decode cX5_value 8 = .ok (.iload_n 2, 1) := by decide +kernel
theorem dX5_value_9 : decode cX5_value 9 = .ok (.iadd, 1) := by decide +kernel
theorem dX5_value_10 : decode cX5_value 10 = .ok (.iaload, 1) := by decide +kernel
theorem dX5_value_11 : decode cX5_value 11 = .ok (.ireturn, 1) := by decide +kernel
theorem dX5_addValue_0 : decode cX5_addValue 0 = .ok (.aload_n 0, 1) := by decide +kernel
theorem dX5_addValue_1 : decode cX5_addValue 1 = .ok (.getfield 9, 3) := by decide +kernel
theorem dX5_addValue_4 : decode cX5_addValue 4 = .ok (.iload_n 1, 1) := by decide +kernel
theorem dX5_addValue_5 : decode cX5_addValue 5 = .ok (.bipush 6, 2) := by decide +kernel
theorem dX5_addValue_7 : decode cX5_addValue 7 = .ok (.imul, 1) := by decide +kernel
theorem dX5_addValue_8 : decode cX5_addValue 8 = .ok (.iload_n 2, 1) := by decide +kernel
theorem dX5_addValue_9 : decode cX5_addValue 9 = .ok (.iadd, 1) := by decide +kernel
theorem dX5_addValue_10 : decode cX5_addValue 10 = .ok (.dup2, 1) := by decide +kernel
theorem dX5_addValue_11 : decode cX5_addValue 11 = .ok (.iaload, 1) := by decide +kernel
theorem dX5_addValue_12 : decode cX5_addValue 12 = .ok (.iload_n 3, 1) := by decide +kernel
theorem dX5_addValue_13 : decode cX5_addValue 13 = .ok (.iadd, 1) := by decide +kernel
theorem dX5_addValue_14 : decode cX5_addValue 14 = .ok (.iastore, 1) := by decide +kernel
theorem dX5_addValue_15 : decode cX5_addValue 15 = .ok (.return_, 1) := by decide +kernel
theorem dX5_borne_0 : decode cX5_borne 0 = .ok (.aload_n 0, 1) := by decide +kernel
theorem dX5_borne_1 : decode cX5_borne 1 = .ok (.getfield 15, 3) := by decide +kernel
theorem dX5_borne_4 : decode cX5_borne 4 = .ok (.iload_n 1, 1) := by decide +kernel
theorem dX5_borne_5 : decode cX5_borne 5 = .ok (.iaload, 1) := by decide +kernel
theorem dX5_borne_6 : decode cX5_borne 6 = .ok (.ireturn, 1) := by decide +kernel
theorem dX5_part_0 : decode cX5_part 0 = .ok (.aload_n 0, 1) := by decide +kernel
theorem dX5_part_1 : decode cX5_part 1 = .ok (.iload_n 1, 1) := by decide +kernel
theorem dX5_part_2 : decode cX5_part 2 = .ok (.invokevirtual 21, 3) := by decide +kernel
theorem dX5_part_5 : decode cX5_part 5 = .ok (.istore_n 3, 1) := by decide +kernel
theorem dX5_part_6 : decode cX5_part 6 = .ok (.iload_n 3, 1) := by decide +kernel
theorem dX5_part_7 : decode cX5_part 7 = .ok (.ifCond .ne 4, 3) := by decide +kernel
theorem dX5_part_10 : decode cX5_part 10 = .ok (.return_, 1) := by decide +kernel
theorem dX5_part_11 : decode cX5_part 11 = .ok (.iload_n 2, 1) := by decide +kernel
theorem dX5_part_12 : decode cX5_part 12 = .ok (.istore 4, 2) := by decide +kernel
theorem dX5_part_14 : decode cX5_part 14 = .ok (.iconst 0, 1) := by decide +kernel
theorem dX5_part_15 : decode cX5_part 15 = .ok (.istore 5, 2) := by decide +kernel
theorem dX5_part_17 : decode cX5_part 17 = .ok (.iload 5, 2) := by decide +kernel
theorem dX5_part_19 : decode cX5_part 19 = .ok (.bipush 6, 2) := by decide +kernel
theorem dX5_part_21 : decode cX5_part 21 = .ok (.if_icmp .ge 54, 3) := by decide +kernel
theorem dX5_part_24 : decode cX5_part 24 = .ok (.iload_n 2, 1) := by decide +kernel
theorem dX5_part_25 : decode cX5_part 25 = .ok (.aload_n 0, 1) := by decide +kernel
theorem dX5_part_26 : decode cX5_part 26 = .ok (.iload_n 1, 1) := by decide +kernel
theorem dX5_part_27 : decode cX5_part 27 = .ok (.iload 5, 2) := by decide +kernel
theorem dX5_part_29 : decode cX5_part 29 = .ok (.invokevirtual 25, 3) := by decide +kernel
theorem dX5_part_32 : decode cX5_part 32 = .ok (.imul, 1) := by decide +kernel
theorem dX5_part_33 : decode cX5_part 33 = .ok (.istore 6, 2) := by decide +kernel
theorem dX5_part_35 : decode cX5_part 35 = .ok (.aload_n 0, 1) := by decide +kernel
theorem dX5_part_36 : decode cX5_part 36 = .ok (.getfield 15, 3) := by decide +kernel
theorem dX5_part_39 : decode cX5_part 39 = .ok (.iload 5, 2) := by decide +kernel
theorem dX5_part_41 : decode cX5_part 41 = .ok (.iload 6, 2) := by decide +kernel
theorem dX5_part_43 : decode cX5_part 43 = .ok (.iload_n 3, 1) := by decide +kernel
theorem dX5_part_44 : decode cX5_part 44 = .ok (.idiv, 1) := by decide +kernel
theorem dX5_part_45 : decode cX5_part 45 = .ok (.iastore, 1) := by decide +kernel
theorem dX5_part_46 : decode cX5_part 46 = .ok (.aload_n 0, 1) := by decide +kernel
theorem dX5_part_47 : decode cX5_part 47 = .ok (.getfield 18, 3) := by decide +kernel
theorem dX5_part_50 : decode cX5_part 50 = .ok (.iload 5, 2) := by decide +kernel
theorem dX5_part_52 : decode cX5_part 52 = .ok (.iload 6, 2) := by decide +kernel
theorem dX5_part_54 : decode cX5_part 54 = .ok (.iload_n 3, 1) := by decide +kernel
theorem dX5_part_55 : decode cX5_part 55 = .ok (.irem, 1) := by decide +kernel
theorem dX5_part_56 : decode cX5_part 56 = .ok (.iastore, 1) := by decide +kernel
theorem dX5_part_57 : decode cX5_part 57 = .ok (.iload 4, 2) := by decide +kernel
theorem dX5_part_59 : decode cX5_part 59 = .ok (.aload_n 0, 1) := by decide +kernel
theorem dX5_part_60 : decode cX5_part 60 = .ok (.getfield 15, 3) := by decide +kernel
theorem dX5_part_63 : decode cX5_part 63 = .ok (.iload 5, 2) := by decide +kernel
theorem dX5_part_65 : decode cX5_part 65 = .ok (.iaload, 1) := by decide +kernel
theorem dX5_part_66 : decode cX5_part 66 = .ok (.isub, 1) := by decide +kernel
theorem dX5_part_67 : decode cX5_part 67 = .ok (.istore 4, 2) := by decide +kernel
theorem dX5_part_69 : decode cX5_part 69 = .ok (.iinc 5 1, 3) := by decide +kernel
theorem dX5_part_72 : decode cX5_part 72 = .ok (.goto (-55), 3) := by decide +kernel
theorem dX5_part_75 : decode cX5_part 75 = .ok (.iconst 0, 1) := by decide +kernel
theorem dX5_part_76 : decode cX5_part 76 = .ok (.istore 5, 2) := by decide +kernel
theorem dX5_part_78 : decode cX5_part 78 = .ok (.iload 5, 2) := by decide +kernel
theorem dX5_part_80 : decode cX5_part 80 = .ok (.iload 4, 2) := by decide +kernel
theorem dX5_part_82 : decode cX5_part 82 = .ok (.if_icmp .ge 41, 3) := by decide +kernel
theorem dX5_part_85 : decode cX5_part 85 = .ok (.iload 5, 2) := by decide +kernel
theorem dX5_part_87 : decode cX5_part 87 = .ok (.bipush 6, 2) := by decide +kernel
theorem dX5_part_89 : decode cX5_part 89 = .ok (.if_icmp .ge 34, 3) := by decide +kernel
theorem dX5_part_92 : decode cX5_part 92 = .ok (.aload_n 0, 1) := by decide +kernel
theorem dX5_part_93 : decode cX5_part 93 = .ok (.invokevirtual 29, 3) := by decide +kernel
theorem dX5_part_96 : decode cX5_part 96 = .ok (.istore 6, 2) := by decide +kernel
theorem dX5_part_98 : decode cX5_part 98 = .ok (.aload_n 0, 1) := by decide +kernel
theorem dX5_part_99 : decode cX5_part 99 = .ok (.getfield 15, 3) := by decide +kernel
theorem dX5_part_102 : decode cX5_part 102 = .ok (.iload 6, 2) := by decide +kernel
theorem dX5_part_104 : decode cX5_part 104 = .ok (.dup2, 1) := by decide +kernel
theorem dX5_part_105 : decode cX5_part 105 = .ok (.iaload, 1) := by decide +kernel
theorem dX5_part_106 : decode cX5_part 106 = .ok (.iconst 1, 1) := by decide +kernel
theorem dX5_part_107 : decode cX5_part 107 = .ok (.iadd, 1) := by decide +kernel
theorem dX5_part_108 : decode cX5_part 108 = .ok (.iastore, 1) := by decide +kernel
theorem dX5_part_109 : decode cX5_part 109 = .ok (.aload_n 0, 1) := by decide +kernel
theorem dX5_part_110 : decode cX5_part 110 = .ok (.getfield 18, 3) := by decide +kernel
theorem dX5_part_113 : decode cX5_part 113 = .ok (.iload 6, 2) := by decide +kernel
theorem dX5_part_115 : decode cX5_part 115 = .ok (.iconst (-1), 1) := by decide +kernel
theorem dX5_part_116 : decode cX5_part 116 = .ok (.iastore, 1) := by decide +kernel
theorem dX5_part_117 : decode cX5_part 117 = .ok (.iinc 5 1, 3) := by decide +kernel
theorem dX5_part_120 : decode cX5_part 120 = .ok (.goto (-42), 3) := by decide +kernel
theorem dX5_part_123 : decode cX5_part 123 = .ok (.return_, 1) := by decide +kernel
theorem dX5_valueOfAll_0 : decode cX5_valueOfAll 0 = .ok (.iconst 0, 1) := by decide +kernel
theorem dX5_valueOfAll_1 : decode cX5_valueOfAll 1 = .ok (.istore_n 2, 1) := by decide +kernel
theorem dX5_valueOfAll_2 : decode cX5_valueOfAll 2 = .ok (.iconst 0, 1) := by decide +kernel
theorem dX5_valueOfAll_3 : decode cX5_valueOfAll 3 = .ok (.istore_n 3, 1) := by decide +kernel
theorem dX5_valueOfAll_4 : decode cX5_valueOfAll 4 = .ok (.iload_n 3, 1) := by decide +kernel
theorem dX5_valueOfAll_5 : decode cX5_valueOfAll 5 = .ok (.bipush 6, 2) := by decide +kernel
theorem dX5_valueOfAll_7 : decode cX5_valueOfAll 7 = .ok (.if_icmp .ge 18, 3) := by decide +kernel
theorem dX5_valueOfAll_10 : decode cX5_valueOfAll 10 = .ok (.iload_n 2, 1) := by decide +kernel
theorem dX5_valueOfAll_11 : decode cX5_valueOfAll 11 = .ok (.aload_n 0, 1) := by decide +kernel
theorem dX5_valueOfAll_12 : decode cX5_valueOfAll 12 = .ok (.iload_n 1, 1) := by decide +kernel
theorem dX5_valueOfAll_13 : decode cX5_valueOfAll 13 = .ok (.iload_n 3, 1) := by decide +kernel
theorem dX5_valueOfAll_14 : decode cX5_valueOfAll 14 = .ok (.invokevirtual 25, 3) := by decide +kernel
theorem dX5_valueOfAll_17 : decode cX5_valueOfAll 17 = .ok (.iadd, 1) := by decide +kernel
theorem dX5_valueOfAll_18 : decode cX5_valueOfAll 18 = .ok (.istore_n 2, 1) := by decide +kernel
theorem dX5_valueOfAll_19 : decode cX5_valueOfAll 19 = .ok (.iinc 3 1, 3) := by decide +kernel
theorem dX5_valueOfAll_22 : decode cX5_valueOfAll 22 = .ok (.goto (-18), 3) := by decide +kernel
theorem dX5_valueOfAll_25 : decode cX5_valueOfAll 25 = .ok (.iload_n 2, 1) := by decide +kernel
theorem dX5_valueOfAll_26 : decode cX5_valueOfAll 26 = .ok (.ireturn, 1) := by decide +kernel
theorem dX5_greatestRemainder_0 : decode cX5_greatestRemainder 0 = .ok (.iconst 0, 1) := by decide +kernel
theorem dX5_greatestRemainder_1 : decode cX5_greatestRemainder 1 = .ok (.istore_n 1, 1) := by decide +kernel
theorem dX5_greatestRemainder_2 : decode cX5_greatestRemainder 2 = .ok (.iconst 1, 1) := by decide +kernel
theorem dX5_greatestRemainder_3 : decode cX5_greatestRemainder 3 = .ok (.istore_n 2, 1) := by decide +kernel
theorem dX5_greatestRemainder_4 : decode cX5_greatestRemainder 4 = .ok (.iload_n 2, 1) := by decide +kernel
theorem dX5_greatestRemainder_5 : decode cX5_greatestRemainder 5 = .ok (.bipush 6, 2) := by decide +kernel
theorem dX5_greatestRemainder_7 : decode cX5_greatestRemainder 7 = .ok (.if_icmp .ge 26, 3) := by decide +kernel
theorem dX5_greatestRemainder_10 : decode cX5_greatestRemainder 10 = .ok (.aload_n 0, 1) := by decide +kernel
theorem dX5_greatestRemainder_11 : decode cX5_greatestRemainder 11 = .ok (.getfield 18, 3) := by decide +kernel
theorem dX5_greatestRemainder_14 : decode cX5_greatestRemainder 14 = .ok (.iload_n 2, 1) := by decide +kernel
theorem dX5_greatestRemainder_15 : decode cX5_greatestRemainder 15 = .ok (.iaload, 1) := by decide +kernel
theorem dX5_greatestRemainder_16 : decode cX5_greatestRemainder 16 = .ok (.aload_n 0, 1) := by decide +kernel
theorem dX5_greatestRemainder_17 : decode cX5_greatestRemainder 17 = .ok (.getfield 18, 3) := by decide +kernel
theorem dX5_greatestRemainder_20 : decode cX5_greatestRemainder 20 = .ok (.iload_n 1, 1) := by decide +kernel
theorem dX5_greatestRemainder_21 : decode cX5_greatestRemainder 21 = .ok (.iaload, 1) := by decide +kernel
theorem dX5_greatestRemainder_22 : decode cX5_greatestRemainder 22 = .ok (.if_icmp .le 5, 3) := by decide +kernel
theorem dX5_greatestRemainder_25 : decode cX5_greatestRemainder 25 = .ok (.iload_n 2, 1) := by decide +kernel
theorem dX5_greatestRemainder_26 : decode cX5_greatestRemainder 26 = .ok (.istore_n 1, 1) := by decide +kernel
theorem dX5_greatestRemainder_27 : decode cX5_greatestRemainder 27 = .ok (.iinc 2 1, 3) := by decide +kernel
theorem dX5_greatestRemainder_30 : decode cX5_greatestRemainder 30 = .ok (.goto (-26), 3) := by decide +kernel
theorem dX5_greatestRemainder_33 : decode cX5_greatestRemainder 33 = .ok (.iload_n 1, 1) := by decide +kernel
theorem dX5_greatestRemainder_34 : decode cX5_greatestRemainder 34 = .ok (.ireturn, 1) := by decide +kernel
theorem dX6_init_0 : decode cX6_init 0 = .ok (.aload_n 0, 1) := by decide +kernel
theorem dX6_init_1 : decode cX6_init 1 = .ok (.invokespecial 1, 3) := by decide +kernel
theorem dX6_init_4 : decode cX6_init 4 = .ok (.aload_n 0, 1) := by decide +kernel
theorem dX6_init_5 : decode cX6_init 5 = .ok (.new 7, 3) := by decide +kernel
theorem dX6_init_8 : decode cX6_init 8 = .ok (.dup, 1) := by decide +kernel
theorem dX6_init_9 : decode cX6_init 9 = .ok (.invokespecial 9, 3) := by decide +kernel
theorem dX6_init_12 : decode cX6_init 12 = .ok (.putfield 10, 3) := by decide +kernel
theorem dX6_init_15 : decode cX6_init 15 = .ok (.aload_n 0, 1) := by decide +kernel
theorem dX6_init_16 : decode cX6_init 16 = .ok (.new 16, 3) := by decide +kernel
theorem dX6_init_19 : decode cX6_init 19 = .ok (.dup, 1) := by decide +kernel
theorem dX6_init_20 : decode cX6_init 20 = .ok (.invokespecial 18, 3) := by decide +kernel
theorem dX6_init_23 : decode cX6_init 23 = .ok (.putfield 19, 3) := by decide +kernel
theorem dX6_init_26 : decode cX6_init 26 = .ok (.aload_n 0, 1) := by decide +kernel
theorem dX6_init_27 : decode cX6_init 27 = .ok (.new 23, 3) := by decide +kernel
theorem dX6_init_30 : decode cX6_init 30 = .ok (.dup, 1) := by decide +kernel
theorem dX6_init_31 : decode cX6_init 31 = .ok (.invokespecial 25, 3) := by decide +kernel
theorem dX6_init_34 : decode cX6_init 34 = .ok (.putfield 26, 3) := by decide +kernel
theorem dX6_init_37 : decode cX6_init 37 = .ok (.aload_n 0, 1) := by decide +kernel
theorem dX6_init_38 : decode cX6_init 38 = .ok (.new 30, 3) := by decide +kernel
theorem dX6_init_41 : decode cX6_init 41 = .ok (.dup, 1) := by decide +kernel
theorem dX6_init_42 : decode cX6_init 42 = .ok (.invokespecial 32, 3) := by decide +kernel
theorem dX6_init_45 : decode cX6_init 45 = .ok (.putfield 33, 3) := by decide +kernel
theorem dX6_init_48 : decode cX6_init 48 = .ok (.aload_n 0, 1) := by decide +kernel
theorem dX6_init_49 : decode cX6_init 49 = .ok (.new 37, 3) := by decide +kernel
theorem dX6_init_52 : decode cX6_init 52 = .ok (.dup, 1) := by decide +kernel
theorem dX6_init_53 : decode cX6_init 53 = .ok (.invokespecial 39, 3) := by decide +kernel
theorem dX6_init_56 : decode cX6_init 56 = .ok (.putfield 40, 3) := by decide +kernel
theorem dX6_init_59 : decode cX6_init 59 = .ok (.aload_n 0, 1) := by decide +kernel
theorem dX6_init_60 : decode cX6_init 60 = .ok (.new 44, 3) := by decide +kernel
theorem dX6_init_63 : decode cX6_init 63 = .ok (.dup, 1) := by decide +kernel
theorem dX6_init_64 : decode cX6_init 64 = .ok (.invokespecial 46, 3) := by decide +kernel
theorem dX6_init_67 : decode cX6_init 67 = .ok (.putfield 47, 3) := by decide +kernel
theorem dX6_init_70 : decode cX6_init 70 = .ok (.aload_n 0, 1) := by decide +kernel
theorem dX6_init_71 : decode cX6_init 71 = .ok (.getfield 10, 3) := by decide +kernel
theorem dX6_init_74 : decode cX6_init 74 = .ok (.bipush 99, 2) := by decide +kernel
theorem dX6_init_76 : decode cX6_init 76 = .ok (.invokevirtual 51, 3) := by decide +kernel
theorem dX6_init_79 : decode cX6_init 79 = .ok (.pop, 1) := by decide +kernel
theorem dX6_init_80 : decode cX6_init 80 = .ok (.return_, 1) := by decide +kernel
theorem dX6_addHouse_0 : decode cX6_addHouse 0 = .ok (.iload_n 1, 1) := by decide +kernel
theorem dX6_addHouse_1 : decode cX6_addHouse 1 = .ok (.bipush 98, 2) := by decide +kernel
theorem dX6_addHouse_3 : decode cX6_addHouse 3 = .ok (.if_icmp .eq 19, 3) := by decide +kernel
theorem dX6_addHouse_6 : decode cX6_addHouse 6 = .ok (.iload_n 1, 1) := by decide +kernel
theorem dX6_addHouse_7 : decode cX6_addHouse 7 = .ok (.bipush 116, 2) := by decide +kernel
theorem dX6_addHouse_9 : decode cX6_addHouse 9 = .ok (.if_icmp .eq 13, 3) := by decide +kernel
theorem dX6_addHouse_12 : decode cX6_addHouse 12 = .ok (.new 55, 3) := by decide +kernel
theorem dX6_addHouse_15 : decode cX6_addHouse 15 = .ok (.dup, 1) := by decide +kernel
theorem dX6_addHouse_16 : decode cX6_addHouse 16 = .ok (.ldc 57, 2) := by decide +kernel
theorem dX6_addHouse_18 : decode cX6_addHouse 18 = .ok (.invokespecial 59, 3) := by decide +kernel
theorem dX6_addHouse_21 : decode cX6_addHouse 21 = .ok (.athrow, 1) := by decide +kernel
theorem dX6_addHouse_22 : decode cX6_addHouse 22 = .ok (.aload_n 0, 1) := by decide +kernel
theorem dX6_addHouse_23 : decode cX6_addHouse 23 = .ok (.getfield 10, 3) := by decide +kernel
theorem dX6_addHouse_26 : decode cX6_addHouse 26 = .ok (.invokevirtual 62, 3) := by decide +kernel
theorem dX6_addHouse_29 : decode cX6_addHouse 29 = .ok (.bipush 6, 2) := by decide +kernel
theorem dX6_addHouse_31 : decode cX6_addHouse 31 = .ok (.if_icmp .lt 13, 3) := by decide +kernel
theorem dX6_addHouse_34 : decode cX6_addHouse 34 = .ok (.new 66, 3) := by decide +kernel
theorem dX6_addHouse_37 : decode cX6_addHouse 37 = .ok (.dup, 1) := by decide +kernel
theorem dX6_addHouse_38 : decode cX6_addHouse 38 = .ok (.ldc 68, 2) := by decide +kernel
theorem dX6_addHouse_40 : decode cX6_addHouse 40 = .ok (.invokespecial 70, 3) := by decide +kernel
theorem dX6_addHouse_43 : decode cX6_addHouse 43 = .ok (.athrow, 1) := by decide +kernel
theorem dX6_addHouse_44 : decode cX6_addHouse 44 = .ok (.aload_n 0, 1) := by decide +kernel
theorem dX6_addHouse_45 : decode cX6_addHouse 45 = .ok (.getfield 10, 3) := by decide +kernel
theorem dX6_addHouse_48 : decode cX6_addHouse 48 = .ok (.iload_n 1, 1) := by decide +kernel
theorem dX6_addHouse_49 : decode cX6_addHouse 49 = .ok (.invokevirtual 51, 3) := by decide +kernel
theorem dX6_addHouse_52 : decode cX6_addHouse 52 = .ok (.ireturn, 1) := by decide +kernel
theorem dX6_kindOf_0 : decode cX6_kindOf 0 = .ok (.aload_n 0, 1) := by decide +kernel
theorem dX6_kindOf_1 : decode cX6_kindOf 1 = .ok (.iload_n 1, 1) := by decide +kernel
theorem dX6_kindOf_2 : decode cX6_kindOf 2 = .ok (.invokevirtual 71, 3) := by decide +kernel
theorem dX6_kindOf_5 : decode cX6_kindOf 5 = .ok (.aload_n 0, 1) := by decide +kernel
theorem dX6_kindOf_6 : decode cX6_kindOf 6 = .ok (.getfield 10, 3) := by decide +kernel
theorem dX6_kindOf_9 : decode cX6_kindOf 9 = .ok (.iload_n 1, 1) := by decide +kernel
theorem dX6_kindOf_10 : decode cX6_kindOf 10 = .ok (.invokevirtual 75, 3) := by decide +kernel
theorem dX6_kindOf_13 : decode cX6_kindOf 13 = .ok (.ifCond .eq 14, 3) := by decide +kernel
theorem dX6_kindOf_16 : decode cX6_kindOf 16 = .ok (.aload_n 0, 1) := by decide +kernel
theorem dX6_kindOf_17 : decode cX6_kindOf 17 = .ok (.getfield 10, 3) := by decide +kernel
theorem dX6_kindOf_20 : decode cX6_kindOf 20 = .ok (.iload_n 1, 1) := by decide +kernel
theorem dX6_kindOf_21 : decode cX6_kindOf 21 = .ok (.invokevirtual 79, 3) := by decide +kernel
theorem dX6_kindOf_24 : decode cX6_kindOf 24 = .ok (.goto 5, 3) := by decide +kernel
theorem dX6_kindOf_27 : decode cX6_kindOf 27 = .ok (.bipush 120, 2) := by decide +kernel
theorem dX6_kindOf_29 : decode cX6_kindOf 29 = .ok (.ireturn, 1) := by decide +kernel
theorem dX6_dig_0 : decode cX6_dig 0 = .ok (.aload_n 0, 1) := by decide +kernel
theorem dX6_dig_1 : decode cX6_dig 1 = .ok (.iload_n 1, 1) := by decide +kernel
theorem dX6_dig_2 : decode cX6_dig 2 = .ok (.invokevirtual 71, 3) := by decide +kernel
theorem dX6_dig_5 : decode cX6_dig 5 = .ok (.aload_n 0, 1) := by decide +kernel
theorem dX6_dig_6 : decode cX6_dig 6 = .ok (.iload_n 2, 1) := by decide +kernel
theorem dX6_dig_7 : decode cX6_dig 7 = .ok (.invokevirtual 83, 3) := by decide +kernel
theorem dX6_dig_10 : decode cX6_dig 10 = .ok (.istore 4, 2) := by decide +kernel
theorem dX6_dig_12 : decode cX6_dig 12 = .ok (.aload_n 0, 1) := by decide +kernel
theorem dX6_dig_13 : decode cX6_dig 13 = .ok (.iload_n 3, 1) := by decide +kernel
theorem dX6_dig_14 : decode cX6_dig 14 = .ok (.bipush 99, 2) := by decide +kernel
theorem dX6_dig_16 : decode cX6_dig 16 = .ok (.invokevirtual 86, 3) := by decide +kernel
theorem dX6_dig_19 : decode cX6_dig 19 = .ok (.aload_n 0, 1) := by decide +kernel
theorem dX6_dig_20 : decode cX6_dig 20 = .ok (.iload_n 1, 1) := by decide +kernel
theorem dX6_dig_21 : decode cX6_dig 21 = .ok (.invokevirtual 90, 3) := by decide +kernel
theorem dX6_dig_24 : decode cX6_dig 24 = .ok (.aload_n 0, 1) := by decide +kernel
theorem dX6_dig_25 : decode cX6_dig 25 = .ok (.getfield 19, 3) := by decide +kernel
theorem dX6_dig_28 : decode cX6_dig 28 = .ok (.iload_n 1, 1) := by decide +kernel
theorem dX6_dig_29 : decode cX6_dig 29 = .ok (.iload 4, 2) := by decide +kernel
theorem dX6_dig_31 : decode cX6_dig 31 = .ok (.iload_n 3, 1) := by decide +kernel
theorem dX6_dig_32 : decode cX6_dig 32 = .ok (.invokevirtual 93, 3) := by decide +kernel
theorem dX6_dig_35 : decode cX6_dig 35 = .ok (.aload_n 0, 1) := by decide +kernel
theorem dX6_dig_36 : decode cX6_dig 36 = .ok (.getfield 19, 3) := by decide +kernel
theorem dX6_dig_39 : decode cX6_dig 39 = .ok (.iload_n 1, 1) := by decide +kernel
theorem dX6_dig_40 : decode cX6_dig 40 = .ok (.iload 4, 2) := by decide +kernel
theorem dX6_dig_42 : decode cX6_dig 42 = .ok (.invokevirtual 97, 3) := by decide +kernel
theorem dX6_dig_45 : decode cX6_dig 45 = .ok (.ireturn, 1) := by decide +kernel
theorem dX6_decree_0 : decode cX6_decree 0 = .ok (.aload_n 0, 1) := by decide +kernel
theorem dX6_decree_1 : decode cX6_decree 1 = .ok (.iload_n 1, 1) := by decide +kernel
theorem dX6_decree_2 : decode cX6_decree 2 = .ok (.invokevirtual 83, 3) := by decide +kernel
theorem dX6_decree_5 : decode cX6_decree 5 = .ok (.istore 4, 2) := by decide +kernel
theorem dX6_decree_7 : decode cX6_decree 7 = .ok (.aload_n 0, 1) := by decide +kernel
theorem dX6_decree_8 : decode cX6_decree 8 = .ok (.iload_n 2, 1) := by decide +kernel
theorem dX6_decree_9 : decode cX6_decree 9 = .ok (.bipush 99, 2) := by decide +kernel
theorem dX6_decree_11 : decode cX6_decree 11 = .ok (.invokevirtual 86, 3) := by decide +kernel
theorem dX6_decree_14 : decode cX6_decree 14 = .ok (.aload_n 0, 1) := by decide +kernel
theorem dX6_decree_15 : decode cX6_decree 15 = .ok (.iload_n 3, 1) := by decide +kernel
theorem dX6_decree_16 : decode cX6_decree 16 = .ok (.bipush 9, 2) := by decide +kernel
theorem dX6_decree_18 : decode cX6_decree 18 = .ok (.invokevirtual 86, 3) := by decide +kernel
theorem dX6_decree_21 : decode cX6_decree 21 = .ok (.bipush 100, 2) := by decide +kernel
theorem dX6_decree_23 : decode cX6_decree 23 = .ok (.aload_n 0, 1) := by decide +kernel
theorem dX6_decree_24 : decode cX6_decree 24 = .ok (.getfield 19, 3) := by decide +kernel
theorem dX6_decree_27 : decode cX6_decree 27 = .ok (.iload 4, 2) := by decide +kernel
theorem dX6_decree_29 : decode cX6_decree 29 = .ok (.invokevirtual 101, 3) := by decide +kernel
theorem dX6_decree_32 : decode cX6_decree 32 = .ok (.imul, 1) := by decide +kernel
theorem dX6_decree_33 : decode cX6_decree 33 = .ok (.aload_n 0, 1) := by decide +kernel
theorem dX6_decree_34 : decode cX6_decree 34 = .ok (.getfield 19, 3) := by decide +kernel
theorem dX6_decree_37 : decode cX6_decree 37 = .ok (.iload 4, 2) := by decide +kernel
theorem dX6_decree_39 : decode cX6_decree 39 = .ok (.invokevirtual 105, 3) := by decide +kernel
theorem dX6_decree_42 : decode cX6_decree 42 = .ok (.iadd, 1) := by decide +kernel
theorem dX6_decree_43 : decode cX6_decree 43 = .ok (.istore 5, 2) := by decide +kernel
theorem dX6_decree_45 : decode cX6_decree 45 = .ok (.aload_n 0, 1) := by decide +kernel
theorem dX6_decree_46 : decode cX6_decree 46 = .ok (.getfield 19, 3) := by decide +kernel
theorem dX6_decree_49 : decode cX6_decree 49 = .ok (.iload 4, 2) := by decide +kernel
theorem dX6_decree_51 : decode cX6_decree 51 = .ok (.iload_n 2, 1) := by decide +kernel
theorem dX6_decree_52 : decode cX6_decree 52 = .ok (.iload_n 3, 1) := by decide +kernel
theorem dX6_decree_53 : decode cX6_decree 53 = .ok (.invokevirtual 108, 3) := by decide +kernel
theorem dX6_decree_56 : decode cX6_decree 56 = .ok (.iload 5, 2) := by decide +kernel
theorem dX6_decree_58 : decode cX6_decree 58 = .ok (.ireturn, 1) := by decide +kernel
theorem dX6_mint_0 : decode cX6_mint 0 = .ok (.aload_n 0, 1) := by decide +kernel
theorem dX6_mint_1 : decode cX6_mint 1 = .ok (.iload_n 1, 1) := by decide +kernel
theorem dX6_mint_2 : decode cX6_mint 2 = .ok (.invokevirtual 71, 3) := by decide +kernel
theorem dX6_mint_5 : decode cX6_mint 5 = .ok (.aload_n 0, 1) := by decide +kernel
theorem dX6_mint_6 : decode cX6_mint 6 = .ok (.iload_n 2, 1) := by decide +kernel
theorem dX6_mint_7 : decode cX6_mint 7 = .ok (.invokevirtual 83, 3) := by decide +kernel
theorem dX6_mint_10 : decode cX6_mint 10 = .ok (.istore 4, 2) := by decide +kernel
theorem dX6_mint_12 : decode cX6_mint 12 = .ok (.aload_n 0, 1) := by decide +kernel
theorem dX6_mint_13 : decode cX6_mint 13 = .ok (.iload_n 3, 1) := by decide +kernel
theorem dX6_mint_14 : decode cX6_mint 14 = .ok (.bipush 90, 2) := by decide +kernel
theorem dX6_mint_16 : decode cX6_mint 16 = .ok (.invokevirtual 86, 3) := by decide +kernel
theorem dX6_mint_19 : decode cX6_mint 19 = .ok (.aload_n 0, 1) := by decide +kernel
theorem dX6_mint_20 : decode cX6_mint 20 = .ok (.iload_n 1, 1) := by decide +kernel
theorem dX6_mint_21 : decode cX6_mint 21 = .ok (.invokevirtual 90, 3) := by decide +kernel
theorem dX6_mint_24 : decode cX6_mint 24 = .ok (.aload_n 0, 1) := by decide +kernel
theorem dX6_mint_25 : decode cX6_mint 25 = .ok (.getfield 19, 3) := by decide +kernel
theorem dX6_mint_28 : decode cX6_mint 28 = .ok (.iload_n 1, 1) := by decide +kernel
theorem dX6_mint_29 : decode cX6_mint 29 = .ok (.iload 4, 2) := by decide +kernel
theorem dX6_mint_31 : decode cX6_mint 31 = .ok (.invokevirtual 97, 3) := by decide +kernel
theorem dX6_mint_34 : decode cX6_mint 34 = .ok (.iload_n 3, 1) := by decide +kernel
theorem dX6_mint_35 : decode cX6_mint 35 = .ok (.aload_n 0, 1) := by decide +kernel
theorem dX6_mint_36 : decode cX6_mint 36 = .ok (.getfield 19, 3) := by decide +kernel
theorem dX6_mint_39 : decode cX6_mint 39 = .ok (.iload 4, 2) := by decide +kernel
theorem dX6_mint_41 : decode cX6_mint 41 = .ok (.invokevirtual 105, 3) := by decide +kernel
theorem dX6_mint_44 : decode cX6_mint 44 = .ok (.imul, 1) := by decide +kernel
theorem dX6_mint_45 : decode cX6_mint 45 = .ok (.if_icmp .ge 13, 3) := by decide +kernel
theorem dX6_mint_48 : decode cX6_mint 48 = .ok (.new 111, 3) := by decide +kernel
theorem dX6_mint_51 : decode cX6_mint 51 = .ok (.dup, 1) := by decide +kernel
theorem dX6_mint_52 : decode cX6_mint 52 = .ok (.ldc 113, 2) := by decide +kernel
theorem dX6_mint_54 : decode cX6_mint 54 = .ok (.invokespecial 115, 3) := by decide +kernel
theorem dX6_mint_57 : decode cX6_mint 57 = .ok (.athrow, 1) := by decide +kernel
theorem dX6_mint_58 : decode cX6_mint 58 = .ok (.iload_n 3, 1) := by decide +kernel
theorem dX6_mint_59 : decode cX6_mint 59 = .ok (.aload_n 0, 1) := by decide +kernel
theorem dX6_mint_60 : decode cX6_mint 60 = .ok (.getfield 26, 3) := by decide +kernel
theorem dX6_mint_63 : decode cX6_mint 63 = .ok (.invokevirtual 116, 3) := by decide +kernel
theorem dX6_mint_66 : decode cX6_mint 66 = .ok (.if_icmp .le 13, 3) := by decide +kernel
theorem dX6_mint_69 : decode cX6_mint 69 = .ok (.new 111, 3) := by decide +kernel
theorem dX6_mint_72 : decode cX6_mint 72 = .ok (.dup, 1) := by decide +kernel
theorem dX6_mint_73 : decode cX6_mint 73 = .ok (.ldc 119, 2) := by decide +kernel
theorem dX6_mint_75 : decode cX6_mint 75 = .ok (.invokespecial 115, 3) := by decide +kernel
theorem dX6_mint_78 : decode cX6_mint 78 = .ok (.athrow, 1) := by decide +kernel
theorem dX6_mint_79 : decode cX6_mint 79 = .ok (.aload_n 0, 1) := by decide +kernel
theorem dX6_mint_80 : decode cX6_mint 80 = .ok (.getfield 26, 3) := by decide +kernel
theorem dX6_mint_83 : decode cX6_mint 83 = .ok (.invokevirtual 121, 3) := by decide +kernel
theorem dX6_mint_86 : decode cX6_mint 86 = .ok (.istore 5, 2) := by decide +kernel
theorem dX6_mint_88 : decode cX6_mint 88 = .ok (.aload_n 0, 1) := by decide +kernel
theorem dX6_mint_89 : decode cX6_mint 89 = .ok (.iload_n 1, 1) := by decide +kernel
theorem dX6_mint_90 : decode cX6_mint 90 = .ok (.iload 4, 2) := by decide +kernel
theorem dX6_mint_92 : decode cX6_mint 92 = .ok (.iload_n 3, 1) := by decide +kernel
theorem dX6_mint_93 : decode cX6_mint 93 = .ok (.invokevirtual 122, 3) := by decide +kernel
theorem dX6_mint_96 : decode cX6_mint 96 = .ok (.pop, 1) := by decide +kernel
theorem dX6_mint_97 : decode cX6_mint 97 = .ok (.iload 5, 2) := by decide +kernel
theorem dX6_mint_99 : decode cX6_mint 99 = .ok (.ireturn, 1) := by decide +kernel
theorem dX6_clip_0 : decode cX6_clip 0 = .ok (.aload_n 0, 1) := by decide +kernel
theorem dX6_clip_1 : decode cX6_clip 1 = .ok (.iload_n 1, 1) := by decide +kernel
theorem dX6_clip_2 : decode cX6_clip 2 = .ok (.invokevirtual 126, 3) := by decide +kernel
theorem dX6_clip_5 : decode cX6_clip 5 = .ok (.aload_n 0, 1) := by decide +kernel
theorem dX6_clip_6 : decode cX6_clip 6 = .ok (.iload_n 2, 1) := by decide +kernel
theorem dX6_clip_7 : decode cX6_clip 7 = .ok (.bipush 9, 2) := by decide +kernel
theorem dX6_clip_9 : decode cX6_clip 9 = .ok (.invokevirtual 86, 3) := by decide +kernel
theorem dX6_clip_12 : decode cX6_clip 12 = .ok (.aload_n 0, 1) := by decide +kernel
theorem dX6_clip_13 : decode cX6_clip 13 = .ok (.iload_n 1, 1) := by decide +kernel
theorem dX6_clip_14 : decode cX6_clip 14 = .ok (.invokevirtual 129, 3) := by decide +kernel
theorem dX6_clip_17 : decode cX6_clip 17 = .ok (.aload_n 0, 1) := by decide +kernel
theorem dX6_clip_18 : decode cX6_clip 18 = .ok (.getfield 26, 3) := by decide +kernel
theorem dX6_clip_21 : decode cX6_clip 21 = .ok (.iload_n 1, 1) := by decide +kernel
theorem dX6_clip_22 : decode cX6_clip 22 = .ok (.invokevirtual 132, 3) := by decide +kernel
theorem dX6_clip_25 : decode cX6_clip 25 = .ok (.iload_n 2, 1) := by decide +kernel
theorem dX6_clip_26 : decode cX6_clip 26 = .ok (.isub, 1) := by decide +kernel
theorem dX6_clip_27 : decode cX6_clip 27 = .ok (.iconst 1, 1) := by decide +kernel
theorem dX6_clip_28 : decode cX6_clip 28 = .ok (.if_icmp .ge 13, 3) := by decide +kernel
theorem dX6_clip_31 : decode cX6_clip 31 = .ok (.new 111, 3) := by decide +kernel
theorem dX6_clip_34 : decode cX6_clip 34 = .ok (.dup, 1) := by decide +kernel
theorem dX6_clip_35 : decode cX6_clip 35 = .ok (.ldc 135, 2) := by decide +kernel
theorem dX6_clip_37 : decode cX6_clip 37 = .ok (.invokespecial 115, 3) := by decide +kernel
theorem dX6_clip_40 : decode cX6_clip 40 = .ok (.athrow, 1) := by decide +kernel
theorem dX6_clip_41 : decode cX6_clip 41 = .ok (.aload_n 0, 1) := by decide +kernel
theorem dX6_clip_42 : decode cX6_clip 42 = .ok (.getfield 26, 3) := by decide +kernel
theorem dX6_clip_45 : decode cX6_clip 45 = .ok (.iload_n 1, 1) := by decide +kernel
theorem dX6_clip_46 : decode cX6_clip 46 = .ok (.iload_n 2, 1) := by decide +kernel
theorem dX6_clip_47 : decode cX6_clip 47 = .ok (.invokevirtual 137, 3) := by decide +kernel
theorem dX6_clip_50 : decode cX6_clip 50 = .ok (.aload_n 0, 1) := by decide +kernel
theorem dX6_clip_51 : decode cX6_clip 51 = .ok (.getfield 19, 3) := by decide +kernel
theorem dX6_clip_54 : decode cX6_clip 54 = .ok (.aload_n 0, 1) := by decide +kernel
theorem dX6_clip_55 : decode cX6_clip 55 = .ok (.getfield 26, 3) := by decide +kernel
theorem dX6_clip_58 : decode cX6_clip 58 = .ok (.iload_n 1, 1) := by decide +kernel
theorem dX6_clip_59 : decode cX6_clip 59 = .ok (.invokevirtual 140, 3) := by decide +kernel
theorem dX6_clip_62 : decode cX6_clip 62 = .ok (.aload_n 0, 1) := by decide +kernel
theorem dX6_clip_63 : decode cX6_clip 63 = .ok (.getfield 26, 3) := by decide +kernel
theorem dX6_clip_66 : decode cX6_clip 66 = .ok (.iload_n 1, 1) := by decide +kernel
theorem dX6_clip_67 : decode cX6_clip 67 = .ok (.invokevirtual 143, 3) := by decide +kernel
theorem dX6_clip_70 : decode cX6_clip 70 = .ok (.iload_n 2, 1) := by decide +kernel
theorem dX6_clip_71 : decode cX6_clip 71 = .ok (.invokevirtual 146, 3) := by decide +kernel
theorem dX6_clip_74 : decode cX6_clip 74 = .ok (.aload_n 0, 1) := by decide +kernel
theorem dX6_clip_75 : decode cX6_clip 75 = .ok (.getfield 26, 3) := by decide +kernel
theorem dX6_clip_78 : decode cX6_clip 78 = .ok (.iload_n 1, 1) := by decide +kernel
theorem dX6_clip_79 : decode cX6_clip 79 = .ok (.invokevirtual 132, 3) := by decide +kernel
theorem dX6_clip_82 : decode cX6_clip 82 = .ok (.ireturn, 1) := by decide +kernel
theorem dX6_hoard_0 : decode cX6_hoard 0 = .ok (.aload_n 0, 1) := by decide +kernel
theorem dX6_hoard_1 : decode cX6_hoard 1 = .ok (.iload_n 1, 1) := by decide +kernel
theorem dX6_hoard_2 : decode cX6_hoard 2 = .ok (.invokevirtual 126, 3) := by decide +kernel
theorem dX6_hoard_5 : decode cX6_hoard 5 = .ok (.aload_n 0, 1) := by decide +kernel
theorem dX6_hoard_6 : decode cX6_hoard 6 = .ok (.iload_n 1, 1) := by decide +kernel
theorem dX6_hoard_7 : decode cX6_hoard 7 = .ok (.invokevirtual 129, 3) := by decide +kernel
theorem dX6_hoard_10 : decode cX6_hoard 10 = .ok (.aload_n 0, 1) := by decide +kernel
theorem dX6_hoard_11 : decode cX6_hoard 11 = .ok (.getfield 26, 3) := by decide +kernel
theorem dX6_hoard_14 : decode cX6_hoard 14 = .ok (.iload_n 1, 1) := by decide +kernel
theorem dX6_hoard_15 : decode cX6_hoard 15 = .ok (.invokevirtual 149, 3) := by decide +kernel
theorem dX6_hoard_18 : decode cX6_hoard 18 = .ok (.istore_n 3, 1) := by decide +kernel
theorem dX6_hoard_19 : decode cX6_hoard 19 = .ok (.aload_n 0, 1) := by decide +kernel
theorem dX6_hoard_20 : decode cX6_hoard 20 = .ok (.getfield 26, 3) := by decide +kernel
theorem dX6_hoard_23 : decode cX6_hoard 23 = .ok (.iload_n 1, 1) := by decide +kernel
theorem dX6_hoard_24 : decode cX6_hoard 24 = .ok (.iload_n 2, 1) := by decide +kernel
theorem dX6_hoard_25 : decode cX6_hoard 25 = .ok (.invokevirtual 152, 3) := by decide +kernel
theorem dX6_hoard_28 : decode cX6_hoard 28 = .ok (.iload_n 3, 1) := by decide +kernel
theorem dX6_hoard_29 : decode cX6_hoard 29 = .ok (.ireturn, 1) := by decide +kernel
theorem dX6_recoin_0 : decode cX6_recoin 0 = .ok (.aload_n 0, 1) := by decide +kernel
theorem dX6_recoin_1 : decode cX6_recoin 1 = .ok (.iload_n 1, 1) := by decide +kernel
theorem dX6_recoin_2 : decode cX6_recoin 2 = .ok (.invokevirtual 71, 3) := by decide +kernel
theorem dX6_recoin_5 : decode cX6_recoin 5 = .ok (.aload_n 0, 1) := by decide +kernel
theorem dX6_recoin_6 : decode cX6_recoin 6 = .ok (.iload_n 2, 1) := by decide +kernel
theorem dX6_recoin_7 : decode cX6_recoin 7 = .ok (.invokevirtual 83, 3) := by decide +kernel
theorem dX6_recoin_10 : decode cX6_recoin 10 = .ok (.istore_n 3, 1) := by decide +kernel
theorem dX6_recoin_11 : decode cX6_recoin 11 = .ok (.aload_n 0, 1) := by decide +kernel
theorem dX6_recoin_12 : decode cX6_recoin 12 = .ok (.iload_n 1, 1) := by decide +kernel
theorem dX6_recoin_13 : decode cX6_recoin 13 = .ok (.invokevirtual 90, 3) := by decide +kernel
theorem dX6_recoin_16 : decode cX6_recoin 16 = .ok (.aload_n 0, 1) := by decide +kernel
theorem dX6_recoin_17 : decode cX6_recoin 17 = .ok (.getfield 19, 3) := by decide +kernel
theorem dX6_recoin_20 : decode cX6_recoin 20 = .ok (.iload_n 1, 1) := by decide +kernel
theorem dX6_recoin_21 : decode cX6_recoin 21 = .ok (.iload_n 3, 1) := by decide +kernel
theorem dX6_recoin_22 : decode cX6_recoin 22 = .ok (.aload_n 0, 1) := by decide +kernel
theorem dX6_recoin_23 : decode cX6_recoin 23 = .ok (.getfield 26, 3) := by decide +kernel
theorem dX6_recoin_26 : decode cX6_recoin 26 = .ok (.iload_n 1, 1) := by decide +kernel
theorem dX6_recoin_27 : decode cX6_recoin 27 = .ok (.iload_n 3, 1) := by decide +kernel
theorem dX6_recoin_28 : decode cX6_recoin 28 = .ok (.invokevirtual 156, 3) := by decide +kernel
theorem dX6_recoin_31 : decode cX6_recoin 31 = .ok (.invokevirtual 146, 3) := by decide +kernel
theorem dX6_recoin_34 : decode cX6_recoin 34 = .ok (.aload_n 0, 1) := by decide +kernel
theorem dX6_recoin_35 : decode cX6_recoin 35 = .ok (.iload_n 1, 1) := by decide +kernel
theorem dX6_recoin_36 : decode cX6_recoin 36 = .ok (.iload_n 3, 1) := by decide +kernel
theorem dX6_recoin_37 : decode cX6_recoin 37 = .ok (.bipush 90, 2) := by decide +kernel
theorem dX6_recoin_39 : decode cX6_recoin 39 = .ok (.invokevirtual 122, 3) := by decide +kernel
theorem dX6_recoin_42 : decode cX6_recoin 42 = .ok (.ireturn, 1) := by decide +kernel
theorem dX6_pay_0 : decode cX6_pay 0 = .ok (.aload_n 0, 1) := by decide +kernel
theorem dX6_pay_1 : decode cX6_pay 1 = .ok (.iload_n 1, 1) := by decide +kernel
theorem dX6_pay_2 : decode cX6_pay 2 = .ok (.invokevirtual 71, 3) := by decide +kernel
theorem dX6_pay_5 : decode cX6_pay 5 = .ok (.aload_n 0, 1) := by decide +kernel
theorem dX6_pay_6 : decode cX6_pay 6 = .ok (.iload_n 2, 1) := by decide +kernel
theorem dX6_pay_7 : decode cX6_pay 7 = .ok (.invokevirtual 71, 3) := by decide +kernel
theorem dX6_pay_10 : decode cX6_pay 10 = .ok (.aload_n 0, 1) := by decide +kernel
theorem dX6_pay_11 : decode cX6_pay 11 = .ok (.iload_n 3, 1) := by decide +kernel
theorem dX6_pay_12 : decode cX6_pay 12 = .ok (.invokevirtual 83, 3) := by decide +kernel
theorem dX6_pay_15 : decode cX6_pay 15 = .ok (.istore 5, 2) := by decide +kernel
theorem dX6_pay_17 : decode cX6_pay 17 = .ok (.aload_n 0, 1) := by decide +kernel
theorem dX6_pay_18 : decode cX6_pay 18 = .ok (.iload 4, 2) := by decide +kernel
theorem dX6_pay_20 : decode cX6_pay 20 = .ok (.bipush 90, 2) := by decide +kernel
theorem dX6_pay_22 : decode cX6_pay 22 = .ok (.invokevirtual 86, 3) := by decide +kernel
theorem dX6_pay_25 : decode cX6_pay 25 = .ok (.aload_n 0, 1) := by decide +kernel
theorem dX6_pay_26 : decode cX6_pay 26 = .ok (.iload_n 1, 1) := by decide +kernel
theorem dX6_pay_27 : decode cX6_pay 27 = .ok (.iload_n 2, 1) := by decide +kernel
theorem dX6_pay_28 : decode cX6_pay 28 = .ok (.invokevirtual 159, 3) := by decide +kernel
theorem dX6_pay_31 : decode cX6_pay 31 = .ok (.aload_n 0, 1) := by decide +kernel
theorem dX6_pay_32 : decode cX6_pay 32 = .ok (.iload_n 1, 1) := by decide +kernel
theorem dX6_pay_33 : decode cX6_pay 33 = .ok (.invokevirtual 90, 3) := by decide +kernel
theorem dX6_pay_36 : decode cX6_pay 36 = .ok (.aload_n 0, 1) := by decide +kernel
theorem dX6_pay_37 : decode cX6_pay 37 = .ok (.iload_n 2, 1) := by decide +kernel
theorem dX6_pay_38 : decode cX6_pay 38 = .ok (.invokevirtual 90, 3) := by decide +kernel
theorem dX6_pay_41 : decode cX6_pay 41 = .ok (.aload_n 0, 1) := by decide +kernel
theorem dX6_pay_42 : decode cX6_pay 42 = .ok (.iload_n 1, 1) := by decide +kernel
theorem dX6_pay_43 : decode cX6_pay 43 = .ok (.iload 5, 2) := by decide +kernel
theorem dX6_pay_45 : decode cX6_pay 45 = .ok (.iload 4, 2) := by decide +kernel
theorem dX6_pay_47 : decode cX6_pay 47 = .ok (.invokevirtual 162, 3) := by decide +kernel
theorem dX6_pay_50 : decode cX6_pay 50 = .ok (.aload_n 0, 1) := by decide +kernel
theorem dX6_pay_51 : decode cX6_pay 51 = .ok (.getfield 26, 3) := by decide +kernel
theorem dX6_pay_54 : decode cX6_pay 54 = .ok (.iload_n 1, 1) := by decide +kernel
theorem dX6_pay_55 : decode cX6_pay 55 = .ok (.iload_n 2, 1) := by decide +kernel
theorem dX6_pay_56 : decode cX6_pay 56 = .ok (.iload 5, 2) := by decide +kernel
theorem dX6_pay_58 : decode cX6_pay 58 = .ok (.iload 4, 2) := by decide +kernel
theorem dX6_pay_60 : decode cX6_pay 60 = .ok (.invokevirtual 165, 3) := by decide +kernel
theorem dX6_pay_63 : decode cX6_pay 63 = .ok (.ireturn, 1) := by decide +kernel
theorem dX6_deposit_0 : decode cX6_deposit 0 = .ok (.aload_n 0, 1) := by decide +kernel
theorem dX6_deposit_1 : decode cX6_deposit 1 = .ok (.iload_n 1, 1) := by decide +kernel
theorem dX6_deposit_2 : decode cX6_deposit 2 = .ok (.invokevirtual 71, 3) := by decide +kernel
theorem dX6_deposit_5 : decode cX6_deposit 5 = .ok (.aload_n 0, 1) := by decide +kernel
theorem dX6_deposit_6 : decode cX6_deposit 6 = .ok (.iload_n 2, 1) := by decide +kernel
theorem dX6_deposit_7 : decode cX6_deposit 7 = .ok (.invokevirtual 71, 3) := by decide +kernel
theorem dX6_deposit_10 : decode cX6_deposit 10 = .ok (.aload_n 0, 1) := by decide +kernel
theorem dX6_deposit_11 : decode cX6_deposit 11 = .ok (.iload_n 3, 1) := by decide +kernel
theorem dX6_deposit_12 : decode cX6_deposit 12 = .ok (.invokevirtual 83, 3) := by decide +kernel
theorem dX6_deposit_15 : decode cX6_deposit 15 = .ok (.istore 5, 2) := by decide +kernel
theorem dX6_deposit_17 : decode cX6_deposit 17 = .ok (.aload_n 0, 1) := by decide +kernel
theorem dX6_deposit_18 : decode cX6_deposit 18 = .ok (.iload 4, 2) := by decide +kernel
theorem dX6_deposit_20 : decode cX6_deposit 20 = .ok (.bipush 90, 2) := by decide +kernel
theorem dX6_deposit_22 : decode cX6_deposit 22 = .ok (.invokevirtual 86, 3) := by decide +kernel
theorem dX6_deposit_25 : decode cX6_deposit 25 = .ok (.aload_n 0, 1) := by decide +kernel
theorem dX6_deposit_26 : decode cX6_deposit 26 = .ok (.iload_n 1, 1) := by decide +kernel
theorem dX6_deposit_27 : decode cX6_deposit 27 = .ok (.iload_n 2, 1) := by decide +kernel
theorem dX6_deposit_28 : decode cX6_deposit 28 = .ok (.invokevirtual 169, 3) := by decide +kernel
theorem dX6_deposit_31 : decode cX6_deposit 31 = .ok (.aload_n 0, 1) := by decide +kernel
theorem dX6_deposit_32 : decode cX6_deposit 32 = .ok (.iload_n 1, 1) := by decide +kernel
theorem dX6_deposit_33 : decode cX6_deposit 33 = .ok (.iload 5, 2) := by decide +kernel
theorem dX6_deposit_35 : decode cX6_deposit 35 = .ok (.iload 4, 2) := by decide +kernel
theorem dX6_deposit_37 : decode cX6_deposit 37 = .ok (.invokevirtual 162, 3) := by decide +kernel
theorem dX6_deposit_40 : decode cX6_deposit 40 = .ok (.aload_n 0, 1) := by decide +kernel
theorem dX6_deposit_41 : decode cX6_deposit 41 = .ok (.getfield 26, 3) := by decide +kernel
theorem dX6_deposit_44 : decode cX6_deposit 44 = .ok (.iload_n 1, 1) := by decide +kernel
theorem dX6_deposit_45 : decode cX6_deposit 45 = .ok (.iload_n 2, 1) := by decide +kernel
theorem dX6_deposit_46 : decode cX6_deposit 46 = .ok (.iload 5, 2) := by decide +kernel
theorem dX6_deposit_48 : decode cX6_deposit 48 = .ok (.iload 4, 2) := by decide +kernel
theorem dX6_deposit_50 : decode cX6_deposit 50 = .ok (.invokevirtual 165, 3) := by decide +kernel
theorem dX6_deposit_53 : decode cX6_deposit 53 = .ok (.pop, 1) := by decide +kernel
theorem dX6_deposit_54 : decode cX6_deposit 54 = .ok (.aload_n 0, 1) := by decide +kernel
theorem dX6_deposit_55 : decode cX6_deposit 55 = .ok (.getfield 33, 3) := by decide +kernel
theorem dX6_deposit_58 : decode cX6_deposit 58 = .ok (.iload_n 1, 1) := by decide +kernel
theorem dX6_deposit_59 : decode cX6_deposit 59 = .ok (.iload_n 2, 1) := by decide +kernel
theorem dX6_deposit_60 : decode cX6_deposit 60 = .ok (.iload 4, 2) := by decide +kernel
theorem dX6_deposit_62 : decode cX6_deposit 62 = .ok (.aload_n 0, 1) := by decide +kernel
theorem dX6_deposit_63 : decode cX6_deposit 63 = .ok (.getfield 19, 3) := by decide +kernel
theorem dX6_deposit_66 : decode cX6_deposit 66 = .ok (.iload 5, 2) := by decide +kernel
theorem dX6_deposit_68 : decode cX6_deposit 68 = .ok (.invokevirtual 101, 3) := by decide +kernel
theorem dX6_deposit_71 : decode cX6_deposit 71 = .ok (.imul, 1) := by decide +kernel
theorem dX6_deposit_72 : decode cX6_deposit 72 = .ok (.invokevirtual 172, 3) := by decide +kernel
theorem dX6_deposit_75 : decode cX6_deposit 75 = .ok (.aload_n 0, 1) := by decide +kernel
theorem dX6_deposit_76 : decode cX6_deposit 76 = .ok (.getfield 33, 3) := by decide +kernel
theorem dX6_deposit_79 : decode cX6_deposit 79 = .ok (.iload_n 1, 1) := by decide +kernel
theorem dX6_deposit_80 : decode cX6_deposit 80 = .ok (.iload_n 2, 1) := by decide +kernel
theorem dX6_deposit_81 : decode cX6_deposit 81 = .ok (.invokevirtual 175, 3) := by decide +kernel
theorem dX6_deposit_84 : decode cX6_deposit 84 = .ok (.ireturn, 1) := by decide +kernel
theorem dX6_withdraw_0 : decode cX6_withdraw 0 = .ok (.aload_n 0, 1) := by decide +kernel
theorem dX6_withdraw_1 : decode cX6_withdraw 1 = .ok (.iload_n 1, 1) := by decide +kernel
theorem dX6_withdraw_2 : decode cX6_withdraw 2 = .ok (.invokevirtual 71, 3) := by decide +kernel
theorem dX6_withdraw_5 : decode cX6_withdraw 5 = .ok (.aload_n 0, 1) := by decide +kernel
theorem dX6_withdraw_6 : decode cX6_withdraw 6 = .ok (.iload_n 2, 1) := by decide +kernel
theorem dX6_withdraw_7 : decode cX6_withdraw 7 = .ok (.invokevirtual 71, 3) := by decide +kernel
theorem dX6_withdraw_10 : decode cX6_withdraw 10 = .ok (.aload_n 0, 1) := by decide +kernel
theorem dX6_withdraw_11 : decode cX6_withdraw 11 = .ok (.iload_n 3, 1) := by decide +kernel
theorem dX6_withdraw_12 : decode cX6_withdraw 12 = .ok (.invokevirtual 83, 3) := by decide +kernel
theorem dX6_withdraw_15 : decode cX6_withdraw 15 = .ok (.istore 5, 2) := by decide +kernel
theorem dX6_withdraw_17 : decode cX6_withdraw 17 = .ok (.aload_n 0, 1) := by decide +kernel
theorem dX6_withdraw_18 : decode cX6_withdraw 18 = .ok (.iload 4, 2) := by decide +kernel
theorem dX6_withdraw_20 : decode cX6_withdraw 20 = .ok (.bipush 90, 2) := by decide +kernel
theorem dX6_withdraw_22 : decode cX6_withdraw 22 = .ok (.invokevirtual 86, 3) := by decide +kernel
theorem dX6_withdraw_25 : decode cX6_withdraw 25 = .ok (.aload_n 0, 1) := by decide +kernel
theorem dX6_withdraw_26 : decode cX6_withdraw 26 = .ok (.iload_n 1, 1) := by decide +kernel
theorem dX6_withdraw_27 : decode cX6_withdraw 27 = .ok (.iload_n 2, 1) := by decide +kernel
theorem dX6_withdraw_28 : decode cX6_withdraw 28 = .ok (.invokevirtual 169, 3) := by decide +kernel
theorem dX6_withdraw_31 : decode cX6_withdraw 31 = .ok (.iload 4, 2) := by decide +kernel
theorem dX6_withdraw_33 : decode cX6_withdraw 33 = .ok (.aload_n 0, 1) := by decide +kernel
theorem dX6_withdraw_34 : decode cX6_withdraw 34 = .ok (.getfield 19, 3) := by decide +kernel
theorem dX6_withdraw_37 : decode cX6_withdraw 37 = .ok (.iload 5, 2) := by decide +kernel
theorem dX6_withdraw_39 : decode cX6_withdraw 39 = .ok (.invokevirtual 101, 3) := by decide +kernel
theorem dX6_withdraw_42 : decode cX6_withdraw 42 = .ok (.imul, 1) := by decide +kernel
theorem dX6_withdraw_43 : decode cX6_withdraw 43 = .ok (.istore 6, 2) := by decide +kernel
theorem dX6_withdraw_45 : decode cX6_withdraw 45 = .ok (.aload_n 0, 1) := by decide +kernel
theorem dX6_withdraw_46 : decode cX6_withdraw 46 = .ok (.iload_n 1, 1) := by decide +kernel
theorem dX6_withdraw_47 : decode cX6_withdraw 47 = .ok (.iload_n 2, 1) := by decide +kernel
theorem dX6_withdraw_48 : decode cX6_withdraw 48 = .ok (.iload 6, 2) := by decide +kernel
theorem dX6_withdraw_50 : decode cX6_withdraw 50 = .ok (.invokevirtual 178, 3) := by decide +kernel
theorem dX6_withdraw_53 : decode cX6_withdraw 53 = .ok (.aload_n 0, 1) := by decide +kernel
theorem dX6_withdraw_54 : decode cX6_withdraw 54 = .ok (.getfield 26, 3) := by decide +kernel
theorem dX6_withdraw_57 : decode cX6_withdraw 57 = .ok (.iload_n 2, 1) := by decide +kernel
theorem dX6_withdraw_58 : decode cX6_withdraw 58 = .ok (.iload 5, 2) := by decide +kernel
theorem dX6_withdraw_60 : decode cX6_withdraw 60 = .ok (.invokevirtual 181, 3) := by decide +kernel
theorem dX6_withdraw_63 : decode cX6_withdraw 63 = .ok (.iload 4, 2) := by decide +kernel
theorem dX6_withdraw_65 : decode cX6_withdraw 65 = .ok (.if_icmp .ge 11, 3) := by decide +kernel
theorem dX6_withdraw_68 : decode cX6_withdraw 68 = .ok (.aload_n 0, 1) := by decide +kernel
theorem dX6_withdraw_69 : decode cX6_withdraw 69 = .ok (.iload_n 2, 1) := by decide +kernel
theorem dX6_withdraw_70 : decode cX6_withdraw 70 = .ok (.invokevirtual 184, 3) := by decide +kernel
theorem dX6_withdraw_73 : decode cX6_withdraw 73 = .ok (.bipush 120, 2) := by decide +kernel
theorem dX6_withdraw_75 : decode cX6_withdraw 75 = .ok (.ireturn, 1) := by decide +kernel
theorem dX6_withdraw_76 : decode cX6_withdraw 76 = .ok (.aload_n 0, 1) := by decide +kernel
theorem dX6_withdraw_77 : decode cX6_withdraw 77 = .ok (.getfield 26, 3) := by decide +kernel
theorem dX6_withdraw_80 : decode cX6_withdraw 80 = .ok (.iload_n 2, 1) := by decide +kernel
theorem dX6_withdraw_81 : decode cX6_withdraw 81 = .ok (.iload_n 1, 1) := by decide +kernel
theorem dX6_withdraw_82 : decode cX6_withdraw 82 = .ok (.iload 5, 2) := by decide +kernel
theorem dX6_withdraw_84 : decode cX6_withdraw 84 = .ok (.iload 4, 2) := by decide +kernel
theorem dX6_withdraw_86 : decode cX6_withdraw 86 = .ok (.invokevirtual 165, 3) := by decide +kernel
theorem dX6_withdraw_89 : decode cX6_withdraw 89 = .ok (.pop, 1) := by decide +kernel
theorem dX6_withdraw_90 : decode cX6_withdraw 90 = .ok (.aload_n 0, 1) := by decide +kernel
theorem dX6_withdraw_91 : decode cX6_withdraw 91 = .ok (.getfield 33, 3) := by decide +kernel
theorem dX6_withdraw_94 : decode cX6_withdraw 94 = .ok (.iload_n 1, 1) := by decide +kernel
theorem dX6_withdraw_95 : decode cX6_withdraw 95 = .ok (.iload_n 2, 1) := by decide +kernel
theorem dX6_withdraw_96 : decode cX6_withdraw 96 = .ok (.iload 6, 2) := by decide +kernel
theorem dX6_withdraw_98 : decode cX6_withdraw 98 = .ok (.ineg, 1) := by decide +kernel
theorem dX6_withdraw_99 : decode cX6_withdraw 99 = .ok (.invokevirtual 172, 3) := by decide +kernel
theorem dX6_withdraw_102 : decode cX6_withdraw 102 = .ok (.bipush 112, 2) := by decide +kernel
theorem dX6_withdraw_104 : decode cX6_withdraw 104 = .ok (.ireturn, 1) := by decide +kernel
theorem dX6_lend_0 : decode cX6_lend 0 = .ok (.aload_n 0, 1) := by decide +kernel
theorem dX6_lend_1 : decode cX6_lend 1 = .ok (.iload_n 1, 1) := by decide +kernel
theorem dX6_lend_2 : decode cX6_lend 2 = .ok (.invokevirtual 71, 3) := by decide +kernel
theorem dX6_lend_5 : decode cX6_lend 5 = .ok (.aload_n 0, 1) := by decide +kernel
theorem dX6_lend_6 : decode cX6_lend 6 = .ok (.iload_n 2, 1) := by decide +kernel
theorem dX6_lend_7 : decode cX6_lend 7 = .ok (.invokevirtual 71, 3) := by decide +kernel
theorem dX6_lend_10 : decode cX6_lend 10 = .ok (.aload_n 0, 1) := by decide +kernel
theorem dX6_lend_11 : decode cX6_lend 11 = .ok (.iload_n 3, 1) := by decide +kernel
theorem dX6_lend_12 : decode cX6_lend 12 = .ok (.sipush 9999, 3) := by decide +kernel
theorem dX6_lend_15 : decode cX6_lend 15 = .ok (.invokevirtual 86, 3) := by decide +kernel
theorem dX6_lend_18 : decode cX6_lend 18 = .ok (.aload_n 0, 1) := by decide +kernel
theorem dX6_lend_19 : decode cX6_lend 19 = .ok (.iload_n 2, 1) := by decide +kernel
theorem dX6_lend_20 : decode cX6_lend 20 = .ok (.iload_n 1, 1) := by decide +kernel
theorem dX6_lend_21 : decode cX6_lend 21 = .ok (.invokevirtual 169, 3) := by decide +kernel
theorem dX6_lend_24 : decode cX6_lend 24 = .ok (.aload_n 0, 1) := by decide +kernel
theorem dX6_lend_25 : decode cX6_lend 25 = .ok (.getfield 33, 3) := by decide +kernel
theorem dX6_lend_28 : decode cX6_lend 28 = .ok (.iload_n 2, 1) := by decide +kernel
theorem dX6_lend_29 : decode cX6_lend 29 = .ok (.iload_n 1, 1) := by decide +kernel
theorem dX6_lend_30 : decode cX6_lend 30 = .ok (.iload_n 3, 1) := by decide +kernel
theorem dX6_lend_31 : decode cX6_lend 31 = .ok (.invokevirtual 172, 3) := by decide +kernel
theorem dX6_lend_34 : decode cX6_lend 34 = .ok (.aload_n 0, 1) := by decide +kernel
theorem dX6_lend_35 : decode cX6_lend 35 = .ok (.getfield 33, 3) := by decide +kernel
theorem dX6_lend_38 : decode cX6_lend 38 = .ok (.iload_n 1, 1) := by decide +kernel
theorem dX6_lend_39 : decode cX6_lend 39 = .ok (.iload_n 2, 1) := by decide +kernel
theorem dX6_lend_40 : decode cX6_lend 40 = .ok (.iload_n 3, 1) := by decide +kernel
theorem dX6_lend_41 : decode cX6_lend 41 = .ok (.invokevirtual 172, 3) := by decide +kernel
theorem dX6_lend_44 : decode cX6_lend 44 = .ok (.aload_n 0, 1) := by decide +kernel
theorem dX6_lend_45 : decode cX6_lend 45 = .ok (.getfield 33, 3) := by decide +kernel
theorem dX6_lend_48 : decode cX6_lend 48 = .ok (.iload_n 2, 1) := by decide +kernel
theorem dX6_lend_49 : decode cX6_lend 49 = .ok (.iload_n 1, 1) := by decide +kernel
theorem dX6_lend_50 : decode cX6_lend 50 = .ok (.invokevirtual 175, 3) := by decide +kernel
theorem dX6_lend_53 : decode cX6_lend 53 = .ok (.ireturn, 1) := by decide +kernel
theorem dX6_hand_0 : decode cX6_hand 0 = .ok (.aload_n 0, 1) := by decide +kernel
theorem dX6_hand_1 : decode cX6_hand 1 = .ok (.iload_n 1, 1) := by decide +kernel
theorem dX6_hand_2 : decode cX6_hand 2 = .ok (.invokevirtual 71, 3) := by decide +kernel
theorem dX6_hand_5 : decode cX6_hand 5 = .ok (.aload_n 0, 1) := by decide +kernel
theorem dX6_hand_6 : decode cX6_hand 6 = .ok (.iload_n 2, 1) := by decide +kernel
theorem dX6_hand_7 : decode cX6_hand 7 = .ok (.invokevirtual 71, 3) := by decide +kernel
theorem dX6_hand_10 : decode cX6_hand 10 = .ok (.aload_n 0, 1) := by decide +kernel
theorem dX6_hand_11 : decode cX6_hand 11 = .ok (.iload_n 3, 1) := by decide +kernel
theorem dX6_hand_12 : decode cX6_hand 12 = .ok (.invokevirtual 71, 3) := by decide +kernel
theorem dX6_hand_15 : decode cX6_hand 15 = .ok (.aload_n 0, 1) := by decide +kernel
theorem dX6_hand_16 : decode cX6_hand 16 = .ok (.iload 4, 2) := by decide +kernel
theorem dX6_hand_18 : decode cX6_hand 18 = .ok (.sipush 9999, 3) := by decide +kernel
theorem dX6_hand_21 : decode cX6_hand 21 = .ok (.invokevirtual 86, 3) := by decide +kernel
theorem dX6_hand_24 : decode cX6_hand 24 = .ok (.aload_n 0, 1) := by decide +kernel
theorem dX6_hand_25 : decode cX6_hand 25 = .ok (.iload_n 1, 1) := by decide +kernel
theorem dX6_hand_26 : decode cX6_hand 26 = .ok (.iload_n 2, 1) := by decide +kernel
theorem dX6_hand_27 : decode cX6_hand 27 = .ok (.invokevirtual 159, 3) := by decide +kernel
theorem dX6_hand_30 : decode cX6_hand 30 = .ok (.aload_n 0, 1) := by decide +kernel
theorem dX6_hand_31 : decode cX6_hand 31 = .ok (.iload_n 2, 1) := by decide +kernel
theorem dX6_hand_32 : decode cX6_hand 32 = .ok (.iload_n 3, 1) := by decide +kernel
theorem dX6_hand_33 : decode cX6_hand 33 = .ok (.invokevirtual 159, 3) := by decide +kernel
theorem dX6_hand_36 : decode cX6_hand 36 = .ok (.aload_n 0, 1) := by decide +kernel
theorem dX6_hand_37 : decode cX6_hand 37 = .ok (.iload_n 1, 1) := by decide +kernel
theorem dX6_hand_38 : decode cX6_hand 38 = .ok (.iload_n 3, 1) := by decide +kernel
theorem dX6_hand_39 : decode cX6_hand 39 = .ok (.invokevirtual 169, 3) := by decide +kernel
theorem dX6_hand_42 : decode cX6_hand 42 = .ok (.aload_n 0, 1) := by decide +kernel
theorem dX6_hand_43 : decode cX6_hand 43 = .ok (.iload_n 2, 1) := by decide +kernel
theorem dX6_hand_44 : decode cX6_hand 44 = .ok (.invokevirtual 90, 3) := by decide +kernel
theorem dX6_hand_47 : decode cX6_hand 47 = .ok (.aload_n 0, 1) := by decide +kernel
theorem dX6_hand_48 : decode cX6_hand 48 = .ok (.iload_n 1, 1) := by decide +kernel
theorem dX6_hand_49 : decode cX6_hand 49 = .ok (.iload_n 3, 1) := by decide +kernel
theorem dX6_hand_50 : decode cX6_hand 50 = .ok (.iload 4, 2) := by decide +kernel
theorem dX6_hand_52 : decode cX6_hand 52 = .ok (.invokevirtual 178, 3) := by decide +kernel
theorem dX6_hand_55 : decode cX6_hand 55 = .ok (.aload_n 0, 1) := by decide +kernel
theorem dX6_hand_56 : decode cX6_hand 56 = .ok (.getfield 33, 3) := by decide +kernel
theorem dX6_hand_59 : decode cX6_hand 59 = .ok (.iload_n 1, 1) := by decide +kernel
theorem dX6_hand_60 : decode cX6_hand 60 = .ok (.iload_n 3, 1) := by decide +kernel
theorem dX6_hand_61 : decode cX6_hand 61 = .ok (.iload 4, 2) := by decide +kernel
theorem dX6_hand_63 : decode cX6_hand 63 = .ok (.ineg, 1) := by decide +kernel
theorem dX6_hand_64 : decode cX6_hand 64 = .ok (.invokevirtual 172, 3) := by decide +kernel
theorem dX6_hand_67 : decode cX6_hand 67 = .ok (.aload_n 0, 1) := by decide +kernel
theorem dX6_hand_68 : decode cX6_hand 68 = .ok (.getfield 33, 3) := by decide +kernel
theorem dX6_hand_71 : decode cX6_hand 71 = .ok (.iload_n 2, 1) := by decide +kernel
theorem dX6_hand_72 : decode cX6_hand 72 = .ok (.iload_n 3, 1) := by decide +kernel
theorem dX6_hand_73 : decode cX6_hand 73 = .ok (.iload 4, 2) := by decide +kernel
theorem dX6_hand_75 : decode cX6_hand 75 = .ok (.invokevirtual 172, 3) := by decide +kernel
theorem dX6_hand_78 : decode cX6_hand 78 = .ok (.aload_n 0, 1) := by decide +kernel
theorem dX6_hand_79 : decode cX6_hand 79 = .ok (.getfield 33, 3) := by decide +kernel
theorem dX6_hand_82 : decode cX6_hand 82 = .ok (.iload_n 1, 1) := by decide +kernel
theorem dX6_hand_83 : decode cX6_hand 83 = .ok (.iload_n 3, 1) := by decide +kernel
theorem dX6_hand_84 : decode cX6_hand 84 = .ok (.invokevirtual 175, 3) := by decide +kernel
theorem dX6_hand_87 : decode cX6_hand 87 = .ok (.ireturn, 1) := by decide +kernel
theorem dX6_forgive_0 : decode cX6_forgive 0 = .ok (.aload_n 0, 1) := by decide +kernel
theorem dX6_forgive_1 : decode cX6_forgive 1 = .ok (.iload_n 1, 1) := by decide +kernel
theorem dX6_forgive_2 : decode cX6_forgive 2 = .ok (.invokevirtual 71, 3) := by decide +kernel
theorem dX6_forgive_5 : decode cX6_forgive 5 = .ok (.aload_n 0, 1) := by decide +kernel
theorem dX6_forgive_6 : decode cX6_forgive 6 = .ok (.iload_n 2, 1) := by decide +kernel
theorem dX6_forgive_7 : decode cX6_forgive 7 = .ok (.invokevirtual 71, 3) := by decide +kernel
theorem dX6_forgive_10 : decode cX6_forgive 10 = .ok (.aload_n 0, 1) := by decide +kernel
theorem dX6_forgive_11 : decode cX6_forgive 11 = .ok (.iload_n 3, 1) := by decide +kernel
theorem dX6_forgive_12 : decode cX6_forgive 12 = .ok (.sipush 9999, 3) := by decide +kernel
theorem dX6_forgive_15 : decode cX6_forgive 15 = .ok (.invokevirtual 86, 3) := by decide +kernel
theorem dX6_forgive_18 : decode cX6_forgive 18 = .ok (.aload_n 0, 1) := by decide +kernel
theorem dX6_forgive_19 : decode cX6_forgive 19 = .ok (.iload_n 1, 1) := by decide +kernel
theorem dX6_forgive_20 : decode cX6_forgive 20 = .ok (.iload_n 2, 1) := by decide +kernel
theorem dX6_forgive_21 : decode cX6_forgive 21 = .ok (.iload_n 3, 1) := by decide +kernel
theorem dX6_forgive_22 : decode cX6_forgive 22 = .ok (.invokevirtual 178, 3) := by decide +kernel
theorem dX6_forgive_25 : decode cX6_forgive 25 = .ok (.aload_n 0, 1) := by decide +kernel
theorem dX6_forgive_26 : decode cX6_forgive 26 = .ok (.getfield 33, 3) := by decide +kernel
theorem dX6_forgive_29 : decode cX6_forgive 29 = .ok (.iload_n 1, 1) := by decide +kernel
theorem dX6_forgive_30 : decode cX6_forgive 30 = .ok (.iload_n 2, 1) := by decide +kernel
theorem dX6_forgive_31 : decode cX6_forgive 31 = .ok (.iload_n 3, 1) := by decide +kernel
theorem dX6_forgive_32 : decode cX6_forgive 32 = .ok (.ineg, 1) := by decide +kernel
theorem dX6_forgive_33 : decode cX6_forgive 33 = .ok (.invokevirtual 172, 3) := by decide +kernel
theorem dX6_forgive_36 : decode cX6_forgive 36 = .ok (.aload_n 0, 1) := by decide +kernel
theorem dX6_forgive_37 : decode cX6_forgive 37 = .ok (.getfield 33, 3) := by decide +kernel
theorem dX6_forgive_40 : decode cX6_forgive 40 = .ok (.iload_n 1, 1) := by decide +kernel
theorem dX6_forgive_41 : decode cX6_forgive 41 = .ok (.iload_n 2, 1) := by decide +kernel
theorem dX6_forgive_42 : decode cX6_forgive 42 = .ok (.invokevirtual 175, 3) := by decide +kernel
theorem dX6_forgive_45 : decode cX6_forgive 45 = .ok (.ireturn, 1) := by decide +kernel
theorem dX6_claim_0 : decode cX6_claim 0 = .ok (.aload_n 0, 1) := by decide +kernel
theorem dX6_claim_1 : decode cX6_claim 1 = .ok (.iload_n 1, 1) := by decide +kernel
theorem dX6_claim_2 : decode cX6_claim 2 = .ok (.invokevirtual 71, 3) := by decide +kernel
theorem dX6_claim_5 : decode cX6_claim 5 = .ok (.aload_n 0, 1) := by decide +kernel
theorem dX6_claim_6 : decode cX6_claim 6 = .ok (.iload_n 2, 1) := by decide +kernel
theorem dX6_claim_7 : decode cX6_claim 7 = .ok (.invokevirtual 71, 3) := by decide +kernel
theorem dX6_claim_10 : decode cX6_claim 10 = .ok (.aload_n 0, 1) := by decide +kernel
theorem dX6_claim_11 : decode cX6_claim 11 = .ok (.getfield 33, 3) := by decide +kernel
theorem dX6_claim_14 : decode cX6_claim 14 = .ok (.iload_n 1, 1) := by decide +kernel
theorem dX6_claim_15 : decode cX6_claim 15 = .ok (.iload_n 2, 1) := by decide +kernel
theorem dX6_claim_16 : decode cX6_claim 16 = .ok (.invokevirtual 175, 3) := by decide +kernel
theorem dX6_claim_19 : decode cX6_claim 19 = .ok (.ireturn, 1) := by decide +kernel
theorem dX6_draw_0 : decode cX6_draw 0 = .ok (.aload_n 0, 1) := by decide +kernel
theorem dX6_draw_1 : decode cX6_draw 1 = .ok (.iload_n 1, 1) := by decide +kernel
theorem dX6_draw_2 : decode cX6_draw 2 = .ok (.invokevirtual 71, 3) := by decide +kernel
theorem dX6_draw_5 : decode cX6_draw 5 = .ok (.aload_n 0, 1) := by decide +kernel
theorem dX6_draw_6 : decode cX6_draw 6 = .ok (.iload_n 2, 1) := by decide +kernel
theorem dX6_draw_7 : decode cX6_draw 7 = .ok (.invokevirtual 71, 3) := by decide +kernel
theorem dX6_draw_10 : decode cX6_draw 10 = .ok (.aload_n 0, 1) := by decide +kernel
theorem dX6_draw_11 : decode cX6_draw 11 = .ok (.iload_n 3, 1) := by decide +kernel
theorem dX6_draw_12 : decode cX6_draw 12 = .ok (.sipush 9999, 3) := by decide +kernel
theorem dX6_draw_15 : decode cX6_draw 15 = .ok (.invokevirtual 86, 3) := by decide +kernel
theorem dX6_draw_18 : decode cX6_draw 18 = .ok (.aload_n 0, 1) := by decide +kernel
theorem dX6_draw_19 : decode cX6_draw 19 = .ok (.iload 4, 2) := by decide +kernel
theorem dX6_draw_21 : decode cX6_draw 21 = .ok (.bipush 9, 2) := by decide +kernel
theorem dX6_draw_23 : decode cX6_draw 23 = .ok (.invokevirtual 86, 3) := by decide +kernel
theorem dX6_draw_26 : decode cX6_draw 26 = .ok (.aload_n 0, 1) := by decide +kernel
theorem dX6_draw_27 : decode cX6_draw 27 = .ok (.iload_n 1, 1) := by decide +kernel
theorem dX6_draw_28 : decode cX6_draw 28 = .ok (.iload_n 2, 1) := by decide +kernel
theorem dX6_draw_29 : decode cX6_draw 29 = .ok (.invokevirtual 159, 3) := by decide +kernel
theorem dX6_draw_32 : decode cX6_draw 32 = .ok (.aload_n 0, 1) := by decide +kernel
theorem dX6_draw_33 : decode cX6_draw 33 = .ok (.iload_n 1, 1) := by decide +kernel
theorem dX6_draw_34 : decode cX6_draw 34 = .ok (.invokevirtual 90, 3) := by decide +kernel
theorem dX6_draw_37 : decode cX6_draw 37 = .ok (.aload_n 0, 1) := by decide +kernel
theorem dX6_draw_38 : decode cX6_draw 38 = .ok (.iload_n 2, 1) := by decide +kernel
theorem dX6_draw_39 : decode cX6_draw 39 = .ok (.invokevirtual 90, 3) := by decide +kernel
theorem dX6_draw_42 : decode cX6_draw 42 = .ok (.aload_n 0, 1) := by decide +kernel
theorem dX6_draw_43 : decode cX6_draw 43 = .ok (.getfield 40, 3) := by decide +kernel
theorem dX6_draw_46 : decode cX6_draw 46 = .ok (.invokevirtual 187, 3) := by decide +kernel
theorem dX6_draw_49 : decode cX6_draw 49 = .ok (.bipush 12, 2) := by decide +kernel
theorem dX6_draw_51 : decode cX6_draw 51 = .ok (.if_icmp .lt 13, 3) := by decide +kernel
theorem dX6_draw_54 : decode cX6_draw 54 = .ok (.new 111, 3) := by decide +kernel
theorem dX6_draw_57 : decode cX6_draw 57 = .ok (.dup, 1) := by decide +kernel
theorem dX6_draw_58 : decode cX6_draw 58 = .ok (.ldc 188, 2) := by decide +kernel
theorem dX6_draw_60 : decode cX6_draw 60 = .ok (.invokespecial 115, 3) := by decide +kernel
theorem dX6_draw_63 : decode cX6_draw 63 = .ok (.athrow, 1) := by decide +kernel
theorem dX6_draw_64 : decode cX6_draw 64 = .ok (.aload_n 0, 1) := by decide +kernel
theorem dX6_draw_65 : decode cX6_draw 65 = .ok (.getfield 40, 3) := by decide +kernel
theorem dX6_draw_68 : decode cX6_draw 68 = .ok (.iload_n 1, 1) := by decide +kernel
theorem dX6_draw_69 : decode cX6_draw 69 = .ok (.iload_n 2, 1) := by decide +kernel
theorem dX6_draw_70 : decode cX6_draw 70 = .ok (.iload_n 3, 1) := by decide +kernel
theorem dX6_draw_71 : decode cX6_draw 71 = .ok (.iload 4, 2) := by decide +kernel
theorem dX6_draw_73 : decode cX6_draw 73 = .ok (.invokevirtual 190, 3) := by decide +kernel
theorem dX6_draw_76 : decode cX6_draw 76 = .ok (.ireturn, 1) := by decide +kernel
theorem dX6_endorse_0 : decode cX6_endorse 0 = .ok (.aload_n 0, 1) := by decide +kernel
theorem dX6_endorse_1 : decode cX6_endorse 1 = .ok (.iload_n 1, 1) := by decide +kernel
theorem dX6_endorse_2 : decode cX6_endorse 2 = .ok (.invokevirtual 193, 3) := by decide +kernel
theorem dX6_endorse_5 : decode cX6_endorse 5 = .ok (.aload_n 0, 1) := by decide +kernel
theorem dX6_endorse_6 : decode cX6_endorse 6 = .ok (.iload_n 2, 1) := by decide +kernel
theorem dX6_endorse_7 : decode cX6_endorse 7 = .ok (.invokevirtual 71, 3) := by decide +kernel
theorem dX6_endorse_10 : decode cX6_endorse 10 = .ok (.aload_n 0, 1) := by decide +kernel
theorem dX6_endorse_11 : decode cX6_endorse 11 = .ok (.getfield 40, 3) := by decide +kernel
theorem dX6_endorse_14 : decode cX6_endorse 14 = .ok (.iload_n 1, 1) := by decide +kernel
theorem dX6_endorse_15 : decode cX6_endorse 15 = .ok (.invokevirtual 196, 3) := by decide +kernel
theorem dX6_endorse_18 : decode cX6_endorse 18 = .ok (.istore_n 3, 1) := by decide +kernel
theorem dX6_endorse_19 : decode cX6_endorse 19 = .ok (.aload_n 0, 1) := by decide +kernel
theorem dX6_endorse_20 : decode cX6_endorse 20 = .ok (.iload_n 3, 1) := by decide +kernel
theorem dX6_endorse_21 : decode cX6_endorse 21 = .ok (.iload_n 2, 1) := by decide +kernel
theorem dX6_endorse_22 : decode cX6_endorse 22 = .ok (.invokevirtual 159, 3) := by decide +kernel
theorem dX6_endorse_25 : decode cX6_endorse 25 = .ok (.iload_n 3, 1) := by decide +kernel
theorem dX6_endorse_26 : decode cX6_endorse 26 = .ok (.iconst (-1), 1) := by decide +kernel
theorem dX6_endorse_27 : decode cX6_endorse 27 = .ok (.if_icmp .ne 13, 3) := by decide +kernel
theorem dX6_endorse_30 : decode cX6_endorse 30 = .ok (.new 66, 3) := by decide +kernel
theorem dX6_endorse_33 : decode cX6_endorse 33 = .ok (.dup, 1) := by decide +kernel
theorem dX6_endorse_34 : decode cX6_endorse 34 = .ok (.ldc 199, 2) := by decide +kernel
theorem dX6_endorse_36 : decode cX6_endorse 36 = .ok (.invokespecial 70, 3) := by decide +kernel
theorem dX6_endorse_39 : decode cX6_endorse 39 = .ok (.athrow, 1) := by decide +kernel
theorem dX6_endorse_40 : decode cX6_endorse 40 = .ok (.aload_n 0, 1) := by decide +kernel
theorem dX6_endorse_41 : decode cX6_endorse 41 = .ok (.iload_n 3, 1) := by decide +kernel
theorem dX6_endorse_42 : decode cX6_endorse 42 = .ok (.invokevirtual 90, 3) := by decide +kernel
theorem dX6_endorse_45 : decode cX6_endorse 45 = .ok (.aload_n 0, 1) := by decide +kernel
theorem dX6_endorse_46 : decode cX6_endorse 46 = .ok (.iload_n 2, 1) := by decide +kernel
theorem dX6_endorse_47 : decode cX6_endorse 47 = .ok (.invokevirtual 90, 3) := by decide +kernel
theorem dX6_endorse_50 : decode cX6_endorse 50 = .ok (.aload_n 0, 1) := by decide +kernel
theorem dX6_endorse_51 : decode cX6_endorse 51 = .ok (.getfield 40, 3) := by decide +kernel
theorem dX6_endorse_54 : decode cX6_endorse 54 = .ok (.iload_n 1, 1) := by decide +kernel
theorem dX6_endorse_55 : decode cX6_endorse 55 = .ok (.invokevirtual 201, 3) := by decide +kernel
theorem dX6_endorse_58 : decode cX6_endorse 58 = .ok (.iconst 5, 1) := by decide +kernel
theorem dX6_endorse_59 : decode cX6_endorse 59 = .ok (.if_icmp .lt 13, 3) := by decide +kernel
theorem dX6_endorse_62 : decode cX6_endorse 62 = .ok (.new 111, 3) := by decide +kernel
theorem dX6_endorse_65 : decode cX6_endorse 65 = .ok (.dup, 1) := by decide +kernel
theorem dX6_endorse_66 : decode cX6_endorse 66 = .ok (.ldc 204, 2) := by decide +kernel
theorem dX6_endorse_68 : decode cX6_endorse 68 = .ok (.invokespecial 115, 3) := by decide +kernel
theorem dX6_endorse_71 : decode cX6_endorse 71 = .ok (.athrow, 1) := by decide +kernel
theorem dX6_endorse_72 : decode cX6_endorse 72 = .ok (.aload_n 0, 1) := by decide +kernel
theorem dX6_endorse_73 : decode cX6_endorse 73 = .ok (.getfield 40, 3) := by decide +kernel
theorem dX6_endorse_76 : decode cX6_endorse 76 = .ok (.iload_n 1, 1) := by decide +kernel
theorem dX6_endorse_77 : decode cX6_endorse 77 = .ok (.iload_n 2, 1) := by decide +kernel
theorem dX6_endorse_78 : decode cX6_endorse 78 = .ok (.invokevirtual 206, 3) := by decide +kernel
theorem dX6_endorse_81 : decode cX6_endorse 81 = .ok (.iload_n 3, 1) := by decide +kernel
theorem dX6_endorse_82 : decode cX6_endorse 82 = .ok (.ireturn, 1) := by decide +kernel
theorem dX6_holderOf_0 : decode cX6_holderOf 0 = .ok (.aload_n 0, 1) := by decide +kernel
theorem dX6_holderOf_1 : decode cX6_holderOf 1 = .ok (.iload_n 1, 1) := by decide +kernel
theorem dX6_holderOf_2 : decode cX6_holderOf 2 = .ok (.invokevirtual 193, 3) := by decide +kernel
theorem dX6_holderOf_5 : decode cX6_holderOf 5 = .ok (.aload_n 0, 1) := by decide +kernel
theorem dX6_holderOf_6 : decode cX6_holderOf 6 = .ok (.getfield 40, 3) := by decide +kernel
theorem dX6_holderOf_9 : decode cX6_holderOf 9 = .ok (.iload_n 1, 1) := by decide +kernel
theorem dX6_holderOf_10 : decode cX6_holderOf 10 = .ok (.invokevirtual 196, 3) := by decide +kernel
theorem dX6_holderOf_13 : decode cX6_holderOf 13 = .ok (.ireturn, 1) := by decide +kernel
theorem dX6_nextDay_0 : decode cX6_nextDay 0 = .ok (.aload_n 0, 1) := by decide +kernel
theorem dX6_nextDay_1 : decode cX6_nextDay 1 = .ok (.getfield 40, 3) := by decide +kernel
theorem dX6_nextDay_4 : decode cX6_nextDay 4 = .ok (.invokevirtual 209, 3) := by decide +kernel
theorem dX6_nextDay_7 : decode cX6_nextDay 7 = .ok (.iconst 0, 1) := by decide +kernel
theorem dX6_nextDay_8 : decode cX6_nextDay 8 = .ok (.istore_n 1, 1) := by decide +kernel
theorem dX6_nextDay_9 : decode cX6_nextDay 9 = .ok (.iconst 0, 1) := by decide +kernel
theorem dX6_nextDay_10 : decode cX6_nextDay 10 = .ok (.istore_n 2, 1) := by decide +kernel
theorem dX6_nextDay_11 : decode cX6_nextDay 11 = .ok (.iload_n 2, 1) := by decide +kernel
theorem dX6_nextDay_12 : decode cX6_nextDay 12 = .ok (.aload_n 0, 1) := by decide +kernel
theorem dX6_nextDay_13 : decode cX6_nextDay 13 = .ok (.getfield 40, 3) := by decide +kernel
theorem dX6_nextDay_16 : decode cX6_nextDay 16 = .ok (.invokevirtual 187, 3) := by decide +kernel
theorem dX6_nextDay_19 : decode cX6_nextDay 19 = .ok (.if_icmp .ge 31, 3) := by decide +kernel
theorem dX6_nextDay_22 : decode cX6_nextDay 22 = .ok (.aload_n 0, 1) := by decide +kernel
theorem dX6_nextDay_23 : decode cX6_nextDay 23 = .ok (.getfield 40, 3) := by decide +kernel
theorem dX6_nextDay_26 : decode cX6_nextDay 26 = .ok (.iload_n 2, 1) := by decide +kernel
theorem dX6_nextDay_27 : decode cX6_nextDay 27 = .ok (.invokevirtual 212, 3) := by decide +kernel
theorem dX6_nextDay_30 : decode cX6_nextDay 30 = .ok (.ifCond .eq 14, 3) := by decide +kernel
theorem dX6_nextDay_33 : decode cX6_nextDay 33 = .ok (.aload_n 0, 1) := by decide +kernel
theorem dX6_nextDay_34 : decode cX6_nextDay 34 = .ok (.iload_n 2, 1) := by decide +kernel
theorem dX6_nextDay_35 : decode cX6_nextDay 35 = .ok (.invokevirtual 215, 3) := by decide +kernel
theorem dX6_nextDay_38 : decode cX6_nextDay 38 = .ok (.ifCond .eq 6, 3) := by decide +kernel
theorem dX6_nextDay_41 : decode cX6_nextDay 41 = .ok (.iinc 1 1, 3) := by decide +kernel
theorem dX6_nextDay_44 : decode cX6_nextDay 44 = .ok (.iinc 2 1, 3) := by decide +kernel
theorem dX6_nextDay_47 : decode cX6_nextDay 47 = .ok (.goto (-36), 3) := by decide +kernel
theorem dX6_nextDay_50 : decode cX6_nextDay 50 = .ok (.iload_n 1, 1) := by decide +kernel
theorem dX6_nextDay_51 : decode cX6_nextDay 51 = .ok (.ireturn, 1) := by decide +kernel
theorem dX6_addShare_0 : decode cX6_addShare 0 = .ok (.aload_n 0, 1) := by decide +kernel
theorem dX6_addShare_1 : decode cX6_addShare 1 = .ok (.iload_n 1, 1) := by decide +kernel
theorem dX6_addShare_2 : decode cX6_addShare 2 = .ok (.invokevirtual 218, 3) := by decide +kernel
theorem dX6_addShare_5 : decode cX6_addShare 5 = .ok (.aload_n 0, 1) := by decide +kernel
theorem dX6_addShare_6 : decode cX6_addShare 6 = .ok (.iload_n 2, 1) := by decide +kernel
theorem dX6_addShare_7 : decode cX6_addShare 7 = .ok (.invokevirtual 71, 3) := by decide +kernel
theorem dX6_addShare_10 : decode cX6_addShare 10 = .ok (.aload_n 0, 1) := by decide +kernel
theorem dX6_addShare_11 : decode cX6_addShare 11 = .ok (.iload_n 3, 1) := by decide +kernel
theorem dX6_addShare_12 : decode cX6_addShare 12 = .ok (.bipush 99, 2) := by decide +kernel
theorem dX6_addShare_14 : decode cX6_addShare 14 = .ok (.invokevirtual 86, 3) := by decide +kernel
theorem dX6_addShare_17 : decode cX6_addShare 17 = .ok (.aload_n 0, 1) := by decide +kernel
theorem dX6_addShare_18 : decode cX6_addShare 18 = .ok (.iload_n 2, 1) := by decide +kernel
theorem dX6_addShare_19 : decode cX6_addShare 19 = .ok (.invokevirtual 90, 3) := by decide +kernel
theorem dX6_addShare_22 : decode cX6_addShare 22 = .ok (.aload_n 0, 1) := by decide +kernel
theorem dX6_addShare_23 : decode cX6_addShare 23 = .ok (.getfield 47, 3) := by decide +kernel
theorem dX6_addShare_26 : decode cX6_addShare 26 = .ok (.iload_n 1, 1) := by decide +kernel
theorem dX6_addShare_27 : decode cX6_addShare 27 = .ok (.iload_n 2, 1) := by decide +kernel
theorem dX6_addShare_28 : decode cX6_addShare 28 = .ok (.iload_n 3, 1) := by decide +kernel
theorem dX6_addShare_29 : decode cX6_addShare 29 = .ok (.invokevirtual 221, 3) := by decide +kernel
theorem dX6_addShare_32 : decode cX6_addShare 32 = .ok (.aload_n 0, 1) := by decide +kernel
theorem dX6_addShare_33 : decode cX6_addShare 33 = .ok (.getfield 47, 3) := by decide +kernel
theorem dX6_addShare_36 : decode cX6_addShare 36 = .ok (.iload_n 1, 1) := by decide +kernel
theorem dX6_addShare_37 : decode cX6_addShare 37 = .ok (.iload_n 2, 1) := by decide +kernel
theorem dX6_addShare_38 : decode cX6_addShare 38 = .ok (.invokevirtual 224, 3) := by decide +kernel
theorem dX6_addShare_41 : decode cX6_addShare 41 = .ok (.ireturn, 1) := by decide +kernel
theorem dX6_throwOver_0 : decode cX6_throwOver 0 = .ok (.aload_n 0, 1) := by decide +kernel
theorem dX6_throwOver_1 : decode cX6_throwOver 1 = .ok (.iload_n 1, 1) := by decide +kernel
theorem dX6_throwOver_2 : decode cX6_throwOver 2 = .ok (.invokevirtual 218, 3) := by decide +kernel
theorem dX6_throwOver_5 : decode cX6_throwOver 5 = .ok (.aload_n 0, 1) := by decide +kernel
theorem dX6_throwOver_6 : decode cX6_throwOver 6 = .ok (.iload_n 2, 1) := by decide +kernel
theorem dX6_throwOver_7 : decode cX6_throwOver 7 = .ok (.invokevirtual 71, 3) := by decide +kernel
theorem dX6_throwOver_10 : decode cX6_throwOver 10 = .ok (.aload_n 0, 1) := by decide +kernel
theorem dX6_throwOver_11 : decode cX6_throwOver 11 = .ok (.iload_n 3, 1) := by decide +kernel
theorem dX6_throwOver_12 : decode cX6_throwOver 12 = .ok (.bipush 99, 2) := by decide +kernel
theorem dX6_throwOver_14 : decode cX6_throwOver 14 = .ok (.invokevirtual 86, 3) := by decide +kernel
theorem dX6_throwOver_17 : decode cX6_throwOver 17 = .ok (.aload_n 0, 1) := by decide +kernel
theorem dX6_throwOver_18 : decode cX6_throwOver 18 = .ok (.iload_n 2, 1) := by decide +kernel
theorem dX6_throwOver_19 : decode cX6_throwOver 19 = .ok (.invokevirtual 90, 3) := by decide +kernel
theorem dX6_throwOver_22 : decode cX6_throwOver 22 = .ok (.aload_n 0, 1) := by decide +kernel
theorem dX6_throwOver_23 : decode cX6_throwOver 23 = .ok (.iload_n 1, 1) := by decide +kernel
theorem dX6_throwOver_24 : decode cX6_throwOver 24 = .ok (.invokevirtual 227, 3) := by decide +kernel
theorem dX6_throwOver_27 : decode cX6_throwOver 27 = .ok (.aload_n 0, 1) := by decide +kernel
theorem dX6_throwOver_28 : decode cX6_throwOver 28 = .ok (.getfield 47, 3) := by decide +kernel
theorem dX6_throwOver_31 : decode cX6_throwOver 31 = .ok (.iload_n 1, 1) := by decide +kernel
theorem dX6_throwOver_32 : decode cX6_throwOver 32 = .ok (.iload_n 2, 1) := by decide +kernel
theorem dX6_throwOver_33 : decode cX6_throwOver 33 = .ok (.invokevirtual 224, 3) := by decide +kernel
theorem dX6_throwOver_36 : decode cX6_throwOver 36 = .ok (.ifCond .ne 13, 3) := by decide +kernel
theorem dX6_throwOver_39 : decode cX6_throwOver 39 = .ok (.new 111, 3) := by decide +kernel
theorem dX6_throwOver_42 : decode cX6_throwOver 42 = .ok (.dup, 1) := by decide +kernel
theorem dX6_throwOver_43 : decode cX6_throwOver 43 = .ok (.ldc 230, 2) := by decide +kernel
theorem dX6_throwOver_45 : decode cX6_throwOver 45 = .ok (.invokespecial 115, 3) := by decide +kernel
theorem dX6_throwOver_48 : decode cX6_throwOver 48 = .ok (.athrow, 1) := by decide +kernel
theorem dX6_throwOver_49 : decode cX6_throwOver 49 = .ok (.aload_n 0, 1) := by decide +kernel
theorem dX6_throwOver_50 : decode cX6_throwOver 50 = .ok (.getfield 47, 3) := by decide +kernel
theorem dX6_throwOver_53 : decode cX6_throwOver 53 = .ok (.iload_n 1, 1) := by decide +kernel
theorem dX6_throwOver_54 : decode cX6_throwOver 54 = .ok (.iload_n 3, 1) := by decide +kernel
theorem dX6_throwOver_55 : decode cX6_throwOver 55 = .ok (.invokevirtual 232, 3) := by decide +kernel
theorem dX6_throwOver_58 : decode cX6_throwOver 58 = .ok (.iconst 0, 1) := by decide +kernel
theorem dX6_throwOver_59 : decode cX6_throwOver 59 = .ok (.istore 4, 2) := by decide +kernel
theorem dX6_throwOver_61 : decode cX6_throwOver 61 = .ok (.iload 4, 2) := by decide +kernel
theorem dX6_throwOver_63 : decode cX6_throwOver 63 = .ok (.bipush 6, 2) := by decide +kernel
theorem dX6_throwOver_65 : decode cX6_throwOver 65 = .ok (.if_icmp .ge 34, 3) := by decide +kernel
theorem dX6_throwOver_68 : decode cX6_throwOver 68 = .ok (.iload 4, 2) := by decide +kernel
theorem dX6_throwOver_70 : decode cX6_throwOver 70 = .ok (.iload_n 2, 1) := by decide +kernel
theorem dX6_throwOver_71 : decode cX6_throwOver 71 = .ok (.if_icmp .eq 22, 3) := by decide +kernel
theorem dX6_throwOver_74 : decode cX6_throwOver 74 = .ok (.aload_n 0, 1) := by decide +kernel
theorem dX6_throwOver_75 : decode cX6_throwOver 75 = .ok (.getfield 33, 3) := by decide +kernel
theorem dX6_throwOver_78 : decode cX6_throwOver 78 = .ok (.iload_n 2, 1) := by decide +kernel
theorem dX6_throwOver_79 : decode cX6_throwOver 79 = .ok (.iload 4, 2) := by decide +kernel
theorem dX6_throwOver_81 : decode cX6_throwOver 81 = .ok (.aload_n 0, 1) := by decide +kernel
theorem dX6_throwOver_82 : decode cX6_throwOver 82 = .ok (.getfield 47, 3) := by decide +kernel
theorem dX6_throwOver_85 : decode cX6_throwOver 85 = .ok (.iload 4, 2) := by decide +kernel
theorem dX6_throwOver_87 : decode cX6_throwOver 87 = .ok (.invokevirtual 235, 3) := by decide +kernel
theorem dX6_throwOver_90 : decode cX6_throwOver 90 = .ok (.invokevirtual 172, 3) := by decide +kernel
theorem dX6_throwOver_93 : decode cX6_throwOver 93 = .ok (.iinc 4 1, 3) := by decide +kernel
theorem dX6_throwOver_96 : decode cX6_throwOver 96 = .ok (.goto (-35), 3) := by decide +kernel
theorem dX6_throwOver_99 : decode cX6_throwOver 99 = .ok (.aload_n 0, 1) := by decide +kernel
theorem dX6_throwOver_100 : decode cX6_throwOver 100 = .ok (.getfield 47, 3) := by decide +kernel
theorem dX6_throwOver_103 : decode cX6_throwOver 103 = .ok (.iload_n 2, 1) := by decide +kernel
theorem dX6_throwOver_104 : decode cX6_throwOver 104 = .ok (.invokevirtual 235, 3) := by decide +kernel
theorem dX6_throwOver_107 : decode cX6_throwOver 107 = .ok (.ireturn, 1) := by decide +kernel
theorem dX6_coins_0 : decode cX6_coins 0 = .ok (.aload_n 0, 1) := by decide +kernel
theorem dX6_coins_1 : decode cX6_coins 1 = .ok (.iload_n 1, 1) := by decide +kernel
theorem dX6_coins_2 : decode cX6_coins 2 = .ok (.invokevirtual 71, 3) := by decide +kernel
theorem dX6_coins_5 : decode cX6_coins 5 = .ok (.aload_n 0, 1) := by decide +kernel
theorem dX6_coins_6 : decode cX6_coins 6 = .ok (.getfield 26, 3) := by decide +kernel
theorem dX6_coins_9 : decode cX6_coins 9 = .ok (.iload_n 1, 1) := by decide +kernel
theorem dX6_coins_10 : decode cX6_coins 10 = .ok (.aload_n 0, 1) := by decide +kernel
theorem dX6_coins_11 : decode cX6_coins 11 = .ok (.iload_n 2, 1) := by decide +kernel
theorem dX6_coins_12 : decode cX6_coins 12 = .ok (.invokevirtual 83, 3) := by decide +kernel
theorem dX6_coins_15 : decode cX6_coins 15 = .ok (.invokevirtual 238, 3) := by decide +kernel
theorem dX6_coins_18 : decode cX6_coins 18 = .ok (.ireturn, 1) := by decide +kernel
theorem dX6_weightOf_0 : decode cX6_weightOf 0 = .ok (.aload_n 0, 1) := by decide +kernel
theorem dX6_weightOf_1 : decode cX6_weightOf 1 = .ok (.iload_n 1, 1) := by decide +kernel
theorem dX6_weightOf_2 : decode cX6_weightOf 2 = .ok (.invokevirtual 126, 3) := by decide +kernel
theorem dX6_weightOf_5 : decode cX6_weightOf 5 = .ok (.aload_n 0, 1) := by decide +kernel
theorem dX6_weightOf_6 : decode cX6_weightOf 6 = .ok (.getfield 26, 3) := by decide +kernel
theorem dX6_weightOf_9 : decode cX6_weightOf 9 = .ok (.iload_n 1, 1) := by decide +kernel
theorem dX6_weightOf_10 : decode cX6_weightOf 10 = .ok (.invokevirtual 132, 3) := by decide +kernel
theorem dX6_weightOf_13 : decode cX6_weightOf 13 = .ok (.ireturn, 1) := by decide +kernel
theorem dX6_ownerOf_0 : decode cX6_ownerOf 0 = .ok (.aload_n 0, 1) := by decide +kernel
theorem dX6_ownerOf_1 : decode cX6_ownerOf 1 = .ok (.iload_n 1, 1) := by decide +kernel
theorem dX6_ownerOf_2 : decode cX6_ownerOf 2 = .ok (.invokevirtual 126, 3) := by decide +kernel
theorem dX6_ownerOf_5 : decode cX6_ownerOf 5 = .ok (.aload_n 0, 1) := by decide +kernel
theorem dX6_ownerOf_6 : decode cX6_ownerOf 6 = .ok (.getfield 26, 3) := by decide +kernel
theorem dX6_ownerOf_9 : decode cX6_ownerOf 9 = .ok (.iload_n 1, 1) := by decide +kernel
theorem dX6_ownerOf_10 : decode cX6_ownerOf 10 = .ok (.invokevirtual 140, 3) := by decide +kernel
theorem dX6_ownerOf_13 : decode cX6_ownerOf 13 = .ok (.ireturn, 1) := by decide +kernel
theorem dX6_owners_0 : decode cX6_owners 0 = .ok (.aload_n 0, 1) := by decide +kernel
theorem dX6_owners_1 : decode cX6_owners 1 = .ok (.iload_n 1, 1) := by decide +kernel
theorem dX6_owners_2 : decode cX6_owners 2 = .ok (.invokevirtual 126, 3) := by decide +kernel
theorem dX6_owners_5 : decode cX6_owners 5 = .ok (.aload_n 0, 1) := by decide +kernel
theorem dX6_owners_6 : decode cX6_owners 6 = .ok (.getfield 26, 3) := by decide +kernel
theorem dX6_owners_9 : decode cX6_owners 9 = .ok (.iload_n 1, 1) := by decide +kernel
theorem dX6_owners_10 : decode cX6_owners 10 = .ok (.invokevirtual 241, 3) := by decide +kernel
theorem dX6_owners_13 : decode cX6_owners 13 = .ok (.ireturn, 1) := by decide +kernel
theorem dX6_ore_0 : decode cX6_ore 0 = .ok (.aload_n 0, 1) := by decide +kernel
theorem dX6_ore_1 : decode cX6_ore 1 = .ok (.iload_n 1, 1) := by decide +kernel
theorem dX6_ore_2 : decode cX6_ore 2 = .ok (.invokevirtual 71, 3) := by decide +kernel
theorem dX6_ore_5 : decode cX6_ore 5 = .ok (.aload_n 0, 1) := by decide +kernel
theorem dX6_ore_6 : decode cX6_ore 6 = .ok (.getfield 19, 3) := by decide +kernel
theorem dX6_ore_9 : decode cX6_ore 9 = .ok (.iload_n 1, 1) := by decide +kernel
theorem dX6_ore_10 : decode cX6_ore 10 = .ok (.aload_n 0, 1) := by decide +kernel
theorem dX6_ore_11 : decode cX6_ore 11 = .ok (.iload_n 2, 1) := by decide +kernel
theorem dX6_ore_12 : decode cX6_ore 12 = .ok (.invokevirtual 83, 3) := by decide +kernel
theorem dX6_ore_15 : decode cX6_ore 15 = .ok (.invokevirtual 97, 3) := by decide +kernel
theorem dX6_ore_18 : decode cX6_ore 18 = .ok (.ireturn, 1) := by decide +kernel
theorem dX6_wealth_0 : decode cX6_wealth 0 = .ok (.aload_n 0, 1) := by decide +kernel
theorem dX6_wealth_1 : decode cX6_wealth 1 = .ok (.iload_n 1, 1) := by decide +kernel
theorem dX6_wealth_2 : decode cX6_wealth 2 = .ok (.invokevirtual 71, 3) := by decide +kernel
theorem dX6_wealth_5 : decode cX6_wealth 5 = .ok (.lconst 0, 1) := by decide +kernel
theorem dX6_wealth_6 : decode cX6_wealth 6 = .ok (.lstore_n 2, 1) := by decide +kernel
theorem dX6_wealth_7 : decode cX6_wealth 7 = .ok (.iconst 0, 1) := by decide +kernel
theorem dX6_wealth_8 : decode cX6_wealth 8 = .ok (.istore 4, 2) := by decide +kernel
theorem dX6_wealth_10 : decode cX6_wealth 10 = .ok (.iload 4, 2) := by decide +kernel
theorem dX6_wealth_12 : decode cX6_wealth 12 = .ok (.iconst 2, 1) := by decide +kernel
theorem dX6_wealth_13 : decode cX6_wealth 13 = .ok (.if_icmp .ge 34, 3) := by decide +kernel
theorem dX6_wealth_16 : decode cX6_wealth 16 = .ok (.lload_n 2, 1) := by decide +kernel
theorem dX6_wealth_17 : decode cX6_wealth 17 = .ok (.aload_n 0, 1) := by decide +kernel
theorem dX6_wealth_18 : decode cX6_wealth 18 = .ok (.getfield 26, 3) := by decide +kernel
theorem dX6_wealth_21 : decode cX6_wealth 21 = .ok (.iload_n 1, 1) := by decide +kernel
theorem dX6_wealth_22 : decode cX6_wealth 22 = .ok (.iload 4, 2) := by decide +kernel
theorem dX6_wealth_24 : decode cX6_wealth 24 = .ok (.invokevirtual 238, 3) := by decide +kernel
theorem dX6_wealth_27 : decode cX6_wealth 27 = .ok (.i2l, 1) := by decide +kernel
theorem dX6_wealth_28 : decode cX6_wealth 28 = .ok (.aload_n 0, 1) := by decide +kernel
theorem dX6_wealth_29 : decode cX6_wealth 29 = .ok (.getfield 19, 3) := by decide +kernel
theorem dX6_wealth_32 : decode cX6_wealth 32 = .ok (.iload 4, 2) := by decide +kernel
theorem dX6_wealth_34 : decode cX6_wealth 34 = .ok (.invokevirtual 101, 3) := by decide +kernel
theorem dX6_wealth_37 : decode cX6_wealth 37 = .ok (.i2l, 1) := by decide +kernel
theorem dX6_wealth_38 : decode cX6_wealth 38 = .ok (.lmul, 1) := by decide +kernel
theorem dX6_wealth_39 : decode cX6_wealth 39 = .ok (.ladd, 1) := by decide +kernel
theorem dX6_wealth_40 : decode cX6_wealth 40 = .ok (.lstore_n 2, 1) := by decide +kernel
theorem dX6_wealth_41 : decode cX6_wealth 41 = .ok (.iinc 4 1, 3) := by decide +kernel
theorem dX6_wealth_44 : decode cX6_wealth 44 = .ok (.goto (-34), 3) := by decide +kernel
theorem dX6_wealth_47 : decode cX6_wealth 47 = .ok (.lload_n 2, 1) := by decide +kernel
theorem dX6_wealth_48 : decode cX6_wealth 48 = .ok (.aload_n 0, 1) := by decide +kernel
theorem dX6_wealth_49 : decode cX6_wealth 49 = .ok (.getfield 33, 3) := by decide +kernel
theorem dX6_wealth_52 : decode cX6_wealth 52 = .ok (.iload_n 1, 1) := by decide +kernel
theorem dX6_wealth_53 : decode cX6_wealth 53 = .ok (.invokevirtual 244, 3) := by decide +kernel
theorem dX6_wealth_56 : decode cX6_wealth 56 = .ok (.ladd, 1) := by decide +kernel
theorem dX6_wealth_57 : decode cX6_wealth 57 = .ok (.aload_n 0, 1) := by decide +kernel
theorem dX6_wealth_58 : decode cX6_wealth 58 = .ok (.getfield 33, 3) := by decide +kernel
theorem dX6_wealth_61 : decode cX6_wealth 61 = .ok (.iload_n 1, 1) := by decide +kernel
theorem dX6_wealth_62 : decode cX6_wealth 62 = .ok (.invokevirtual 248, 3) := by decide +kernel
theorem dX6_wealth_65 : decode cX6_wealth 65 = .ok (.lsub, 1) := by decide +kernel
theorem dX6_wealth_66 : decode cX6_wealth 66 = .ok (.lreturn, 1) := by decide +kernel
theorem dX6_lost_0 : decode cX6_lost 0 = .ok (.aload_n 0, 1) := by decide +kernel
theorem dX6_lost_1 : decode cX6_lost 1 = .ok (.getfield 251, 3) := by decide +kernel
theorem dX6_lost_4 : decode cX6_lost 4 = .ok (.lreturn, 1) := by decide +kernel
theorem dX6_lightShare_0 : decode cX6_lightShare 0 = .ok (.aload_n 0, 1) := by decide +kernel
theorem dX6_lightShare_1 : decode cX6_lightShare 1 = .ok (.invokevirtual 255, 3) := by decide +kernel
theorem dX6_lightShare_4 : decode cX6_lightShare 4 = .ok (.istore_n 1, 1) := by decide +kernel
theorem dX6_lightShare_5 : decode cX6_lightShare 5 = .ok (.iconst 0, 1) := by decide +kernel
theorem dX6_lightShare_6 : decode cX6_lightShare 6 = .ok (.istore_n 2, 1) := by decide +kernel
theorem dX6_lightShare_7 : decode cX6_lightShare 7 = .ok (.iconst 0, 1) := by decide +kernel
theorem dX6_lightShare_8 : decode cX6_lightShare 8 = .ok (.istore_n 3, 1) := by decide +kernel
theorem dX6_lightShare_9 : decode cX6_lightShare 9 = .ok (.iload_n 3, 1) := by decide +kernel
theorem dX6_lightShare_10 : decode cX6_lightShare 10 = .ok (.iconst 2, 1) := by decide +kernel
theorem dX6_lightShare_11 : decode cX6_lightShare 11 = .ok (.if_icmp .ge 28, 3) := by decide +kernel
theorem dX6_lightShare_14 : decode cX6_lightShare 14 = .ok (.iload_n 2, 1) := by decide +kernel
theorem dX6_lightShare_15 : decode cX6_lightShare 15 = .ok (.aload_n 0, 1) := by decide +kernel
theorem dX6_lightShare_16 : decode cX6_lightShare 16 = .ok (.getfield 26, 3) := by decide +kernel
theorem dX6_lightShare_19 : decode cX6_lightShare 19 = .ok (.iload_n 3, 1) := by decide +kernel
theorem dX6_lightShare_20 : decode cX6_lightShare 20 = .ok (.aload_n 0, 1) := by decide +kernel
theorem dX6_lightShare_21 : decode cX6_lightShare 21 = .ok (.getfield 19, 3) := by decide +kernel
theorem dX6_lightShare_24 : decode cX6_lightShare 24 = .ok (.iload_n 3, 1) := by decide +kernel
theorem dX6_lightShare_25 : decode cX6_lightShare 25 = .ok (.invokevirtual 105, 3) := by decide +kernel
theorem dX6_lightShare_28 : decode cX6_lightShare 28 = .ok (.invokevirtual 258, 3) := by decide +kernel
theorem dX6_lightShare_31 : decode cX6_lightShare 31 = .ok (.iadd, 1) := by decide +kernel
theorem dX6_lightShare_32 : decode cX6_lightShare 32 = .ok (.istore_n 2, 1) := by decide +kernel
theorem dX6_lightShare_33 : decode cX6_lightShare 33 = .ok (.iinc 3 1, 3) := by decide +kernel
theorem dX6_lightShare_36 : decode cX6_lightShare 36 = .ok (.goto (-27), 3) := by decide +kernel
theorem dX6_lightShare_39 : decode cX6_lightShare 39 = .ok (.iload_n 2, 1) := by decide +kernel
theorem dX6_lightShare_40 : decode cX6_lightShare 40 = .ok (.i2f, 1) := by decide +kernel
theorem dX6_lightShare_41 : decode cX6_lightShare 41 = .ok (.iload_n 1, 1) := by decide +kernel
theorem dX6_lightShare_42 : decode cX6_lightShare 42 = .ok (.i2f, 1) := by decide +kernel
theorem dX6_lightShare_43 : decode cX6_lightShare 43 = .ok (.fdiv, 1) := by decide +kernel
theorem dX6_lightShare_44 : decode cX6_lightShare 44 = .ok (.freturn, 1) := by decide +kernel
theorem dX6_meanWeight_0 : decode cX6_meanWeight 0 = .ok (.aload_n 0, 1) := by decide +kernel
theorem dX6_meanWeight_1 : decode cX6_meanWeight 1 = .ok (.invokevirtual 255, 3) := by decide +kernel
theorem dX6_meanWeight_4 : decode cX6_meanWeight 4 = .ok (.istore_n 1, 1) := by decide +kernel
theorem dX6_meanWeight_5 : decode cX6_meanWeight 5 = .ok (.aload_n 0, 1) := by decide +kernel
theorem dX6_meanWeight_6 : decode cX6_meanWeight 6 = .ok (.getfield 26, 3) := by decide +kernel
theorem dX6_meanWeight_9 : decode cX6_meanWeight 9 = .ok (.iconst 0, 1) := by decide +kernel
theorem dX6_meanWeight_10 : decode cX6_meanWeight 10 = .ok (.invokevirtual 261, 3) := by decide +kernel
theorem dX6_meanWeight_13 : decode cX6_meanWeight 13 = .ok (.aload_n 0, 1) := by decide +kernel
theorem dX6_meanWeight_14 : decode cX6_meanWeight 14 = .ok (.getfield 26, 3) := by decide +kernel
theorem dX6_meanWeight_17 : decode cX6_meanWeight 17 = .ok (.iconst 1, 1) := by decide +kernel
theorem dX6_meanWeight_18 : decode cX6_meanWeight 18 = .ok (.invokevirtual 261, 3) := by decide +kernel
theorem dX6_meanWeight_21 : decode cX6_meanWeight 21 = .ok (.iadd, 1) := by decide +kernel
theorem dX6_meanWeight_22 : decode cX6_meanWeight 22 = .ok (.istore_n 2, 1) := by decide +kernel
theorem dX6_meanWeight_23 : decode cX6_meanWeight 23 = .ok (.iload_n 2, 1) := by decide +kernel
theorem dX6_meanWeight_24 : decode cX6_meanWeight 24 = .ok (.i2d, 1) := by decide +kernel
theorem dX6_meanWeight_25 : decode cX6_meanWeight 25 = .ok (.iload_n 1, 1) := by decide +kernel
theorem dX6_meanWeight_26 : decode cX6_meanWeight 26 = .ok (.i2d, 1) := by decide +kernel
theorem dX6_meanWeight_27 : decode cX6_meanWeight 27 = .ok (.ddiv, 1) := by decide +kernel
theorem dX6_meanWeight_28 : decode cX6_meanWeight 28 = .ok (.dreturn, 1) := by decide +kernel
theorem dX6_isSound_0 : decode cX6_isSound 0 = .ok (.aload_n 0, 1) := by decide +kernel
theorem dX6_isSound_1 : decode cX6_isSound 1 = .ok (.iconst 0, 1) := by decide +kernel
theorem dX6_isSound_2 : decode cX6_isSound 2 = .ok (.invokevirtual 264, 3) := by decide +kernel
theorem dX6_isSound_5 : decode cX6_isSound 5 = .ok (.ifCond .eq 32, 3) := by decide +kernel
theorem dX6_isSound_8 : decode cX6_isSound 8 = .ok (.aload_n 0, 1) := by decide +kernel
theorem dX6_isSound_9 : decode cX6_isSound 9 = .ok (.iconst 1, 1) := by decide +kernel
theorem dX6_isSound_10 : decode cX6_isSound 10 = .ok (.invokevirtual 264, 3) := by decide +kernel
theorem dX6_isSound_13 : decode cX6_isSound 13 = .ok (.ifCond .eq 24, 3) := by decide +kernel
theorem dX6_isSound_16 : decode cX6_isSound 16 = .ok (.aload_n 0, 1) := by decide +kernel
theorem dX6_isSound_17 : decode cX6_isSound 17 = .ok (.invokevirtual 267, 3) := by decide +kernel
theorem dX6_isSound_20 : decode cX6_isSound 20 = .ok (.ifCond .eq 17, 3) := by decide +kernel
theorem dX6_isSound_23 : decode cX6_isSound 23 = .ok (.aload_n 0, 1) := by decide +kernel
theorem dX6_isSound_24 : decode cX6_isSound 24 = .ok (.getfield 26, 3) := by decide +kernel
theorem dX6_isSound_27 : decode cX6_isSound 27 = .ok (.invokevirtual 271, 3) := by decide +kernel
theorem dX6_isSound_30 : decode cX6_isSound 30 = .ok (.ifCond .eq 7, 3) := by decide +kernel
theorem dX6_isSound_33 : decode cX6_isSound 33 = .ok (.iconst 1, 1) := by decide +kernel
theorem dX6_isSound_34 : decode cX6_isSound 34 = .ok (.goto 4, 3) := by decide +kernel
theorem dX6_isSound_37 : decode cX6_isSound 37 = .ok (.iconst 0, 1) := by decide +kernel
theorem dX6_isSound_38 : decode cX6_isSound 38 = .ok (.ireturn, 1) := by decide +kernel
theorem dX6_needHouse_0 : decode cX6_needHouse 0 = .ok (.iload_n 1, 1) := by decide +kernel
theorem dX6_needHouse_1 : decode cX6_needHouse 1 = .ok (.ifCond .lt 14, 3) := by decide +kernel
theorem dX6_needHouse_4 : decode cX6_needHouse 4 = .ok (.iload_n 1, 1) := by decide +kernel
theorem dX6_needHouse_5 : decode cX6_needHouse 5 = .ok (.aload_n 0, 1) := by decide +kernel
theorem dX6_needHouse_6 : decode cX6_needHouse 6 = .ok (.getfield 10, 3) := by decide +kernel
theorem dX6_needHouse_9 : decode cX6_needHouse 9 = .ok (.invokevirtual 62, 3) := by decide +kernel
theorem dX6_needHouse_12 : decode cX6_needHouse 12 = .ok (.if_icmp .lt 14, 3) := by decide +kernel
theorem dX6_needHouse_15 : decode cX6_needHouse 15 = .ok (.new 274, 3) := by decide +kernel
theorem dX6_needHouse_18 : decode cX6_needHouse 18 = .ok (.dup, 1) := by decide +kernel
theorem dX6_needHouse_19 : decode cX6_needHouse 19 = .ok (.ldc_w 276, 3) := by decide +kernel
theorem dX6_needHouse_22 : decode cX6_needHouse 22 = .ok (.invokespecial 278, 3) := by decide +kernel
theorem dX6_needHouse_25 : decode cX6_needHouse 25 = .ok (.athrow, 1) := by decide +kernel
theorem dX6_needHouse_26 : decode cX6_needHouse 26 = .ok (.return_, 1) := by decide +kernel
theorem dX6_needCoin_0 : decode cX6_needCoin 0 = .ok (.iload_n 1, 1) := by decide +kernel
theorem dX6_needCoin_1 : decode cX6_needCoin 1 = .ok (.ifCond .lt 14, 3) := by decide +kernel
theorem dX6_needCoin_4 : decode cX6_needCoin 4 = .ok (.iload_n 1, 1) := by decide +kernel
theorem dX6_needCoin_5 : decode cX6_needCoin 5 = .ok (.aload_n 0, 1) := by decide +kernel
theorem dX6_needCoin_6 : decode cX6_needCoin 6 = .ok (.getfield 26, 3) := by decide +kernel
theorem dX6_needCoin_9 : decode cX6_needCoin 9 = .ok (.invokevirtual 121, 3) := by decide +kernel
theorem dX6_needCoin_12 : decode cX6_needCoin 12 = .ok (.if_icmp .lt 14, 3) := by decide +kernel
theorem dX6_needCoin_15 : decode cX6_needCoin 15 = .ok (.new 274, 3) := by decide +kernel
theorem dX6_needCoin_18 : decode cX6_needCoin 18 = .ok (.dup, 1) := by decide +kernel
theorem dX6_needCoin_19 : decode cX6_needCoin 19 = .ok (.ldc_w 279, 3) := by decide +kernel
theorem dX6_needCoin_22 : decode cX6_needCoin 22 = .ok (.invokespecial 278, 3) := by decide +kernel
theorem dX6_needCoin_25 : decode cX6_needCoin 25 = .ok (.athrow, 1) := by decide +kernel
theorem dX6_needCoin_26 : decode cX6_needCoin 26 = .ok (.return_, 1) := by decide +kernel
theorem dX6_needBill_0 : decode cX6_needBill 0 = .ok (.iload_n 1, 1) := by decide +kernel
theorem dX6_needBill_1 : decode cX6_needBill 1 = .ok (.ifCond .lt 14, 3) := by decide +kernel
theorem dX6_needBill_4 : decode cX6_needBill 4 = .ok (.iload_n 1, 1) := by decide +kernel
theorem dX6_needBill_5 : decode cX6_needBill 5 = .ok (.aload_n 0, 1) := by decide +kernel
theorem dX6_needBill_6 : decode cX6_needBill 6 = .ok (.getfield 40, 3) := by decide +kernel
theorem dX6_needBill_9 : decode cX6_needBill 9 = .ok (.invokevirtual 187, 3) := by decide +kernel
theorem dX6_needBill_12 : decode cX6_needBill 12 = .ok (.if_icmp .lt 14, 3) := by decide +kernel
theorem dX6_needBill_15 : decode cX6_needBill 15 = .ok (.new 274, 3) := by decide +kernel
theorem dX6_needBill_18 : decode cX6_needBill 18 = .ok (.dup, 1) := by decide +kernel
theorem dX6_needBill_19 : decode cX6_needBill 19 = .ok (.ldc_w 281, 3) := by decide +kernel
theorem dX6_needBill_22 : decode cX6_needBill 22 = .ok (.invokespecial 278, 3) := by decide +kernel
theorem dX6_needBill_25 : decode cX6_needBill 25 = .ok (.athrow, 1) := by decide +kernel
theorem dX6_needBill_26 : decode cX6_needBill 26 = .ok (.return_, 1) := by decide +kernel
theorem dX6_needVoyage_0 : decode cX6_needVoyage 0 = .ok (.iload_n 1, 1) := by decide +kernel
theorem dX6_needVoyage_1 : decode cX6_needVoyage 1 = .ok (.ifCond .lt 8, 3) := by decide +kernel
theorem dX6_needVoyage_4 : decode cX6_needVoyage 4 = .ok (.iload_n 1, 1) := by decide +kernel
theorem dX6_needVoyage_5 : decode cX6_needVoyage 5 = .ok (.iconst 4, 1) := by decide +kernel
theorem dX6_needVoyage_6 : decode cX6_needVoyage 6 = .ok (.if_icmp .lt 14, 3) := by decide +kernel
theorem dX6_needVoyage_9 : decode cX6_needVoyage 9 = .ok (.new 274, 3) := by decide +kernel
theorem dX6_needVoyage_12 : decode cX6_needVoyage 12 = .ok (.dup, 1) := by decide +kernel
theorem dX6_needVoyage_13 : decode cX6_needVoyage 13 = .ok (.ldc_w 283, 3) := by decide +kernel
theorem dX6_needVoyage_16 : decode cX6_needVoyage 16 = .ok (.invokespecial 278, 3) := by decide +kernel
theorem dX6_needVoyage_19 : decode cX6_needVoyage 19 = .ok (.athrow, 1) := by decide +kernel
theorem dX6_needVoyage_20 : decode cX6_needVoyage 20 = .ok (.return_, 1) := by decide +kernel
theorem dX6_metalNumber_0 : decode cX6_metalNumber 0 = .ok (.iload_n 1, 1) := by decide +kernel
theorem dX6_metalNumber_1 : decode cX6_metalNumber 1 = .ok (.bipush 103, 2) := by decide +kernel
theorem dX6_metalNumber_3 : decode cX6_metalNumber 3 = .ok (.if_icmp .ne 5, 3) := by decide +kernel
theorem dX6_metalNumber_6 : decode cX6_metalNumber 6 = .ok (.iconst 0, 1) := by decide +kernel
theorem dX6_metalNumber_7 : decode cX6_metalNumber 7 = .ok (.ireturn, 1) := by decide +kernel
theorem dX6_metalNumber_8 : decode cX6_metalNumber 8 = .ok (.iload_n 1, 1) := by decide +kernel
theorem dX6_metalNumber_9 : decode cX6_metalNumber 9 = .ok (.bipush 115, 2) := by decide +kernel
theorem dX6_metalNumber_11 : decode cX6_metalNumber 11 = .ok (.if_icmp .ne 5, 3) := by decide +kernel
theorem dX6_metalNumber_14 : decode cX6_metalNumber 14 = .ok (.iconst 1, 1) := by decide +kernel
theorem dX6_metalNumber_15 : decode cX6_metalNumber 15 = .ok (.ireturn, 1) := by decide +kernel
theorem dX6_metalNumber_16 : decode cX6_metalNumber 16 = .ok (.new 55, 3) := by decide +kernel
theorem dX6_metalNumber_19 : decode cX6_metalNumber 19 = .ok (.dup, 1) := by decide +kernel
theorem dX6_metalNumber_20 : decode cX6_metalNumber 20 = .ok (.ldc_w 285, 3) := by decide +kernel
theorem dX6_metalNumber_23 : decode cX6_metalNumber 23 = .ok (.invokespecial 59, 3) := by decide +kernel
theorem dX6_metalNumber_26 : decode cX6_metalNumber 26 = .ok (.athrow, 1) := by decide +kernel
theorem dX6_needRange_0 : decode cX6_needRange 0 = .ok (.iload_n 1, 1) := by decide +kernel
theorem dX6_needRange_1 : decode cX6_needRange 1 = .ok (.iconst 1, 1) := by decide +kernel
theorem dX6_needRange_2 : decode cX6_needRange 2 = .ok (.if_icmp .lt 8, 3) := by decide +kernel
theorem dX6_needRange_5 : decode cX6_needRange 5 = .ok (.iload_n 1, 1) := by decide +kernel
theorem dX6_needRange_6 : decode cX6_needRange 6 = .ok (.iload_n 2, 1) := by decide +kernel
theorem dX6_needRange_7 : decode cX6_needRange 7 = .ok (.if_icmp .le 14, 3) := by decide +kernel
theorem dX6_needRange_10 : decode cX6_needRange 10 = .ok (.new 55, 3) := by decide +kernel
theorem dX6_needRange_13 : decode cX6_needRange 13 = .ok (.dup, 1) := by decide +kernel
theorem dX6_needRange_14 : decode cX6_needRange 14 = .ok (.ldc_w 287, 3) := by decide +kernel
theorem dX6_needRange_17 : decode cX6_needRange 17 = .ok (.invokespecial 59, 3) := by decide +kernel
theorem dX6_needRange_20 : decode cX6_needRange 20 = .ok (.athrow, 1) := by decide +kernel
theorem dX6_needRange_21 : decode cX6_needRange 21 = .ok (.return_, 1) := by decide +kernel
theorem dX6_needDifferent_0 : decode cX6_needDifferent 0 = .ok (.iload_n 1, 1) := by decide +kernel
theorem dX6_needDifferent_1 : decode cX6_needDifferent 1 = .ok (.iload_n 2, 1) := by decide +kernel
theorem dX6_needDifferent_2 : decode cX6_needDifferent 2 = .ok (.if_icmp .ne 14, 3) := by decide +kernel
theorem dX6_needDifferent_5 : decode cX6_needDifferent 5 = .ok (.new 55, 3) := by decide +kernel
theorem dX6_needDifferent_8 : decode cX6_needDifferent 8 = .ok (.dup, 1) := by decide +kernel
theorem dX6_needDifferent_9 : decode cX6_needDifferent 9 = .ok (.ldc_w 289, 3) := by decide +kernel
theorem dX6_needDifferent_12 : decode cX6_needDifferent 12 = .ok (.invokespecial 59, 3) := by decide +kernel
theorem dX6_needDifferent_15 : decode cX6_needDifferent 15 = .ok (.athrow, 1) := by decide +kernel
theorem dX6_needDifferent_16 : decode cX6_needDifferent 16 = .ok (.return_, 1) := by decide +kernel
theorem dX6_needCustomer_0 : decode cX6_needCustomer 0 = .ok (.aload_n 0, 1) := by decide +kernel
theorem dX6_needCustomer_1 : decode cX6_needCustomer 1 = .ok (.iload_n 1, 1) := by decide +kernel
theorem dX6_needCustomer_2 : decode cX6_needCustomer 2 = .ok (.iload_n 2, 1) := by decide +kernel
theorem dX6_needCustomer_3 : decode cX6_needCustomer 3 = .ok (.invokevirtual 159, 3) := by decide +kernel
theorem dX6_needCustomer_6 : decode cX6_needCustomer 6 = .ok (.aload_n 0, 1) := by decide +kernel
theorem dX6_needCustomer_7 : decode cX6_needCustomer 7 = .ok (.getfield 10, 3) := by decide +kernel
theorem dX6_needCustomer_10 : decode cX6_needCustomer 10 = .ok (.iload_n 2, 1) := by decide +kernel
theorem dX6_needCustomer_11 : decode cX6_needCustomer 11 = .ok (.invokevirtual 79, 3) := by decide +kernel
theorem dX6_needCustomer_14 : decode cX6_needCustomer 14 = .ok (.bipush 98, 2) := by decide +kernel
theorem dX6_needCustomer_16 : decode cX6_needCustomer 16 = .ok (.if_icmp .eq 14, 3) := by decide +kernel
theorem dX6_needCustomer_19 : decode cX6_needCustomer 19 = .ok (.new 55, 3) := by decide +kernel
theorem dX6_needCustomer_22 : decode cX6_needCustomer 22 = .ok (.dup, 1) := by decide +kernel
theorem dX6_needCustomer_23 : decode cX6_needCustomer 23 = .ok (.ldc_w 291, 3) := by decide +kernel
theorem dX6_needCustomer_26 : decode cX6_needCustomer 26 = .ok (.invokespecial 59, 3) := by decide +kernel
theorem dX6_needCustomer_29 : decode cX6_needCustomer 29 = .ok (.athrow, 1) := by decide +kernel
theorem dX6_needCustomer_30 : decode cX6_needCustomer 30 = .ok (.aload_n 0, 1) := by decide +kernel
theorem dX6_needCustomer_31 : decode cX6_needCustomer 31 = .ok (.iload_n 1, 1) := by decide +kernel
theorem dX6_needCustomer_32 : decode cX6_needCustomer 32 = .ok (.invokevirtual 90, 3) := by decide +kernel
theorem dX6_needCustomer_35 : decode cX6_needCustomer 35 = .ok (.aload_n 0, 1) := by decide +kernel
theorem dX6_needCustomer_36 : decode cX6_needCustomer 36 = .ok (.iload_n 2, 1) := by decide +kernel
theorem dX6_needCustomer_37 : decode cX6_needCustomer 37 = .ok (.invokevirtual 90, 3) := by decide +kernel
theorem dX6_needCustomer_40 : decode cX6_needCustomer 40 = .ok (.return_, 1) := by decide +kernel
theorem dX6_needOpen_0 : decode cX6_needOpen 0 = .ok (.aload_n 0, 1) := by decide +kernel
theorem dX6_needOpen_1 : decode cX6_needOpen 1 = .ok (.getfield 10, 3) := by decide +kernel
theorem dX6_needOpen_4 : decode cX6_needOpen 4 = .ok (.iload_n 1, 1) := by decide +kernel
theorem dX6_needOpen_5 : decode cX6_needOpen 5 = .ok (.invokevirtual 75, 3) := by decide +kernel
theorem dX6_needOpen_8 : decode cX6_needOpen 8 = .ok (.ifCond .ne 14, 3) := by decide +kernel
theorem dX6_needOpen_11 : decode cX6_needOpen 11 = .ok (.new 66, 3) := by decide +kernel
theorem dX6_needOpen_14 : decode cX6_needOpen 14 = .ok (.dup, 1) := by decide +kernel
theorem dX6_needOpen_15 : decode cX6_needOpen 15 = .ok (.ldc_w 293, 3) := by decide +kernel
theorem dX6_needOpen_18 : decode cX6_needOpen 18 = .ok (.invokespecial 70, 3) := by decide +kernel
theorem dX6_needOpen_21 : decode cX6_needOpen 21 = .ok (.athrow, 1) := by decide +kernel
theorem dX6_needOpen_22 : decode cX6_needOpen 22 = .ok (.return_, 1) := by decide +kernel
theorem dX6_needOpenSharers_0 : decode cX6_needOpenSharers 0 = .ok (.iconst 0, 1) := by decide +kernel
theorem dX6_needOpenSharers_1 : decode cX6_needOpenSharers 1 = .ok (.istore_n 2, 1) := by decide +kernel
theorem dX6_needOpenSharers_2 : decode cX6_needOpenSharers 2 = .ok (.iload_n 2, 1) := by decide +kernel
theorem dX6_needOpenSharers_3 : decode cX6_needOpenSharers 3 = .ok (.aload_n 0, 1) := by decide +kernel
theorem dX6_needOpenSharers_4 : decode cX6_needOpenSharers 4 = .ok (.getfield 10, 3) := by decide +kernel
theorem dX6_needOpenSharers_7 : decode cX6_needOpenSharers 7 = .ok (.invokevirtual 62, 3) := by decide +kernel
theorem dX6_needOpenSharers_10 : decode cX6_needOpenSharers 10 = .ok (.if_icmp .ge 26, 3) := by decide +kernel
theorem dX6_needOpenSharers_13 : decode cX6_needOpenSharers 13 = .ok (.aload_n 0, 1) := by decide +kernel
theorem dX6_needOpenSharers_14 : decode cX6_needOpenSharers 14 = .ok (.getfield 47, 3) := by decide +kernel
theorem dX6_needOpenSharers_17 : decode cX6_needOpenSharers 17 = .ok (.iload_n 1, 1) := by decide +kernel
theorem dX6_needOpenSharers_18 : decode cX6_needOpenSharers 18 = .ok (.iload_n 2, 1) := by decide +kernel
theorem dX6_needOpenSharers_19 : decode cX6_needOpenSharers 19 = .ok (.invokevirtual 224, 3) := by decide +kernel
theorem dX6_needOpenSharers_22 : decode cX6_needOpenSharers 22 = .ok (.ifCond .eq 8, 3) := by decide +kernel
theorem dX6_needOpenSharers_25 : decode cX6_needOpenSharers 25 = .ok (.aload_n 0, 1) := by decide +kernel
theorem dX6_needOpenSharers_26 : decode cX6_needOpenSharers 26 = .ok (.iload_n 2, 1) := by decide +kernel
theorem dX6_needOpenSharers_27 : decode cX6_needOpenSharers 27 = .ok (.invokevirtual 90, 3) := by decide +kernel
theorem dX6_needOpenSharers_30 : decode cX6_needOpenSharers 30 = .ok (.iinc 2 1, 3) := by decide +kernel
theorem dX6_needOpenSharers_33 : decode cX6_needOpenSharers 33 = .ok (.goto (-31), 3) := by decide +kernel
theorem dX6_needOpenSharers_36 : decode cX6_needOpenSharers 36 = .ok (.return_, 1) := by decide +kernel
theorem dX6_needWhole_0 : decode cX6_needWhole 0 = .ok (.aload_n 0, 1) := by decide +kernel
theorem dX6_needWhole_1 : decode cX6_needWhole 1 = .ok (.getfield 26, 3) := by decide +kernel
theorem dX6_needWhole_4 : decode cX6_needWhole 4 = .ok (.iload_n 1, 1) := by decide +kernel
theorem dX6_needWhole_5 : decode cX6_needWhole 5 = .ok (.invokevirtual 140, 3) := by decide +kernel
theorem dX6_needWhole_8 : decode cX6_needWhole 8 = .ok (.iconst (-1), 1) := by decide +kernel
theorem dX6_needWhole_9 : decode cX6_needWhole 9 = .ok (.if_icmp .ne 14, 3) := by decide +kernel
theorem dX6_needWhole_12 : decode cX6_needWhole 12 = .ok (.new 111, 3) := by decide +kernel
theorem dX6_needWhole_15 : decode cX6_needWhole 15 = .ok (.dup, 1) := by decide +kernel
theorem dX6_needWhole_16 : decode cX6_needWhole 16 = .ok (.ldc_w 295, 3) := by decide +kernel
theorem dX6_needWhole_19 : decode cX6_needWhole 19 = .ok (.invokespecial 115, 3) := by decide +kernel
theorem dX6_needWhole_22 : decode cX6_needWhole 22 = .ok (.athrow, 1) := by decide +kernel
theorem dX6_needWhole_23 : decode cX6_needWhole 23 = .ok (.return_, 1) := by decide +kernel
theorem dX6_needLoose_0 : decode cX6_needLoose 0 = .ok (.aload_n 0, 1) := by decide +kernel
theorem dX6_needLoose_1 : decode cX6_needLoose 1 = .ok (.getfield 26, 3) := by decide +kernel
theorem dX6_needLoose_4 : decode cX6_needLoose 4 = .ok (.iload_n 1, 1) := by decide +kernel
theorem dX6_needLoose_5 : decode cX6_needLoose 5 = .ok (.iload_n 2, 1) := by decide +kernel
theorem dX6_needLoose_6 : decode cX6_needLoose 6 = .ok (.invokevirtual 181, 3) := by decide +kernel
theorem dX6_needLoose_9 : decode cX6_needLoose 9 = .ok (.iload_n 3, 1) := by decide +kernel
theorem dX6_needLoose_10 : decode cX6_needLoose 10 = .ok (.if_icmp .ge 14, 3) := by decide +kernel
theorem dX6_needLoose_13 : decode cX6_needLoose 13 = .ok (.new 111, 3) := by decide +kernel
theorem dX6_needLoose_16 : decode cX6_needLoose 16 = .ok (.dup, 1) := by decide +kernel
theorem dX6_needLoose_17 : decode cX6_needLoose 17 = .ok (.ldc_w 297, 3) := by decide +kernel
theorem dX6_needLoose_20 : decode cX6_needLoose 20 = .ok (.invokespecial 115, 3) := by decide +kernel
theorem dX6_needLoose_23 : decode cX6_needLoose 23 = .ok (.athrow, 1) := by decide +kernel
theorem dX6_needLoose_24 : decode cX6_needLoose 24 = .ok (.return_, 1) := by decide +kernel
theorem dX6_needClaim_0 : decode cX6_needClaim 0 = .ok (.aload_n 0, 1) := by decide +kernel
theorem dX6_needClaim_1 : decode cX6_needClaim 1 = .ok (.getfield 33, 3) := by decide +kernel
theorem dX6_needClaim_4 : decode cX6_needClaim 4 = .ok (.iload_n 1, 1) := by decide +kernel
theorem dX6_needClaim_5 : decode cX6_needClaim 5 = .ok (.iload_n 2, 1) := by decide +kernel
theorem dX6_needClaim_6 : decode cX6_needClaim 6 = .ok (.invokevirtual 175, 3) := by decide +kernel
theorem dX6_needClaim_9 : decode cX6_needClaim 9 = .ok (.iload_n 3, 1) := by decide +kernel
theorem dX6_needClaim_10 : decode cX6_needClaim 10 = .ok (.if_icmp .ge 14, 3) := by decide +kernel
theorem dX6_needClaim_13 : decode cX6_needClaim 13 = .ok (.new 111, 3) := by decide +kernel
theorem dX6_needClaim_16 : decode cX6_needClaim 16 = .ok (.dup, 1) := by decide +kernel
theorem dX6_needClaim_17 : decode cX6_needClaim 17 = .ok (.ldc_w 299, 3) := by decide +kernel
theorem dX6_needClaim_20 : decode cX6_needClaim 20 = .ok (.invokespecial 115, 3) := by decide +kernel
theorem dX6_needClaim_23 : decode cX6_needClaim 23 = .ok (.athrow, 1) := by decide +kernel
theorem dX6_needClaim_24 : decode cX6_needClaim 24 = .ok (.return_, 1) := by decide +kernel
theorem dX6_needCoins_0 : decode cX6_needCoins 0 = .ok (.aload_n 0, 1) := by decide +kernel
theorem dX6_needCoins_1 : decode cX6_needCoins 1 = .ok (.getfield 26, 3) := by decide +kernel
theorem dX6_needCoins_4 : decode cX6_needCoins 4 = .ok (.invokevirtual 301, 3) := by decide +kernel
theorem dX6_needCoins_7 : decode cX6_needCoins 7 = .ok (.istore_n 1, 1) := by decide +kernel
theorem dX6_needCoins_8 : decode cX6_needCoins 8 = .ok (.iload_n 1, 1) := by decide +kernel
theorem dX6_needCoins_9 : decode cX6_needCoins 9 = .ok (.ifCond .ne 14, 3) := by decide +kernel
theorem dX6_needCoins_12 : decode cX6_needCoins 12 = .ok (.new 304, 3) := by decide +kernel
theorem dX6_needCoins_15 : decode cX6_needCoins 15 = .ok (.dup, 1) := by decide +kernel
theorem dX6_needCoins_16 : decode cX6_needCoins 16 = .ok (.ldc_w 306, 3) := by decide +kernel
theorem dX6_needCoins_19 : decode cX6_needCoins 19 = .ok (.invokespecial 308, 3) := by decide +kernel
theorem dX6_needCoins_22 : decode cX6_needCoins 22 = .ok (.athrow, 1) := by decide +kernel
theorem dX6_needCoins_23 : decode cX6_needCoins 23 = .ok (.iload_n 1, 1) := by decide +kernel
theorem dX6_needCoins_24 : decode cX6_needCoins 24 = .ok (.ireturn, 1) := by decide +kernel
theorem dX6_strike_0 : decode cX6_strike 0 = .ok (.aload_n 0, 1) := by decide +kernel
theorem dX6_strike_1 : decode cX6_strike 1 = .ok (.getfield 19, 3) := by decide +kernel
theorem dX6_strike_4 : decode cX6_strike 4 = .ok (.iload_n 2, 1) := by decide +kernel
theorem dX6_strike_5 : decode cX6_strike 5 = .ok (.invokevirtual 105, 3) := by decide +kernel
theorem dX6_strike_8 : decode cX6_strike 8 = .ok (.istore 4, 2) := by decide +kernel
theorem dX6_strike_10 : decode cX6_strike 10 = .ok (.iconst 0, 1) := by decide +kernel
theorem dX6_strike_11 : decode cX6_strike 11 = .ok (.istore 5, 2) := by decide +kernel
theorem dX6_strike_13 : decode cX6_strike 13 = .ok (.iload 5, 2) := by decide +kernel
theorem dX6_strike_15 : decode cX6_strike 15 = .ok (.iload_n 3, 1) := by decide +kernel
theorem dX6_strike_16 : decode cX6_strike 16 = .ok (.if_icmp .ge 56, 3) := by decide +kernel
theorem dX6_strike_19 : decode cX6_strike 19 = .ok (.aload_n 0, 1) := by decide +kernel
theorem dX6_strike_20 : decode cX6_strike 20 = .ok (.getfield 26, 3) := by decide +kernel
theorem dX6_strike_23 : decode cX6_strike 23 = .ok (.invokevirtual 116, 3) := by decide +kernel
theorem dX6_strike_26 : decode cX6_strike 26 = .ok (.ifCond .le 46, 3) := by decide +kernel
theorem dX6_strike_29 : decode cX6_strike 29 = .ok (.aload_n 0, 1) := by decide +kernel
theorem dX6_strike_30 : decode cX6_strike 30 = .ok (.getfield 19, 3) := by decide +kernel
theorem dX6_strike_33 : decode cX6_strike 33 = .ok (.iload_n 1, 1) := by decide +kernel
theorem dX6_strike_34 : decode cX6_strike 34 = .ok (.iload_n 2, 1) := by decide +kernel
theorem dX6_strike_35 : decode cX6_strike 35 = .ok (.invokevirtual 97, 3) := by decide +kernel
theorem dX6_strike_38 : decode cX6_strike 38 = .ok (.iload 4, 2) := by decide +kernel
theorem dX6_strike_40 : decode cX6_strike 40 = .ok (.if_icmp .lt 32, 3) := by decide +kernel
theorem dX6_strike_43 : decode cX6_strike 43 = .ok (.aload_n 0, 1) := by decide +kernel
theorem dX6_strike_44 : decode cX6_strike 44 = .ok (.getfield 19, 3) := by decide +kernel
theorem dX6_strike_47 : decode cX6_strike 47 = .ok (.iload_n 1, 1) := by decide +kernel
theorem dX6_strike_48 : decode cX6_strike 48 = .ok (.iload_n 2, 1) := by decide +kernel
theorem dX6_strike_49 : decode cX6_strike 49 = .ok (.iload 4, 2) := by decide +kernel
theorem dX6_strike_51 : decode cX6_strike 51 = .ok (.ineg, 1) := by decide +kernel
theorem dX6_strike_52 : decode cX6_strike 52 = .ok (.invokevirtual 146, 3) := by decide +kernel
theorem dX6_strike_55 : decode cX6_strike 55 = .ok (.aload_n 0, 1) := by decide +kernel
theorem dX6_strike_56 : decode cX6_strike 56 = .ok (.getfield 26, 3) := by decide +kernel
theorem dX6_strike_59 : decode cX6_strike 59 = .ok (.iload_n 1, 1) := by decide +kernel
theorem dX6_strike_60 : decode cX6_strike 60 = .ok (.iload_n 2, 1) := by decide +kernel
theorem dX6_strike_61 : decode cX6_strike 61 = .ok (.iload 4, 2) := by decide +kernel
theorem dX6_strike_63 : decode cX6_strike 63 = .ok (.invokevirtual 309, 3) := by decide +kernel
theorem dX6_strike_66 : decode cX6_strike 66 = .ok (.iinc 5 1, 3) := by decide +kernel
theorem dX6_strike_69 : decode cX6_strike 69 = .ok (.goto (-56), 3) := by decide +kernel
theorem dX6_strike_72 : decode cX6_strike 72 = .ok (.iload 5, 2) := by decide +kernel
theorem dX6_strike_74 : decode cX6_strike 74 = .ok (.ireturn, 1) := by decide +kernel
theorem dX6_fail_0 : decode cX6_fail 0 = .ok (.aload_n 0, 1) := by decide +kernel
theorem dX6_fail_1 : decode cX6_fail 1 = .ok (.getfield 10, 3) := by decide +kernel
theorem dX6_fail_4 : decode cX6_fail 4 = .ok (.iload_n 1, 1) := by decide +kernel
theorem dX6_fail_5 : decode cX6_fail 5 = .ok (.invokevirtual 310, 3) := by decide +kernel
theorem dX6_fail_8 : decode cX6_fail 8 = .ok (.aload_n 0, 1) := by decide +kernel
theorem dX6_fail_9 : decode cX6_fail 9 = .ok (.iload_n 1, 1) := by decide +kernel
theorem dX6_fail_10 : decode cX6_fail 10 = .ok (.invokevirtual 313, 3) := by decide +kernel
theorem dX6_fail_13 : decode cX6_fail 13 = .ok (.aload_n 0, 1) := by decide +kernel
theorem dX6_fail_14 : decode cX6_fail 14 = .ok (.dup, 1) := by decide +kernel
theorem dX6_fail_15 : decode cX6_fail 15 = .ok (.getfield 251, 3) := by decide +kernel
theorem dX6_fail_18 : decode cX6_fail 18 = .ok (.aload_n 0, 1) := by decide +kernel
theorem dX6_fail_19 : decode cX6_fail 19 = .ok (.getfield 33, 3) := by decide +kernel
theorem dX6_fail_22 : decode cX6_fail 22 = .ok (.iload_n 1, 1) := by decide +kernel
theorem dX6_fail_23 : decode cX6_fail 23 = .ok (.invokevirtual 316, 3) := by decide +kernel
theorem dX6_fail_26 : decode cX6_fail 26 = .ok (.ladd, 1) := by decide +kernel
theorem dX6_fail_27 : decode cX6_fail 27 = .ok (.putfield 251, 3) := by decide +kernel
theorem dX6_fail_30 : decode cX6_fail 30 = .ok (.aload_n 0, 1) := by decide +kernel
theorem dX6_fail_31 : decode cX6_fail 31 = .ok (.getfield 26, 3) := by decide +kernel
theorem dX6_fail_34 : decode cX6_fail 34 = .ok (.iload_n 1, 1) := by decide +kernel
theorem dX6_fail_35 : decode cX6_fail 35 = .ok (.iconst 0, 1) := by decide +kernel
theorem dX6_fail_36 : decode cX6_fail 36 = .ok (.invokevirtual 319, 3) := by decide +kernel
theorem dX6_fail_39 : decode cX6_fail 39 = .ok (.iconst 0, 1) := by decide +kernel
theorem dX6_fail_40 : decode cX6_fail 40 = .ok (.istore_n 2, 1) := by decide +kernel
theorem dX6_fail_41 : decode cX6_fail 41 = .ok (.iload_n 2, 1) := by decide +kernel
theorem dX6_fail_42 : decode cX6_fail 42 = .ok (.iconst 2, 1) := by decide +kernel
theorem dX6_fail_43 : decode cX6_fail 43 = .ok (.if_icmp .ge 19, 3) := by decide +kernel
theorem dX6_fail_46 : decode cX6_fail 46 = .ok (.aload_n 0, 1) := by decide +kernel
theorem dX6_fail_47 : decode cX6_fail 47 = .ok (.getfield 19, 3) := by decide +kernel
theorem dX6_fail_50 : decode cX6_fail 50 = .ok (.iload_n 1, 1) := by decide +kernel
theorem dX6_fail_51 : decode cX6_fail 51 = .ok (.iconst 0, 1) := by decide +kernel
theorem dX6_fail_52 : decode cX6_fail 52 = .ok (.iload_n 2, 1) := by decide +kernel
theorem dX6_fail_53 : decode cX6_fail 53 = .ok (.invokevirtual 322, 3) := by decide +kernel
theorem dX6_fail_56 : decode cX6_fail 56 = .ok (.iinc 2 1, 3) := by decide +kernel
theorem dX6_fail_59 : decode cX6_fail 59 = .ok (.goto (-18), 3) := by decide +kernel
theorem dX6_fail_62 : decode cX6_fail 62 = .ok (.aload_n 0, 1) := by decide +kernel
theorem dX6_fail_63 : decode cX6_fail 63 = .ok (.getfield 33, 3) := by decide +kernel
theorem dX6_fail_66 : decode cX6_fail 66 = .ok (.iload_n 1, 1) := by decide +kernel
theorem dX6_fail_67 : decode cX6_fail 67 = .ok (.invokevirtual 325, 3) := by decide +kernel
theorem dX6_fail_70 : decode cX6_fail 70 = .ok (.return_, 1) := by decide +kernel
theorem dX6_partCoins_0 : decode cX6_partCoins 0 = .ok (.iconst 0, 1) := by decide +kernel
theorem dX6_partCoins_1 : decode cX6_partCoins 1 = .ok (.istore_n 2, 1) := by decide +kernel
theorem dX6_partCoins_2 : decode cX6_partCoins 2 = .ok (.iload_n 2, 1) := by decide +kernel
theorem dX6_partCoins_3 : decode cX6_partCoins 3 = .ok (.bipush 90, 2) := by decide +kernel
theorem dX6_partCoins_5 : decode cX6_partCoins 5 = .ok (.if_icmp .ge 97, 3) := by decide +kernel
theorem dX6_partCoins_8 : decode cX6_partCoins 8 = .ok (.aload_n 0, 1) := by decide +kernel
theorem dX6_partCoins_9 : decode cX6_partCoins 9 = .ok (.getfield 26, 3) := by decide +kernel
theorem dX6_partCoins_12 : decode cX6_partCoins 12 = .ok (.iload_n 1, 1) := by decide +kernel
theorem dX6_partCoins_13 : decode cX6_partCoins 13 = .ok (.invokevirtual 328, 3) := by decide +kernel
theorem dX6_partCoins_16 : decode cX6_partCoins 16 = .ok (.istore_n 3, 1) := by decide +kernel
theorem dX6_partCoins_17 : decode cX6_partCoins 17 = .ok (.aload_n 0, 1) := by decide +kernel
theorem dX6_partCoins_18 : decode cX6_partCoins 18 = .ok (.getfield 33, 3) := by decide +kernel
theorem dX6_partCoins_21 : decode cX6_partCoins 21 = .ok (.iload_n 1, 1) := by decide +kernel
theorem dX6_partCoins_22 : decode cX6_partCoins 22 = .ok (.invokevirtual 331, 3) := by decide +kernel
theorem dX6_partCoins_25 : decode cX6_partCoins 25 = .ok (.istore 4, 2) := by decide +kernel
theorem dX6_partCoins_27 : decode cX6_partCoins 27 = .ok (.iload_n 3, 1) := by decide +kernel
theorem dX6_partCoins_28 : decode cX6_partCoins 28 = .ok (.iconst (-1), 1) := by decide +kernel
theorem dX6_partCoins_29 : decode cX6_partCoins 29 = .ok (.if_icmp .eq 9, 3) := by decide +kernel
theorem dX6_partCoins_32 : decode cX6_partCoins 32 = .ok (.iload 4, 2) := by decide +kernel
theorem dX6_partCoins_34 : decode cX6_partCoins 34 = .ok (.iconst (-1), 1) := by decide +kernel
theorem dX6_partCoins_35 : decode cX6_partCoins 35 = .ok (.if_icmp .ne 4, 3) := by decide +kernel
theorem dX6_partCoins_38 : decode cX6_partCoins 38 = .ok (.return_, 1) := by decide +kernel
theorem dX6_partCoins_39 : decode cX6_partCoins 39 = .ok (.aload_n 0, 1) := by decide +kernel
theorem dX6_partCoins_40 : decode cX6_partCoins 40 = .ok (.getfield 33, 3) := by decide +kernel
theorem dX6_partCoins_43 : decode cX6_partCoins 43 = .ok (.iload 4, 2) := by decide +kernel
theorem dX6_partCoins_45 : decode cX6_partCoins 45 = .ok (.iload_n 1, 1) := by decide +kernel
theorem dX6_partCoins_46 : decode cX6_partCoins 46 = .ok (.invokevirtual 175, 3) := by decide +kernel
theorem dX6_partCoins_49 : decode cX6_partCoins 49 = .ok (.istore 5, 2) := by decide +kernel
theorem dX6_partCoins_51 : decode cX6_partCoins 51 = .ok (.aload_n 0, 1) := by decide +kernel
theorem dX6_partCoins_52 : decode cX6_partCoins 52 = .ok (.getfield 19, 3) := by decide +kernel
theorem dX6_partCoins_55 : decode cX6_partCoins 55 = .ok (.aload_n 0, 1) := by decide +kernel
theorem dX6_partCoins_56 : decode cX6_partCoins 56 = .ok (.getfield 26, 3) := by decide +kernel
theorem dX6_partCoins_59 : decode cX6_partCoins 59 = .ok (.iload_n 3, 1) := by decide +kernel
theorem dX6_partCoins_60 : decode cX6_partCoins 60 = .ok (.invokevirtual 143, 3) := by decide +kernel
theorem dX6_partCoins_63 : decode cX6_partCoins 63 = .ok (.invokevirtual 101, 3) := by decide +kernel
theorem dX6_partCoins_66 : decode cX6_partCoins 66 = .ok (.istore 6, 2) := by decide +kernel
theorem dX6_partCoins_68 : decode cX6_partCoins 68 = .ok (.aload_n 0, 1) := by decide +kernel
theorem dX6_partCoins_69 : decode cX6_partCoins 69 = .ok (.getfield 26, 3) := by decide +kernel
theorem dX6_partCoins_72 : decode cX6_partCoins 72 = .ok (.iload_n 3, 1) := by decide +kernel
theorem dX6_partCoins_73 : decode cX6_partCoins 73 = .ok (.iload 4, 2) := by decide +kernel
theorem dX6_partCoins_75 : decode cX6_partCoins 75 = .ok (.invokevirtual 334, 3) := by decide +kernel
theorem dX6_partCoins_78 : decode cX6_partCoins 78 = .ok (.aload_n 0, 1) := by decide +kernel
theorem dX6_partCoins_79 : decode cX6_partCoins 79 = .ok (.getfield 33, 3) := by decide +kernel
theorem dX6_partCoins_82 : decode cX6_partCoins 82 = .ok (.iload 4, 2) := by decide +kernel
theorem dX6_partCoins_84 : decode cX6_partCoins 84 = .ok (.iload_n 1, 1) := by decide +kernel
theorem dX6_partCoins_85 : decode cX6_partCoins 85 = .ok (.iload 5, 2) := by decide +kernel
theorem dX6_partCoins_87 : decode cX6_partCoins 87 = .ok (.iload 6, 2) := by decide +kernel
theorem dX6_partCoins_89 : decode cX6_partCoins 89 = .ok (.invokestatic 337, 3) := by decide +kernel
theorem dX6_partCoins_92 : decode cX6_partCoins 92 = .ok (.ineg, 1) := by decide +kernel
theorem dX6_partCoins_93 : decode cX6_partCoins 93 = .ok (.invokevirtual 172, 3) := by decide +kernel
theorem dX6_partCoins_96 : decode cX6_partCoins 96 = .ok (.iinc 2 1, 3) := by decide +kernel
theorem dX6_partCoins_99 : decode cX6_partCoins 99 = .ok (.goto (-97), 3) := by decide +kernel
theorem dX6_partCoins_102 : decode cX6_partCoins 102 = .ok (.return_, 1) := by decide +kernel
theorem dX6_settle_0 : decode cX6_settle 0 = .ok (.aload_n 0, 1) := by decide +kernel
theorem dX6_settle_1 : decode cX6_settle 1 = .ok (.getfield 40, 3) := by decide +kernel
theorem dX6_settle_4 : decode cX6_settle 4 = .ok (.iload_n 1, 1) := by decide +kernel
theorem dX6_settle_5 : decode cX6_settle 5 = .ok (.invokevirtual 196, 3) := by decide +kernel
theorem dX6_settle_8 : decode cX6_settle 8 = .ok (.istore_n 2, 1) := by decide +kernel
theorem dX6_settle_9 : decode cX6_settle 9 = .ok (.aload_n 0, 1) := by decide +kernel
theorem dX6_settle_10 : decode cX6_settle 10 = .ok (.getfield 40, 3) := by decide +kernel
theorem dX6_settle_13 : decode cX6_settle 13 = .ok (.iload_n 1, 1) := by decide +kernel
theorem dX6_settle_14 : decode cX6_settle 14 = .ok (.invokevirtual 342, 3) := by decide +kernel
theorem dX6_settle_17 : decode cX6_settle 17 = .ok (.iload_n 2, 1) := by decide +kernel
theorem dX6_settle_18 : decode cX6_settle 18 = .ok (.iconst (-1), 1) := by decide +kernel
theorem dX6_settle_19 : decode cX6_settle 19 = .ok (.if_icmp .eq 14, 3) := by decide +kernel
theorem dX6_settle_22 : decode cX6_settle 22 = .ok (.aload_n 0, 1) := by decide +kernel
theorem dX6_settle_23 : decode cX6_settle 23 = .ok (.getfield 10, 3) := by decide +kernel
theorem dX6_settle_26 : decode cX6_settle 26 = .ok (.iload_n 2, 1) := by decide +kernel
theorem dX6_settle_27 : decode cX6_settle 27 = .ok (.invokevirtual 75, 3) := by decide +kernel
theorem dX6_settle_30 : decode cX6_settle 30 = .ok (.ifCond .ne 5, 3) := by decide +kernel
theorem dX6_settle_33 : decode cX6_settle 33 = .ok (.iconst 0, 1) := by decide +kernel
theorem dX6_settle_34 : decode cX6_settle 34 = .ok (.ireturn, 1) := by decide +kernel
theorem dX6_settle_35 : decode cX6_settle 35 = .ok (.aload_n 0, 1) := by decide +kernel
theorem dX6_settle_36 : decode cX6_settle 36 = .ok (.iload_n 1, 1) := by decide +kernel
theorem dX6_settle_37 : decode cX6_settle 37 = .ok (.invokevirtual 345, 3) := by decide +kernel
theorem dX6_settle_40 : decode cX6_settle 40 = .ok (.istore_n 3, 1) := by decide +kernel
theorem dX6_settle_41 : decode cX6_settle 41 = .ok (.iload_n 3, 1) := by decide +kernel
theorem dX6_settle_42 : decode cX6_settle 42 = .ok (.iconst (-1), 1) := by decide +kernel
theorem dX6_settle_43 : decode cX6_settle 43 = .ok (.if_icmp .eq 8, 3) := by decide +kernel
theorem dX6_settle_46 : decode cX6_settle 46 = .ok (.iload_n 3, 1) := by decide +kernel
theorem dX6_settle_47 : decode cX6_settle 47 = .ok (.iload_n 2, 1) := by decide +kernel
theorem dX6_settle_48 : decode cX6_settle 48 = .ok (.if_icmp .ne 5, 3) := by decide +kernel
theorem dX6_settle_51 : decode cX6_settle 51 = .ok (.iconst 0, 1) := by decide +kernel
theorem dX6_settle_52 : decode cX6_settle 52 = .ok (.ireturn, 1) := by decide +kernel
theorem dX6_settle_53 : decode cX6_settle 53 = .ok (.aload_n 0, 1) := by decide +kernel
theorem dX6_settle_54 : decode cX6_settle 54 = .ok (.getfield 33, 3) := by decide +kernel
theorem dX6_settle_57 : decode cX6_settle 57 = .ok (.iload_n 2, 1) := by decide +kernel
theorem dX6_settle_58 : decode cX6_settle 58 = .ok (.iload_n 3, 1) := by decide +kernel
theorem dX6_settle_59 : decode cX6_settle 59 = .ok (.aload_n 0, 1) := by decide +kernel
theorem dX6_settle_60 : decode cX6_settle 60 = .ok (.getfield 40, 3) := by decide +kernel
theorem dX6_settle_63 : decode cX6_settle 63 = .ok (.iload_n 1, 1) := by decide +kernel
theorem dX6_settle_64 : decode cX6_settle 64 = .ok (.invokevirtual 348, 3) := by decide +kernel
theorem dX6_settle_67 : decode cX6_settle 67 = .ok (.invokevirtual 172, 3) := by decide +kernel
theorem dX6_settle_70 : decode cX6_settle 70 = .ok (.iconst 1, 1) := by decide +kernel
theorem dX6_settle_71 : decode cX6_settle 71 = .ok (.ireturn, 1) := by decide +kernel
theorem dX6_firstOpenLiable_0 : decode cX6_firstOpenLiable 0 = .ok (.iconst 0, 1) := by decide +kernel
theorem dX6_firstOpenLiable_1 : decode cX6_firstOpenLiable 1 = .ok (.istore_n 2, 1) := by decide +kernel
theorem dX6_firstOpenLiable_2 : decode cX6_firstOpenLiable 2 = .ok (.iload_n 2, 1) := by decide +kernel
theorem dX6_firstOpenLiable_3 : decode cX6_firstOpenLiable 3 = .ok (.aload_n 0, 1) := by decide +kernel
theorem dX6_firstOpenLiable_4 : decode cX6_firstOpenLiable 4 = .ok (.getfield 40, 3) := by decide +kernel
theorem dX6_firstOpenLiable_7 : decode cX6_firstOpenLiable 7 = .ok (.iload_n 1, 1) := by decide +kernel
theorem dX6_firstOpenLiable_8 : decode cX6_firstOpenLiable 8 = .ok (.invokevirtual 350, 3) := by decide +kernel
theorem dX6_firstOpenLiable_11 : decode cX6_firstOpenLiable 11 = .ok (.if_icmp .ge 32, 3) := by decide +kernel
theorem dX6_firstOpenLiable_14 : decode cX6_firstOpenLiable 14 = .ok (.aload_n 0, 1) := by decide +kernel
theorem dX6_firstOpenLiable_15 : decode cX6_firstOpenLiable 15 = .ok (.getfield 40, 3) := by decide +kernel
theorem dX6_firstOpenLiable_18 : decode cX6_firstOpenLiable 18 = .ok (.iload_n 1, 1) := by decide +kernel
theorem dX6_firstOpenLiable_19 : decode cX6_firstOpenLiable 19 = .ok (.iload_n 2, 1) := by decide +kernel
theorem dX6_firstOpenLiable_20 : decode cX6_firstOpenLiable 20 = .ok (.invokevirtual 353, 3) := by decide +kernel
theorem dX6_firstOpenLiable_23 : decode cX6_firstOpenLiable 23 = .ok (.istore_n 3, 1) := by decide +kernel
theorem dX6_firstOpenLiable_24 : decode cX6_firstOpenLiable 24 = .ok (.aload_n 0, 1) := by decide +kernel
theorem dX6_firstOpenLiable_25 : decode cX6_firstOpenLiable 25 = .ok (.getfield 10, 3) := by decide +kernel
theorem dX6_firstOpenLiable_28 : decode cX6_firstOpenLiable 28 = .ok (.iload_n 3, 1) := by decide +kernel
theorem dX6_firstOpenLiable_29 : decode cX6_firstOpenLiable 29 = .ok (.invokevirtual 75, 3) := by decide +kernel
theorem dX6_firstOpenLiable_32 : decode cX6_firstOpenLiable 32 = .ok (.ifCond .eq 5, 3) := by decide +kernel
theorem dX6_firstOpenLiable_35 : decode cX6_firstOpenLiable 35 = .ok (.iload_n 3, 1) := by decide +kernel
theorem dX6_firstOpenLiable_36 : decode cX6_firstOpenLiable 36 = .ok (.ireturn, 1) := by decide +kernel
theorem dX6_firstOpenLiable_37 : decode cX6_firstOpenLiable 37 = .ok (.iinc 2 1, 3) := by decide +kernel
theorem dX6_firstOpenLiable_40 : decode cX6_firstOpenLiable 40 = .ok (.goto (-38), 3) := by decide +kernel
theorem dX6_firstOpenLiable_43 : decode cX6_firstOpenLiable 43 = .ok (.iconst (-1), 1) := by decide +kernel
theorem dX6_firstOpenLiable_44 : decode cX6_firstOpenLiable 44 = .ok (.ireturn, 1) := by decide +kernel
theorem dX6_isMetalWhole_0 : decode cX6_isMetalWhole 0 = .ok (.aload_n 0, 1) := by decide +kernel
theorem dX6_isMetalWhole_1 : decode cX6_isMetalWhole 1 = .ok (.getfield 19, 3) := by decide +kernel
theorem dX6_isMetalWhole_4 : decode cX6_isMetalWhole 4 = .ok (.iload_n 1, 1) := by decide +kernel
theorem dX6_isMetalWhole_5 : decode cX6_isMetalWhole 5 = .ok (.invokevirtual 356, 3) := by decide +kernel
theorem dX6_isMetalWhole_8 : decode cX6_isMetalWhole 8 = .ok (.aload_n 0, 1) := by decide +kernel
theorem dX6_isMetalWhole_9 : decode cX6_isMetalWhole 9 = .ok (.getfield 19, 3) := by decide +kernel
theorem dX6_isMetalWhole_12 : decode cX6_isMetalWhole 12 = .ok (.iload_n 1, 1) := by decide +kernel
theorem dX6_isMetalWhole_13 : decode cX6_isMetalWhole 13 = .ok (.invokevirtual 359, 3) := by decide +kernel
theorem dX6_isMetalWhole_16 : decode cX6_isMetalWhole 16 = .ok (.aload_n 0, 1) := by decide +kernel
theorem dX6_isMetalWhole_17 : decode cX6_isMetalWhole 17 = .ok (.getfield 26, 3) := by decide +kernel
theorem dX6_isMetalWhole_20 : decode cX6_isMetalWhole 20 = .ok (.iload_n 1, 1) := by decide +kernel
theorem dX6_isMetalWhole_21 : decode cX6_isMetalWhole 21 = .ok (.invokevirtual 261, 3) := by decide +kernel
theorem dX6_isMetalWhole_24 : decode cX6_isMetalWhole 24 = .ok (.iadd, 1) := by decide +kernel
theorem dX6_isMetalWhole_25 : decode cX6_isMetalWhole 25 = .ok (.if_icmp .ne 7, 3) := by decide +kernel
theorem dX6_isMetalWhole_28 : decode cX6_isMetalWhole 28 = .ok (.iconst 1, 1) := by decide +kernel
theorem dX6_isMetalWhole_29 : decode cX6_isMetalWhole 29 = .ok (.goto 4, 3) := by decide +kernel
theorem dX6_isMetalWhole_32 : decode cX6_isMetalWhole 32 = .ok (.iconst 0, 1) := by decide +kernel
theorem dX6_isMetalWhole_33 : decode cX6_isMetalWhole 33 = .ok (.ireturn, 1) := by decide +kernel
theorem dX6_areClaimsSound_0 : decode cX6_areClaimsSound 0 = .ok (.lconst 0, 1) := by decide +kernel
theorem dX6_areClaimsSound_1 : decode cX6_areClaimsSound 1 = .ok (.lstore_n 1, 1) := by decide +kernel
theorem dX6_areClaimsSound_2 : decode cX6_areClaimsSound 2 = .ok (.lconst 0, 1) := by decide +kernel
theorem dX6_areClaimsSound_3 : decode cX6_areClaimsSound 3 = .ok (.lstore_n 3, 1) := by decide +kernel
theorem dX6_areClaimsSound_4 : decode cX6_areClaimsSound 4 = .ok (.iconst 0, 1) := by decide +kernel
theorem dX6_areClaimsSound_5 : decode cX6_areClaimsSound 5 = .ok (.istore 5, 2) := by decide +kernel
theorem dX6_areClaimsSound_7 : decode cX6_areClaimsSound 7 = .ok (.iload 5, 2) := by decide +kernel
theorem dX6_areClaimsSound_9 : decode cX6_areClaimsSound 9 = .ok (.bipush 6, 2) := by decide +kernel
theorem dX6_areClaimsSound_11 : decode cX6_areClaimsSound 11 = .ok (.if_icmp .ge 101, 3) := by decide +kernel
theorem dX6_areClaimsSound_14 : decode cX6_areClaimsSound 14 = .ok (.aload_n 0, 1) := by decide +kernel
theorem dX6_areClaimsSound_15 : decode cX6_areClaimsSound 15 = .ok (.getfield 33, 3) := by decide +kernel
theorem dX6_areClaimsSound_18 : decode cX6_areClaimsSound 18 = .ok (.iload 5, 2) := by decide +kernel
theorem dX6_areClaimsSound_20 : decode cX6_areClaimsSound 20 = .ok (.invokevirtual 362, 3) := by decide +kernel
theorem dX6_areClaimsSound_23 : decode cX6_areClaimsSound 23 = .ok (.ifCond .ge 5, 3) := by decide +kernel
theorem dX6_areClaimsSound_26 : decode cX6_areClaimsSound 26 = .ok (.iconst 0, 1) := by decide +kernel
theorem dX6_areClaimsSound_27 : decode cX6_areClaimsSound 27 = .ok (.ireturn, 1) := by decide +kernel
theorem dX6_areClaimsSound_28 : decode cX6_areClaimsSound 28 = .ok (.aload_n 0, 1) := by decide +kernel
theorem dX6_areClaimsSound_29 : decode cX6_areClaimsSound 29 = .ok (.getfield 33, 3) := by decide +kernel
theorem dX6_areClaimsSound_32 : decode cX6_areClaimsSound 32 = .ok (.iload 5, 2) := by decide +kernel
theorem dX6_areClaimsSound_34 : decode cX6_areClaimsSound 34 = .ok (.invokevirtual 244, 3) := by decide +kernel
theorem dX6_areClaimsSound_37 : decode cX6_areClaimsSound 37 = .ok (.lconst 0, 1) := by decide +kernel
theorem dX6_areClaimsSound_38 : decode cX6_areClaimsSound 38 = .ok (.lcmp, 1) := by decide +kernel
theorem dX6_areClaimsSound_39 : decode cX6_areClaimsSound 39 = .ok (.ifCond .ne 21, 3) := by decide +kernel
theorem dX6_areClaimsSound_42 : decode cX6_areClaimsSound 42 = .ok (.aload_n 0, 1) := by decide +kernel
theorem dX6_areClaimsSound_43 : decode cX6_areClaimsSound 43 = .ok (.getfield 33, 3) := by decide +kernel
theorem dX6_areClaimsSound_46 : decode cX6_areClaimsSound 46 = .ok (.iload 5, 2) := by decide +kernel
theorem dX6_areClaimsSound_48 : decode cX6_areClaimsSound 48 = .ok (.invokevirtual 248, 3) := by decide +kernel
theorem dX6_areClaimsSound_51 : decode cX6_areClaimsSound 51 = .ok (.lconst 0, 1) := by decide +kernel
theorem dX6_areClaimsSound_52 : decode cX6_areClaimsSound 52 = .ok (.lcmp, 1) := by decide +kernel
theorem dX6_areClaimsSound_53 : decode cX6_areClaimsSound 53 = .ok (.ifCond .ne 7, 3) := by decide +kernel
theorem dX6_areClaimsSound_56 : decode cX6_areClaimsSound 56 = .ok (.iconst 1, 1) := by decide +kernel
theorem dX6_areClaimsSound_57 : decode cX6_areClaimsSound 57 = .ok (.goto 4, 3) := by decide +kernel
theorem dX6_areClaimsSound_60 : decode cX6_areClaimsSound 60 = .ok (.iconst 0, 1) := by decide +kernel
theorem dX6_areClaimsSound_61 : decode cX6_areClaimsSound 61 = .ok (.istore 6, 2) := by decide +kernel
theorem dX6_areClaimsSound_63 : decode cX6_areClaimsSound 63 = .ok (.iload 6, 2) := by decide +kernel
theorem dX6_areClaimsSound_65 : decode cX6_areClaimsSound 65 = .ok (.ifCond .ne 17, 3) := by decide +kernel
theorem dX6_areClaimsSound_68 : decode cX6_areClaimsSound 68 = .ok (.aload_n 0, 1) := by decide +kernel
theorem dX6_areClaimsSound_69 : decode cX6_areClaimsSound 69 = .ok (.getfield 10, 3) := by decide +kernel
theorem dX6_areClaimsSound_72 : decode cX6_areClaimsSound 72 = .ok (.iload 5, 2) := by decide +kernel
theorem dX6_areClaimsSound_74 : decode cX6_areClaimsSound 74 = .ok (.invokevirtual 75, 3) := by decide +kernel
theorem dX6_areClaimsSound_77 : decode cX6_areClaimsSound 77 = .ok (.ifCond .ne 5, 3) := by decide +kernel
theorem dX6_areClaimsSound_80 : decode cX6_areClaimsSound 80 = .ok (.iconst 0, 1) := by decide +kernel
theorem dX6_areClaimsSound_81 : decode cX6_areClaimsSound 81 = .ok (.ireturn, 1) := by decide +kernel
theorem dX6_areClaimsSound_82 : decode cX6_areClaimsSound 82 = .ok (.lload_n 1, 1) := by decide +kernel
theorem dX6_areClaimsSound_83 : decode cX6_areClaimsSound 83 = .ok (.aload_n 0, 1) := by decide +kernel
theorem dX6_areClaimsSound_84 : decode cX6_areClaimsSound 84 = .ok (.getfield 33, 3) := by decide +kernel
theorem dX6_areClaimsSound_87 : decode cX6_areClaimsSound 87 = .ok (.iload 5, 2) := by decide +kernel
theorem dX6_areClaimsSound_89 : decode cX6_areClaimsSound 89 = .ok (.invokevirtual 244, 3) := by decide +kernel
theorem dX6_areClaimsSound_92 : decode cX6_areClaimsSound 92 = .ok (.ladd, 1) := by decide +kernel
theorem dX6_areClaimsSound_93 : decode cX6_areClaimsSound 93 = .ok (.lstore_n 1, 1) := by decide +kernel
theorem dX6_areClaimsSound_94 : decode cX6_areClaimsSound 94 = .ok (.lload_n 3, 1) := by decide +kernel
theorem dX6_areClaimsSound_95 : decode cX6_areClaimsSound 95 = .ok (.aload_n 0, 1) := by decide +kernel
theorem dX6_areClaimsSound_96 : decode cX6_areClaimsSound 96 = .ok (.getfield 33, 3) := by decide +kernel
theorem dX6_areClaimsSound_99 : decode cX6_areClaimsSound 99 = .ok (.iload 5, 2) := by decide +kernel
theorem dX6_areClaimsSound_101 : decode cX6_areClaimsSound 101 = .ok (.invokevirtual 248, 3) := by decide +kernel
theorem dX6_areClaimsSound_104 : decode cX6_areClaimsSound 104 = .ok (.ladd, 1) := by decide +kernel
theorem dX6_areClaimsSound_105 : decode cX6_areClaimsSound 105 = .ok (.lstore_n 3, 1) := by decide +kernel
theorem dX6_areClaimsSound_106 : decode cX6_areClaimsSound 106 = .ok (.iinc 5 1, 3) := by decide +kernel
theorem dX6_areClaimsSound_109 : decode cX6_areClaimsSound 109 = .ok (.goto (-102), 3) := by decide +kernel
theorem dX6_areClaimsSound_112 : decode cX6_areClaimsSound 112 = .ok (.lload_n 1, 1) := by decide +kernel
theorem dX6_areClaimsSound_113 : decode cX6_areClaimsSound 113 = .ok (.lload_n 3, 1) := by decide +kernel
theorem dX6_areClaimsSound_114 : decode cX6_areClaimsSound 114 = .ok (.lcmp, 1) := by decide +kernel
theorem dX6_areClaimsSound_115 : decode cX6_areClaimsSound 115 = .ok (.ifCond .ne 7, 3) := by decide +kernel
theorem dX6_areClaimsSound_118 : decode cX6_areClaimsSound 118 = .ok (.iconst 1, 1) := by decide +kernel
theorem dX6_areClaimsSound_119 : decode cX6_areClaimsSound 119 = .ok (.goto 4, 3) := by decide +kernel
theorem dX6_areClaimsSound_122 : decode cX6_areClaimsSound 122 = .ok (.iconst 0, 1) := by decide +kernel
theorem dX6_areClaimsSound_123 : decode cX6_areClaimsSound 123 = .ok (.ireturn, 1) := by decide +kernel
theorem dX7_init_0 : decode cX7_init 0 = .ok (.aload_n 0, 1) := by decide +kernel
theorem dX7_init_1 : decode cX7_init 1 = .ok (.invokespecial 1, 3) := by decide +kernel
theorem dX7_init_4 : decode cX7_init 4 = .ok (.aload_n 0, 1) := by decide +kernel
theorem dX7_init_5 : decode cX7_init 5 = .ok (.new 7, 3) := by decide +kernel
theorem dX7_init_8 : decode cX7_init 8 = .ok (.dup, 1) := by decide +kernel
theorem dX7_init_9 : decode cX7_init 9 = .ok (.invokespecial 9, 3) := by decide +kernel
theorem dX7_init_12 : decode cX7_init 12 = .ok (.putfield 10, 3) := by decide +kernel
theorem dX7_init_15 : decode cX7_init 15 = .ok (.aload_n 0, 1) := by decide +kernel
theorem dX7_init_16 : decode cX7_init 16 = .ok (.iload_n 1, 1) := by decide +kernel
theorem dX7_init_17 : decode cX7_init 17 = .ok (.putfield 16, 3) := by decide +kernel
theorem dX7_init_20 : decode cX7_init 20 = .ok (.aload_n 0, 1) := by decide +kernel
theorem dX7_init_21 : decode cX7_init 21 = .ok (.iload_n 2, 1) := by decide +kernel
theorem dX7_init_22 : decode cX7_init 22 = .ok (.putfield 20, 3) := by decide +kernel
theorem dX7_init_25 : decode cX7_init 25 = .ok (.aload_n 0, 1) := by decide +kernel
theorem dX7_init_26 : decode cX7_init 26 = .ok (.iload_n 3, 1) := by decide +kernel
theorem dX7_init_27 : decode cX7_init 27 = .ok (.putfield 23, 3) := by decide +kernel
theorem dX7_init_30 : decode cX7_init 30 = .ok (.aload_n 0, 1) := by decide +kernel
theorem dX7_init_31 : decode cX7_init 31 = .ok (.iload 4, 2) := by decide +kernel
theorem dX7_init_33 : decode cX7_init 33 = .ok (.putfield 26, 3) := by decide +kernel
theorem dX7_init_36 : decode cX7_init 36 = .ok (.aload_n 0, 1) := by decide +kernel
theorem dX7_init_37 : decode cX7_init 37 = .ok (.iload_n 1, 1) := by decide +kernel
theorem dX7_init_38 : decode cX7_init 38 = .ok (.putfield 29, 3) := by decide +kernel
theorem dX7_init_41 : decode cX7_init 41 = .ok (.return_, 1) := by decide +kernel
theorem dX8_init_0 : decode cX8_init 0 = .ok (.aload_n 0, 1) := by decide +kernel
theorem dX8_init_1 : decode cX8_init 1 = .ok (.invokespecial 1, 3) := by decide +kernel
theorem dX8_init_4 : decode cX8_init 4 = .ok (.aload_n 0, 1) := by decide +kernel
theorem dX8_init_5 : decode cX8_init 5 = .ok (.iconst 1, 1) := by decide +kernel
theorem dX8_init_6 : decode cX8_init 6 = .ok (.putfield 7, 3) := by decide +kernel
theorem dX8_init_9 : decode cX8_init 9 = .ok (.aload_n 0, 1) := by decide +kernel
theorem dX8_init_10 : decode cX8_init 10 = .ok (.iload_n 1, 1) := by decide +kernel
theorem dX8_init_11 : decode cX8_init 11 = .ok (.putfield 13, 3) := by decide +kernel
theorem dX8_init_14 : decode cX8_init 14 = .ok (.aload_n 0, 1) := by decide +kernel
theorem dX8_init_15 : decode cX8_init 15 = .ok (.iload_n 2, 1) := by decide +kernel
theorem dX8_init_16 : decode cX8_init 16 = .ok (.putfield 16, 3) := by decide +kernel
theorem dX8_init_19 : decode cX8_init 19 = .ok (.aload_n 0, 1) := by decide +kernel
theorem dX8_init_20 : decode cX8_init 20 = .ok (.iload_n 3, 1) := by decide +kernel
theorem dX8_init_21 : decode cX8_init 21 = .ok (.putfield 19, 3) := by decide +kernel
theorem dX8_init_24 : decode cX8_init 24 = .ok (.aload_n 0, 1) := by decide +kernel
theorem dX8_init_25 : decode cX8_init 25 = .ok (.iload 4, 2) := by decide +kernel
theorem dX8_init_27 : decode cX8_init 27 = .ok (.putfield 22, 3) := by decide +kernel
theorem dX8_init_30 : decode cX8_init 30 = .ok (.return_, 1) := by decide +kernel
theorem dX8_goes_0 : decode cX8_goes 0 = .ok (.aload_n 0, 1) := by decide +kernel
theorem dX8_goes_1 : decode cX8_goes 1 = .ok (.iload_n 1, 1) := by decide +kernel
theorem dX8_goes_2 : decode cX8_goes 2 = .ok (.putfield 22, 3) := by decide +kernel
theorem dX8_goes_5 : decode cX8_goes 5 = .ok (.aload_n 0, 1) := by decide +kernel
theorem dX8_goes_6 : decode cX8_goes 6 = .ok (.dup, 1) := by decide +kernel
theorem dX8_goes_7 : decode cX8_goes 7 = .ok (.getfield 7, 3) := by decide +kernel
theorem dX8_goes_10 : decode cX8_goes 10 = .ok (.iconst 1, 1) := by decide +kernel
theorem dX8_goes_11 : decode cX8_goes 11 = .ok (.iadd, 1) := by decide +kernel
theorem dX8_goes_12 : decode cX8_goes 12 = .ok (.putfield 7, 3) := by decide +kernel
theorem dX8_goes_15 : decode cX8_goes 15 = .ok (.aload_n 0, 1) := by decide +kernel
theorem dX8_goes_16 : decode cX8_goes 16 = .ok (.iconst 0, 1) := by decide +kernel
theorem dX8_goes_17 : decode cX8_goes 17 = .ok (.putfield 25, 3) := by decide +kernel
theorem dX8_goes_20 : decode cX8_goes 20 = .ok (.return_, 1) := by decide +kernel
theorem dX9_thrown_0 : decode cX9_thrown 0 = .ok (.aload_n 0, 1) := by decide +kernel
theorem dX9_thrown_1 : decode cX9_thrown 1 = .ok (.getfield 1, 3) := by decide +kernel
theorem dX9_thrown_4 : decode cX9_thrown 4 = .ok (.ireturn, 1) := by decide +kernel
theorem dX9_isWrong_0 : decode cX9_isWrong 0 = .ok (.aload_n 0, 1) := by decide +kernel
theorem dX9_isWrong_1 : decode cX9_isWrong 1 = .ok (.iload_n 1, 1) := by decide +kernel
theorem dX9_isWrong_2 : decode cX9_isWrong 2 = .ok (.putfield 1, 3) := by decide +kernel
theorem dX9_isWrong_5 : decode cX9_isWrong 5 = .ok (.iload_n 1, 1) := by decide +kernel
theorem dX9_isWrong_6 : decode cX9_isWrong 6 = .ok (.ifCond .le 7, 3) := by decide +kernel
theorem dX9_isWrong_9 : decode cX9_isWrong 9 = .ok (.iconst 1, 1) := by decide +kernel
theorem dX9_isWrong_10 : decode cX9_isWrong 10 = .ok (.goto 4, 3) := by decide +kernel
theorem dX9_isWrong_13 : decode cX9_isWrong 13 = .ok (.iconst 0, 1) := by decide +kernel
theorem dX9_isWrong_14 : decode cX9_isWrong 14 = .ok (.ireturn, 1) := by decide +kernel
theorem dX9_isBetween_0 : decode cX9_isBetween 0 = .ok (.iload_n 1, 1) := by decide +kernel
theorem dX9_isBetween_1 : decode cX9_isBetween 1 = .ok (.iload_n 0, 1) := by decide +kernel
theorem dX9_isBetween_2 : decode cX9_isBetween 2 = .ok (.if_icmp .gt 12, 3) := by decide +kernel
theorem dX9_isBetween_5 : decode cX9_isBetween 5 = .ok (.iload_n 0, 1) := by decide +kernel
theorem dX9_isBetween_6 : decode cX9_isBetween 6 = .ok (.iload_n 2, 1) := by decide +kernel
theorem dX9_isBetween_7 : decode cX9_isBetween 7 = .ok (.if_icmp .gt 7, 3) := by decide +kernel
theorem dX9_isBetween_10 : decode cX9_isBetween 10 = .ok (.iconst 1, 1) := by decide +kernel
theorem dX9_isBetween_11 : decode cX9_isBetween 11 = .ok (.goto 4, 3) := by decide +kernel
theorem dX9_isBetween_14 : decode cX9_isBetween 14 = .ok (.iconst 0, 1) := by decide +kernel
theorem dX9_isBetween_15 : decode cX9_isBetween 15 = .ok (.ireturn, 1) := by decide +kernel
theorem dX9_init_0 : decode cX9_init 0 = .ok (.aload_n 0, 1) := by decide +kernel
theorem dX9_init_1 : decode cX9_init 1 = .ok (.invokespecial 7, 3) := by decide +kernel
theorem dX9_init_4 : decode cX9_init 4 = .ok (.aload_n 0, 1) := by decide +kernel
theorem dX9_init_5 : decode cX9_init 5 = .ok (.new 13, 3) := by decide +kernel
theorem dX9_init_8 : decode cX9_init 8 = .ok (.dup, 1) := by decide +kernel
theorem dX9_init_9 : decode cX9_init 9 = .ok (.invokespecial 15, 3) := by decide +kernel
theorem dX9_init_12 : decode cX9_init 12 = .ok (.putfield 16, 3) := by decide +kernel
theorem dX9_init_15 : decode cX9_init 15 = .ok (.aload_n 0, 1) := by decide +kernel
theorem dX9_init_16 : decode cX9_init 16 = .ok (.iconst 2, 1) := by decide +kernel
theorem dX9_init_17 : decode cX9_init 17 = .ok (.newarray .int, 2) := by decide +kernel
theorem dX9_init_19 : decode cX9_init 19 = .ok (.dup, 1) := by decide +kernel
theorem dX9_init_20 : decode cX9_init 20 = .ok (.iconst 0, 1) := by decide +kernel
theorem dX9_init_21 : decode cX9_init 21 = .ok (.bipush 10, 2) := by decide +kernel
theorem dX9_init_23 : decode cX9_init 23 = .ok (.iastore, 1) := by decide +kernel
theorem dX9_init_24 : decode cX9_init 24 = .ok (.dup, 1) := by decide +kernel
theorem dX9_init_25 : decode cX9_init 25 = .ok (.iconst 1, 1) := by decide +kernel
theorem dX9_init_26 : decode cX9_init 26 = .ok (.iconst 1, 1) := by decide +kernel
theorem dX9_init_27 : decode cX9_init 27 = .ok (.iastore, 1) := by decide +kernel
theorem dX9_init_28 : decode cX9_init 28 = .ok (.putfield 20, 3) := by decide +kernel
theorem dX9_init_31 : decode cX9_init 31 = .ok (.aload_n 0, 1) := by decide +kernel
theorem dX9_init_32 : decode cX9_init 32 = .ok (.iconst 2, 1) := by decide +kernel
theorem dX9_init_33 : decode cX9_init 33 = .ok (.newarray .int, 2) := by decide +kernel
theorem dX9_init_35 : decode cX9_init 35 = .ok (.dup, 1) := by decide +kernel
theorem dX9_init_36 : decode cX9_init 36 = .ok (.iconst 0, 1) := by decide +kernel
theorem dX9_init_37 : decode cX9_init 37 = .ok (.iconst 5, 1) := by decide +kernel
theorem dX9_init_38 : decode cX9_init 38 = .ok (.iastore, 1) := by decide +kernel
theorem dX9_init_39 : decode cX9_init 39 = .ok (.dup, 1) := by decide +kernel
theorem dX9_init_40 : decode cX9_init 40 = .ok (.iconst 1, 1) := by decide +kernel
theorem dX9_init_41 : decode cX9_init 41 = .ok (.iconst 5, 1) := by decide +kernel
theorem dX9_init_42 : decode cX9_init 42 = .ok (.iastore, 1) := by decide +kernel
theorem dX9_init_43 : decode cX9_init 43 = .ok (.putfield 24, 3) := by decide +kernel
theorem dX9_init_46 : decode cX9_init 46 = .ok (.aload_n 0, 1) := by decide +kernel
theorem dX9_init_47 : decode cX9_init 47 = .ok (.bipush 6, 2) := by decide +kernel
theorem dX9_init_49 : decode cX9_init 49 = .ok (.iconst 2, 1) := by decide +kernel
theorem dX9_init_50 : decode cX9_init 50 = .ok (.multianewarray 27 2, 4) := by decide +kernel
theorem dX9_init_54 : decode cX9_init 54 = .ok (.putfield 29, 3) := by decide +kernel
theorem dX9_init_57 : decode cX9_init 57 = .ok (.aload_n 0, 1) := by decide +kernel
theorem dX9_init_58 : decode cX9_init 58 = .ok (.new 13, 3) := by decide +kernel
theorem dX9_init_61 : decode cX9_init 61 = .ok (.dup, 1) := by decide +kernel
theorem dX9_init_62 : decode cX9_init 62 = .ok (.invokespecial 15, 3) := by decide +kernel
theorem dX9_init_65 : decode cX9_init 65 = .ok (.putfield 32, 3) := by decide +kernel
theorem dX9_init_68 : decode cX9_init 68 = .ok (.aload_n 0, 1) := by decide +kernel
theorem dX9_init_69 : decode cX9_init 69 = .ok (.bipush 6, 2) := by decide +kernel
theorem dX9_init_71 : decode cX9_init 71 = .ok (.bipush 6, 2) := by decide +kernel
theorem dX9_init_73 : decode cX9_init 73 = .ok (.multianewarray 27 2, 4) := by decide +kernel
theorem dX9_init_77 : decode cX9_init 77 = .ok (.putfield 35, 3) := by decide +kernel
theorem dX9_init_80 : decode cX9_init 80 = .ok (.aload_n 0, 1) := by decide +kernel
theorem dX9_init_81 : decode cX9_init 81 = .ok (.new 13, 3) := by decide +kernel
theorem dX9_init_84 : decode cX9_init 84 = .ok (.dup, 1) := by decide +kernel
theorem dX9_init_85 : decode cX9_init 85 = .ok (.invokespecial 15, 3) := by decide +kernel
theorem dX9_init_88 : decode cX9_init 88 = .ok (.putfield 38, 3) := by decide +kernel
theorem dX9_init_91 : decode cX9_init 91 = .ok (.aload_n 0, 1) := by decide +kernel
theorem dX9_init_92 : decode cX9_init 92 = .ok (.iconst 4, 1) := by decide +kernel
theorem dX9_init_93 : decode cX9_init 93 = .ok (.bipush 6, 2) := by decide +kernel
theorem dX9_init_95 : decode cX9_init 95 = .ok (.multianewarray 27 2, 4) := by decide +kernel
theorem dX9_init_99 : decode cX9_init 99 = .ok (.putfield 41, 3) := by decide +kernel
theorem dX9_init_102 : decode cX9_init 102 = .ok (.aload_n 0, 1) := by decide +kernel
theorem dX9_init_103 : decode cX9_init 103 = .ok (.getfield 16, 3) := by decide +kernel
theorem dX9_init_106 : decode cX9_init 106 = .ok (.bipush 99, 2) := by decide +kernel
theorem dX9_init_108 : decode cX9_init 108 = .ok (.invokestatic 44, 3) := by decide +kernel
theorem dX9_init_111 : decode cX9_init 111 = .ok (.invokeinterface 50 2, 5) := by decide +kernel
theorem dX9_init_116 : decode cX9_init 116 = .ok (.pop, 1) := by decide +kernel
theorem dX9_init_117 : decode cX9_init 117 = .ok (.return_, 1) := by decide +kernel
theorem dX9_isHouse_0 : decode cX9_isHouse 0 = .ok (.iload_n 1, 1) := by decide +kernel
theorem dX9_isHouse_1 : decode cX9_isHouse 1 = .ok (.iconst 0, 1) := by decide +kernel
theorem dX9_isHouse_2 : decode cX9_isHouse 2 = .ok (.aload_n 0, 1) := by decide +kernel
theorem dX9_isHouse_3 : decode cX9_isHouse 3 = .ok (.getfield 16, 3) := by decide +kernel
theorem dX9_isHouse_6 : decode cX9_isHouse 6 = .ok (.invokeinterface 56 1, 5) := by decide +kernel
theorem dX9_isHouse_11 : decode cX9_isHouse 11 = .ok (.iconst 1, 1) := by decide +kernel
theorem dX9_isHouse_12 : decode cX9_isHouse 12 = .ok (.isub, 1) := by decide +kernel
theorem dX9_isHouse_13 : decode cX9_isHouse 13 = .ok (.invokestatic 60, 3) := by decide +kernel
theorem dX9_isHouse_16 : decode cX9_isHouse 16 = .ok (.ireturn, 1) := by decide +kernel
theorem dX9_hasFailed_0 : decode cX9_hasFailed 0 = .ok (.aload_n 0, 1) := by decide +kernel
theorem dX9_hasFailed_1 : decode cX9_hasFailed 1 = .ok (.getfield 16, 3) := by decide +kernel
theorem dX9_hasFailed_4 : decode cX9_hasFailed 4 = .ok (.iload_n 1, 1) := by decide +kernel
theorem dX9_hasFailed_5 : decode cX9_hasFailed 5 = .ok (.invokeinterface 64 2, 5) := by decide +kernel
theorem dX9_hasFailed_10 : decode cX9_hasFailed 10 = .ok (.checkcast 45, 3) := by decide +kernel
theorem dX9_hasFailed_13 : decode cX9_hasFailed 13 = .ok (.invokevirtual 68, 3) := by decide +kernel
theorem dX9_hasFailed_16 : decode cX9_hasFailed 16 = .ok (.bipush 120, 2) := by decide +kernel
theorem dX9_hasFailed_18 : decode cX9_hasFailed 18 = .ok (.if_icmp .ne 7, 3) := by decide +kernel
theorem dX9_hasFailed_21 : decode cX9_hasFailed 21 = .ok (.iconst 1, 1) := by decide +kernel
theorem dX9_hasFailed_22 : decode cX9_hasFailed 22 = .ok (.goto 4, 3) := by decide +kernel
theorem dX9_hasFailed_25 : decode cX9_hasFailed 25 = .ok (.iconst 0, 1) := by decide +kernel
theorem dX9_hasFailed_26 : decode cX9_hasFailed 26 = .ok (.ireturn, 1) := by decide +kernel
theorem dX9_isMetal_0 : decode cX9_isMetal 0 = .ok (.ldc 72, 2) := by decide +kernel
theorem dX9_isMetal_2 : decode cX9_isMetal 2 = .ok (.iload_n 0, 1) := by decide +kernel
theorem dX9_isMetal_3 : decode cX9_isMetal 3 = .ok (.invokevirtual 74, 3) := by decide +kernel
theorem dX9_isMetal_6 : decode cX9_isMetal 6 = .ok (.ifCond .lt 7, 3) := by decide +kernel
theorem dX9_isMetal_9 : decode cX9_isMetal 9 = .ok (.iconst 1, 1) := by decide +kernel
theorem dX9_isMetal_10 : decode cX9_isMetal 10 = .ok (.goto 4, 3) := by decide +kernel
theorem dX9_isMetal_13 : decode cX9_isMetal 13 = .ok (.iconst 0, 1) := by decide +kernel
theorem dX9_isMetal_14 : decode cX9_isMetal 14 = .ok (.ireturn, 1) := by decide +kernel
theorem dX9_addHouse_0 : decode cX9_addHouse 0 = .ok (.aload_n 0, 1) := by decide +kernel
theorem dX9_addHouse_1 : decode cX9_addHouse 1 = .ok (.iload_n 1, 1) := by decide +kernel
theorem dX9_addHouse_2 : decode cX9_addHouse 2 = .ok (.bipush 98, 2) := by decide +kernel
theorem dX9_addHouse_4 : decode cX9_addHouse 4 = .ok (.if_icmp .eq 13, 3) := by decide +kernel
theorem dX9_addHouse_7 : decode cX9_addHouse 7 = .ok (.iload_n 1, 1) := by decide +kernel
theorem dX9_addHouse_8 : decode cX9_addHouse 8 = .ok (.bipush 116, 2) := by decide +kernel
theorem dX9_addHouse_10 : decode cX9_addHouse 10 = .ok (.if_icmp .eq 7, 3) := by decide +kernel
theorem dX9_addHouse_13 : decode cX9_addHouse 13 = .ok (.iconst 1, 1) := by decide +kernel
theorem dX9_addHouse_14 : decode cX9_addHouse 14 = .ok (.goto 22, 3) := by decide +kernel
theorem dX9_addHouse_17 : decode cX9_addHouse 17 = .ok (.aload_n 0, 1) := by decide +kernel
theorem dX9_addHouse_18 : decode cX9_addHouse 18 = .ok (.getfield 16, 3) := by decide +kernel
theorem dX9_addHouse_21 : decode cX9_addHouse 21 = .ok (.invokeinterface 56 1, 5) := by decide +kernel
theorem dX9_addHouse_26 : decode cX9_addHouse 26 = .ok (.bipush 6, 2) := by decide +kernel
theorem dX9_addHouse_28 : decode cX9_addHouse 28 = .ok (.if_icmp .ne 7, 3) := by decide +kernel
theorem dX9_addHouse_31 : decode cX9_addHouse 31 = .ok (.iconst 2, 1) := by decide +kernel
theorem dX9_addHouse_32 : decode cX9_addHouse 32 = .ok (.goto 4, 3) := by decide +kernel
theorem dX9_addHouse_35 : decode cX9_addHouse 35 = .ok (.iconst 0, 1) := by decide +kernel
theorem dX9_addHouse_36 : decode cX9_addHouse 36 = .ok (.invokevirtual 80, 3) := by decide +kernel
theorem dX9_addHouse_39 : decode cX9_addHouse 39 = .ok (.ifCond .eq 5, 3) := by decide +kernel
theorem dX9_addHouse_42 : decode cX9_addHouse 42 = .ok (.iconst 0, 1) := by decide +kernel
theorem dX9_addHouse_43 : decode cX9_addHouse 43 = .ok (.ireturn, 1) := by decide +kernel
theorem dX9_addHouse_44 : decode cX9_addHouse 44 = .ok (.aload_n 0, 1) := by decide +kernel
theorem dX9_addHouse_45 : decode cX9_addHouse 45 = .ok (.getfield 16, 3) := by decide +kernel
theorem dX9_addHouse_48 : decode cX9_addHouse 48 = .ok (.iload_n 1, 1) := by decide +kernel
theorem dX9_addHouse_49 : decode cX9_addHouse 49 = .ok (.invokestatic 44, 3) := by decide +kernel
theorem dX9_addHouse_52 : decode cX9_addHouse 52 = .ok (.invokeinterface 50 2, 5) := by decide +kernel
theorem dX9_addHouse_57 : decode cX9_addHouse 57 = .ok (.pop, 1) := by decide +kernel
theorem dX9_addHouse_58 : decode cX9_addHouse 58 = .ok (.aload_n 0, 1) := by decide +kernel
theorem dX9_addHouse_59 : decode cX9_addHouse 59 = .ok (.getfield 16, 3) := by decide +kernel
theorem dX9_addHouse_62 : decode cX9_addHouse 62 = .ok (.invokeinterface 56 1, 5) := by decide +kernel
theorem dX9_addHouse_67 : decode cX9_addHouse 67 = .ok (.iconst 1, 1) := by decide +kernel
theorem dX9_addHouse_68 : decode cX9_addHouse 68 = .ok (.isub, 1) := by decide +kernel
theorem dX9_addHouse_69 : decode cX9_addHouse 69 = .ok (.ireturn, 1) := by decide +kernel
theorem dX9_kindOf_0 : decode cX9_kindOf 0 = .ok (.aload_n 0, 1) := by decide +kernel
theorem dX9_kindOf_1 : decode cX9_kindOf 1 = .ok (.aload_n 0, 1) := by decide +kernel
theorem dX9_kindOf_2 : decode cX9_kindOf 2 = .ok (.iload_n 1, 1) := by decide +kernel
theorem dX9_kindOf_3 : decode cX9_kindOf 3 = .ok (.invokevirtual 84, 3) := by decide +kernel
theorem dX9_kindOf_6 : decode cX9_kindOf 6 = .ok (.ifCond .eq 7, 3) := by decide +kernel
theorem dX9_kindOf_9 : decode cX9_kindOf 9 = .ok (.iconst 0, 1) := by decide +kernel
theorem dX9_kindOf_10 : decode cX9_kindOf 10 = .ok (.goto 4, 3) := by decide +kernel
theorem dX9_kindOf_13 : decode cX9_kindOf 13 = .ok (.iconst 1, 1) := by decide +kernel
theorem dX9_kindOf_14 : decode cX9_kindOf 14 = .ok (.invokevirtual 80, 3) := by decide +kernel
theorem dX9_kindOf_17 : decode cX9_kindOf 17 = .ok (.ifCond .eq 7, 3) := by decide +kernel
theorem dX9_kindOf_20 : decode cX9_kindOf 20 = .ok (.iconst 0, 1) := by decide +kernel
theorem dX9_kindOf_21 : decode cX9_kindOf 21 = .ok (.goto 19, 3) := by decide +kernel
theorem dX9_kindOf_24 : decode cX9_kindOf 24 = .ok (.aload_n 0, 1) := by decide +kernel
theorem dX9_kindOf_25 : decode cX9_kindOf 25 = .ok (.getfield 16, 3) := by decide +kernel
theorem dX9_kindOf_28 : decode cX9_kindOf 28 = .ok (.iload_n 1, 1) := by decide +kernel
theorem dX9_kindOf_29 : decode cX9_kindOf 29 = .ok (.invokeinterface 64 2, 5) := by decide +kernel
theorem dX9_kindOf_34 : decode cX9_kindOf 34 = .ok (.checkcast 45, 3) := by decide +kernel
theorem dX9_kindOf_37 : decode cX9_kindOf 37 = .ok (.invokevirtual 68, 3) := by decide +kernel
theorem dX9_kindOf_40 : decode cX9_kindOf 40 = .ok (.ireturn, 1) := by decide +kernel
theorem dX9_dig_0 : decode cX9_dig 0 = .ok (.aload_n 0, 1) := by decide +kernel
theorem dX9_dig_1 : decode cX9_dig 1 = .ok (.aload_n 0, 1) := by decide +kernel
theorem dX9_dig_2 : decode cX9_dig 2 = .ok (.iload_n 1, 1) := by decide +kernel
theorem dX9_dig_3 : decode cX9_dig 3 = .ok (.invokevirtual 84, 3) := by decide +kernel
theorem dX9_dig_6 : decode cX9_dig 6 = .ok (.ifCond .ne 7, 3) := by decide +kernel
theorem dX9_dig_9 : decode cX9_dig 9 = .ok (.iconst 1, 1) := by decide +kernel
theorem dX9_dig_10 : decode cX9_dig 10 = .ok (.goto 37, 3) := by decide +kernel
theorem dX9_dig_13 : decode cX9_dig 13 = .ok (.iload_n 2, 1) := by decide +kernel
theorem dX9_dig_14 : decode cX9_dig 14 = .ok (.invokestatic 87, 3) := by decide +kernel
theorem dX9_dig_17 : decode cX9_dig 17 = .ok (.ifCond .eq 13, 3) := by decide +kernel
theorem dX9_dig_20 : decode cX9_dig 20 = .ok (.iload_n 3, 1) := by decide +kernel
theorem dX9_dig_21 : decode cX9_dig 21 = .ok (.iconst 1, 1) := by decide +kernel
theorem dX9_dig_22 : decode cX9_dig 22 = .ok (.bipush 99, 2) := by decide +kernel
theorem dX9_dig_24 : decode cX9_dig 24 = .ok (.invokestatic 60, 3) := by decide +kernel
theorem dX9_dig_27 : decode cX9_dig 27 = .ok (.ifCond .ne 7, 3) := by decide +kernel
theorem dX9_dig_30 : decode cX9_dig 30 = .ok (.iconst 2, 1) := by decide +kernel
theorem dX9_dig_31 : decode cX9_dig 31 = .ok (.goto 16, 3) := by decide +kernel
theorem dX9_dig_34 : decode cX9_dig 34 = .ok (.aload_n 0, 1) := by decide +kernel
theorem dX9_dig_35 : decode cX9_dig 35 = .ok (.iload_n 1, 1) := by decide +kernel
theorem dX9_dig_36 : decode cX9_dig 36 = .ok (.invokevirtual 91, 3) := by decide +kernel
theorem dX9_dig_39 : decode cX9_dig 39 = .ok (.ifCond .eq 7, 3) := by decide +kernel
theorem dX9_dig_42 : decode cX9_dig 42 = .ok (.iconst 3, 1) := by decide +kernel
theorem dX9_dig_43 : decode cX9_dig 43 = .ok (.goto 4, 3) := by decide +kernel
theorem dX9_dig_46 : decode cX9_dig 46 = .ok (.iconst 0, 1) := by decide +kernel
theorem dX9_dig_47 : decode cX9_dig 47 = .ok (.invokevirtual 80, 3) := by decide +kernel
theorem dX9_dig_50 : decode cX9_dig 50 = .ok (.ifCond .eq 5, 3) := by decide +kernel
theorem dX9_dig_53 : decode cX9_dig 53 = .ok (.iconst 0, 1) := by decide +kernel
theorem dX9_dig_54 : decode cX9_dig 54 = .ok (.ireturn, 1) := by decide +kernel
theorem dX9_dig_55 : decode cX9_dig 55 = .ok (.aload_n 0, 1) := by decide +kernel
theorem dX9_dig_56 : decode cX9_dig 56 = .ok (.getfield 29, 3) := by decide +kernel
theorem dX9_dig_59 : decode cX9_dig 59 = .ok (.iload_n 1, 1) := by decide +kernel
theorem dX9_dig_60 : decode cX9_dig 60 = .ok (.aaload, 1) := by decide +kernel
theorem dX9_dig_61 : decode cX9_dig 61 = .ok (.ldc 72, 2) := by decide +kernel
theorem dX9_dig_63 : decode cX9_dig 63 = .ok (.iload_n 2, 1) := by decide +kernel
theorem dX9_dig_64 : decode cX9_dig 64 = .ok (.invokevirtual 74, 3) := by decide +kernel
theorem dX9_dig_67 : decode cX9_dig 67 = .ok (.dup2, 1) := by decide +kernel
theorem dX9_dig_68 : decode cX9_dig 68 = .ok (.iaload, 1) := by decide +kernel
theorem dX9_dig_69 : decode cX9_dig 69 = .ok (.iload_n 3, 1) := by decide +kernel
theorem dX9_dig_70 : decode cX9_dig 70 = .ok (.iadd, 1) := by decide +kernel
theorem dX9_dig_71 : decode cX9_dig 71 = .ok (.iastore, 1) := by decide +kernel
theorem dX9_dig_72 : decode cX9_dig 72 = .ok (.aload_n 0, 1) := by decide +kernel
theorem dX9_dig_73 : decode cX9_dig 73 = .ok (.getfield 29, 3) := by decide +kernel
theorem dX9_dig_76 : decode cX9_dig 76 = .ok (.iload_n 1, 1) := by decide +kernel
theorem dX9_dig_77 : decode cX9_dig 77 = .ok (.aaload, 1) := by decide +kernel
theorem dX9_dig_78 : decode cX9_dig 78 = .ok (.ldc 72, 2) := by decide +kernel
theorem dX9_dig_80 : decode cX9_dig 80 = .ok (.iload_n 2, 1) := by decide +kernel
theorem dX9_dig_81 : decode cX9_dig 81 = .ok (.invokevirtual 74, 3) := by decide +kernel
theorem dX9_dig_84 : decode cX9_dig 84 = .ok (.iaload, 1) := by decide +kernel
theorem dX9_dig_85 : decode cX9_dig 85 = .ok (.ireturn, 1) := by decide +kernel
theorem dX9_decree_0 : decode cX9_decree 0 = .ok (.aload_n 0, 1) := by decide +kernel
theorem dX9_decree_1 : decode cX9_decree 1 = .ok (.iload_n 1, 1) := by decide +kernel
theorem dX9_decree_2 : decode cX9_decree 2 = .ok (.invokestatic 87, 3) := by decide +kernel
theorem dX9_decree_5 : decode cX9_decree 5 = .ok (.ifCond .eq 27, 3) := by decide +kernel
theorem dX9_decree_8 : decode cX9_decree 8 = .ok (.iload_n 2, 1) := by decide +kernel
theorem dX9_decree_9 : decode cX9_decree 9 = .ok (.iconst 1, 1) := by decide +kernel
theorem dX9_decree_10 : decode cX9_decree 10 = .ok (.bipush 99, 2) := by decide +kernel
theorem dX9_decree_12 : decode cX9_decree 12 = .ok (.invokestatic 60, 3) := by decide +kernel
theorem dX9_decree_15 : decode cX9_decree 15 = .ok (.ifCond .eq 17, 3) := by decide +kernel
theorem dX9_decree_18 : decode cX9_decree 18 = .ok (.iload_n 3, 1) := by decide +kernel
theorem dX9_decree_19 : decode cX9_decree 19 = .ok (.iconst 1, 1) := by decide +kernel
theorem dX9_decree_20 : decode cX9_decree 20 = .ok (.bipush 9, 2) := by decide +kernel
theorem dX9_decree_22 : decode cX9_decree 22 = .ok (.invokestatic 60, 3) := by decide +kernel
theorem dX9_decree_25 : decode cX9_decree 25 = .ok (.ifCond .eq 7, 3) := by decide +kernel
theorem dX9_decree_28 : decode cX9_decree 28 = .ok (.iconst 0, 1) := by decide +kernel
theorem dX9_decree_29 : decode cX9_decree 29 = .ok (.goto 4, 3) := by decide +kernel
theorem dX9_decree_32 : decode cX9_decree 32 = .ok (.iconst 1, 1) := by decide +kernel
theorem dX9_decree_33 : decode cX9_decree 33 = .ok (.invokevirtual 80, 3) := by decide +kernel
theorem dX9_decree_36 : decode cX9_decree 36 = .ok (.ifCond .eq 5, 3) := by decide +kernel
theorem dX9_decree_39 : decode cX9_decree 39 = .ok (.iconst 0, 1) := by decide +kernel
theorem dX9_decree_40 : decode cX9_decree 40 = .ok (.ireturn, 1) := by decide +kernel
theorem dX9_decree_41 : decode cX9_decree 41 = .ok (.ldc 72, 2) := by decide +kernel
theorem dX9_decree_43 : decode cX9_decree 43 = .ok (.iload_n 1, 1) := by decide +kernel
theorem dX9_decree_44 : decode cX9_decree 44 = .ok (.invokevirtual 74, 3) := by decide +kernel
theorem dX9_decree_47 : decode cX9_decree 47 = .ok (.istore 4, 2) := by decide +kernel
theorem dX9_decree_49 : decode cX9_decree 49 = .ok (.bipush 100, 2) := by decide +kernel
theorem dX9_decree_51 : decode cX9_decree 51 = .ok (.aload_n 0, 1) := by decide +kernel
theorem dX9_decree_52 : decode cX9_decree 52 = .ok (.getfield 20, 3) := by decide +kernel
theorem dX9_decree_55 : decode cX9_decree 55 = .ok (.iload 4, 2) := by decide +kernel
theorem dX9_decree_57 : decode cX9_decree 57 = .ok (.iaload, 1) := by decide +kernel
theorem dX9_decree_58 : decode cX9_decree 58 = .ok (.imul, 1) := by decide +kernel
theorem dX9_decree_59 : decode cX9_decree 59 = .ok (.aload_n 0, 1) := by decide +kernel
theorem dX9_decree_60 : decode cX9_decree 60 = .ok (.getfield 24, 3) := by decide +kernel
theorem dX9_decree_63 : decode cX9_decree 63 = .ok (.iload 4, 2) := by decide +kernel
theorem dX9_decree_65 : decode cX9_decree 65 = .ok (.iaload, 1) := by decide +kernel
theorem dX9_decree_66 : decode cX9_decree 66 = .ok (.iadd, 1) := by decide +kernel
theorem dX9_decree_67 : decode cX9_decree 67 = .ok (.istore 5, 2) := by decide +kernel
theorem dX9_decree_69 : decode cX9_decree 69 = .ok (.aload_n 0, 1) := by decide +kernel
theorem dX9_decree_70 : decode cX9_decree 70 = .ok (.getfield 20, 3) := by decide +kernel
theorem dX9_decree_73 : decode cX9_decree 73 = .ok (.iload 4, 2) := by decide +kernel
theorem dX9_decree_75 : decode cX9_decree 75 = .ok (.iload_n 2, 1) := by decide +kernel
theorem dX9_decree_76 : decode cX9_decree 76 = .ok (.iastore, 1) := by decide +kernel
theorem dX9_decree_77 : decode cX9_decree 77 = .ok (.aload_n 0, 1) := by decide +kernel
theorem dX9_decree_78 : decode cX9_decree 78 = .ok (.getfield 24, 3) := by decide +kernel
theorem dX9_decree_81 : decode cX9_decree 81 = .ok (.iload 4, 2) := by decide +kernel
theorem dX9_decree_83 : decode cX9_decree 83 = .ok (.iload_n 3, 1) := by decide +kernel
theorem dX9_decree_84 : decode cX9_decree 84 = .ok (.iastore, 1) := by decide +kernel
theorem dX9_decree_85 : decode cX9_decree 85 = .ok (.iload 5, 2) := by decide +kernel
theorem dX9_decree_87 : decode cX9_decree 87 = .ok (.ireturn, 1) := by decide +kernel
theorem dX9_mints_0 : decode cX9_mints 0 = .ok (.iconst 0, 1) := by decide +kernel
theorem dX9_mints_1 : decode cX9_mints 1 = .ok (.istore 4, 2) := by decide +kernel
theorem dX9_mints_3 : decode cX9_mints 3 = .ok (.iload 4, 2) := by decide +kernel
theorem dX9_mints_5 : decode cX9_mints 5 = .ok (.iload_n 3, 1) := by decide +kernel
theorem dX9_mints_6 : decode cX9_mints 6 = .ok (.if_icmp .ge 43, 3) := by decide +kernel
theorem dX9_mints_9 : decode cX9_mints 9 = .ok (.aload_n 0, 1) := by decide +kernel
theorem dX9_mints_10 : decode cX9_mints 10 = .ok (.getfield 32, 3) := by decide +kernel
theorem dX9_mints_13 : decode cX9_mints 13 = .ok (.new 94, 3) := by decide +kernel
theorem dX9_mints_16 : decode cX9_mints 16 = .ok (.dup, 1) := by decide +kernel
theorem dX9_mints_17 : decode cX9_mints 17 = .ok (.aload_n 0, 1) := by decide +kernel
theorem dX9_mints_18 : decode cX9_mints 18 = .ok (.getfield 32, 3) := by decide +kernel
theorem dX9_mints_21 : decode cX9_mints 21 = .ok (.invokeinterface 56 1, 5) := by decide +kernel
theorem dX9_mints_26 : decode cX9_mints 26 = .ok (.iload_n 2, 1) := by decide +kernel
theorem dX9_mints_27 : decode cX9_mints 27 = .ok (.aload_n 0, 1) := by decide +kernel
theorem dX9_mints_28 : decode cX9_mints 28 = .ok (.getfield 24, 3) := by decide +kernel
theorem dX9_mints_31 : decode cX9_mints 31 = .ok (.iload_n 2, 1) := by decide +kernel
theorem dX9_mints_32 : decode cX9_mints 32 = .ok (.iaload, 1) := by decide +kernel
theorem dX9_mints_33 : decode cX9_mints 33 = .ok (.iload_n 1, 1) := by decide +kernel
theorem dX9_mints_34 : decode cX9_mints 34 = .ok (.invokespecial 96, 3) := by decide +kernel
theorem dX9_mints_37 : decode cX9_mints 37 = .ok (.invokeinterface 50 2, 5) := by decide +kernel
theorem dX9_mints_42 : decode cX9_mints 42 = .ok (.pop, 1) := by decide +kernel
theorem dX9_mints_43 : decode cX9_mints 43 = .ok (.iinc 4 1, 3) := by decide +kernel
theorem dX9_mints_46 : decode cX9_mints 46 = .ok (.goto (-43), 3) := by decide +kernel
theorem dX9_mints_49 : decode cX9_mints 49 = .ok (.aload_n 0, 1) := by decide +kernel
theorem dX9_mints_50 : decode cX9_mints 50 = .ok (.getfield 29, 3) := by decide +kernel
theorem dX9_mints_53 : decode cX9_mints 53 = .ok (.iload_n 1, 1) := by decide +kernel
theorem dX9_mints_54 : decode cX9_mints 54 = .ok (.aaload, 1) := by decide +kernel
theorem dX9_mints_55 : decode cX9_mints 55 = .ok (.iload_n 2, 1) := by decide +kernel
theorem dX9_mints_56 : decode cX9_mints 56 = .ok (.dup2, 1) := by decide +kernel
theorem dX9_mints_57 : decode cX9_mints 57 = .ok (.iaload, 1) := by decide +kernel
theorem dX9_mints_58 : decode cX9_mints 58 = .ok (.iload_n 3, 1) := by decide +kernel
theorem dX9_mints_59 : decode cX9_mints 59 = .ok (.aload_n 0, 1) := by decide +kernel
theorem dX9_mints_60 : decode cX9_mints 60 = .ok (.getfield 24, 3) := by decide +kernel
theorem dX9_mints_63 : decode cX9_mints 63 = .ok (.iload_n 2, 1) := by decide +kernel
theorem dX9_mints_64 : decode cX9_mints 64 = .ok (.iaload, 1) := by decide +kernel
theorem dX9_mints_65 : decode cX9_mints 65 = .ok (.imul, 1) := by decide +kernel
theorem dX9_mints_66 : decode cX9_mints 66 = .ok (.isub, 1) := by decide +kernel
theorem dX9_mints_67 : decode cX9_mints 67 = .ok (.iastore, 1) := by decide +kernel
theorem dX9_mints_68 : decode cX9_mints 68 = .ok (.return_, 1) := by decide +kernel
theorem dX9_mint_0 : decode cX9_mint 0 = .ok (.aload_n 0, 1) := by decide +kernel
theorem dX9_mint_1 : decode cX9_mint 1 = .ok (.aload_n 0, 1) := by decide +kernel
theorem dX9_mint_2 : decode cX9_mint 2 = .ok (.iload_n 1, 1) := by decide +kernel
theorem dX9_mint_3 : decode cX9_mint 3 = .ok (.invokevirtual 84, 3) := by decide +kernel
theorem dX9_mint_6 : decode cX9_mint 6 = .ok (.ifCond .ne 7, 3) := by decide +kernel
theorem dX9_mint_9 : decode cX9_mint 9 = .ok (.iconst 1, 1) := by decide +kernel
theorem dX9_mint_10 : decode cX9_mint 10 = .ok (.goto 37, 3) := by decide +kernel
theorem dX9_mint_13 : decode cX9_mint 13 = .ok (.iload_n 2, 1) := by decide +kernel
theorem dX9_mint_14 : decode cX9_mint 14 = .ok (.invokestatic 87, 3) := by decide +kernel
theorem dX9_mint_17 : decode cX9_mint 17 = .ok (.ifCond .eq 13, 3) := by decide +kernel
theorem dX9_mint_20 : decode cX9_mint 20 = .ok (.iload_n 3, 1) := by decide +kernel
theorem dX9_mint_21 : decode cX9_mint 21 = .ok (.iconst 1, 1) := by decide +kernel
theorem dX9_mint_22 : decode cX9_mint 22 = .ok (.bipush 90, 2) := by decide +kernel
theorem dX9_mint_24 : decode cX9_mint 24 = .ok (.invokestatic 60, 3) := by decide +kernel
theorem dX9_mint_27 : decode cX9_mint 27 = .ok (.ifCond .ne 7, 3) := by decide +kernel
theorem dX9_mint_30 : decode cX9_mint 30 = .ok (.iconst 2, 1) := by decide +kernel
theorem dX9_mint_31 : decode cX9_mint 31 = .ok (.goto 16, 3) := by decide +kernel
theorem dX9_mint_34 : decode cX9_mint 34 = .ok (.aload_n 0, 1) := by decide +kernel
theorem dX9_mint_35 : decode cX9_mint 35 = .ok (.iload_n 1, 1) := by decide +kernel
theorem dX9_mint_36 : decode cX9_mint 36 = .ok (.invokevirtual 91, 3) := by decide +kernel
theorem dX9_mint_39 : decode cX9_mint 39 = .ok (.ifCond .eq 7, 3) := by decide +kernel
theorem dX9_mint_42 : decode cX9_mint 42 = .ok (.iconst 3, 1) := by decide +kernel
theorem dX9_mint_43 : decode cX9_mint 43 = .ok (.goto 4, 3) := by decide +kernel
theorem dX9_mint_46 : decode cX9_mint 46 = .ok (.iconst 0, 1) := by decide +kernel
theorem dX9_mint_47 : decode cX9_mint 47 = .ok (.invokevirtual 80, 3) := by decide +kernel
theorem dX9_mint_50 : decode cX9_mint 50 = .ok (.ifCond .eq 5, 3) := by decide +kernel
theorem dX9_mint_53 : decode cX9_mint 53 = .ok (.iconst 0, 1) := by decide +kernel
theorem dX9_mint_54 : decode cX9_mint 54 = .ok (.ireturn, 1) := by decide +kernel
theorem dX9_mint_55 : decode cX9_mint 55 = .ok (.ldc 72, 2) := by decide +kernel
theorem dX9_mint_57 : decode cX9_mint 57 = .ok (.iload_n 2, 1) := by decide +kernel
theorem dX9_mint_58 : decode cX9_mint 58 = .ok (.invokevirtual 74, 3) := by decide +kernel
theorem dX9_mint_61 : decode cX9_mint 61 = .ok (.istore 4, 2) := by decide +kernel
theorem dX9_mint_63 : decode cX9_mint 63 = .ok (.aload_n 0, 1) := by decide +kernel
theorem dX9_mint_64 : decode cX9_mint 64 = .ok (.aload_n 0, 1) := by decide +kernel
theorem dX9_mint_65 : decode cX9_mint 65 = .ok (.getfield 29, 3) := by decide +kernel
theorem dX9_mint_68 : decode cX9_mint 68 = .ok (.iload_n 1, 1) := by decide +kernel
theorem dX9_mint_69 : decode cX9_mint 69 = .ok (.aaload, 1) := by decide +kernel
theorem dX9_mint_70 : decode cX9_mint 70 = .ok (.iload 4, 2) := by decide +kernel
theorem dX9_mint_72 : decode cX9_mint 72 = .ok (.iaload, 1) := by decide +kernel
theorem dX9_mint_73 : decode cX9_mint 73 = .ok (.iload_n 3, 1) := by decide +kernel
theorem dX9_mint_74 : decode cX9_mint 74 = .ok (.aload_n 0, 1) := by decide +kernel
theorem dX9_mint_75 : decode cX9_mint 75 = .ok (.getfield 24, 3) := by decide +kernel
theorem dX9_mint_78 : decode cX9_mint 78 = .ok (.iload 4, 2) := by decide +kernel
theorem dX9_mint_80 : decode cX9_mint 80 = .ok (.iaload, 1) := by decide +kernel
theorem dX9_mint_81 : decode cX9_mint 81 = .ok (.imul, 1) := by decide +kernel
theorem dX9_mint_82 : decode cX9_mint 82 = .ok (.if_icmp .lt 19, 3) := by decide +kernel
theorem dX9_mint_85 : decode cX9_mint 85 = .ok (.aload_n 0, 1) := by decide +kernel
theorem dX9_mint_86 : decode cX9_mint 86 = .ok (.getfield 32, 3) := by decide +kernel
theorem dX9_mint_89 : decode cX9_mint 89 = .ok (.invokeinterface 56 1, 5) := by decide +kernel
theorem dX9_mint_94 : decode cX9_mint 94 = .ok (.iload_n 3, 1) := by decide +kernel
theorem dX9_mint_95 : decode cX9_mint 95 = .ok (.iadd, 1) := by decide +kernel
theorem dX9_mint_96 : decode cX9_mint 96 = .ok (.bipush 90, 2) := by decide +kernel
theorem dX9_mint_98 : decode cX9_mint 98 = .ok (.if_icmp .le 7, 3) := by decide +kernel
theorem dX9_mint_101 : decode cX9_mint 101 = .ok (.iconst 4, 1) := by decide +kernel
theorem dX9_mint_102 : decode cX9_mint 102 = .ok (.goto 4, 3) := by decide +kernel
theorem dX9_mint_105 : decode cX9_mint 105 = .ok (.iconst 0, 1) := by decide +kernel
theorem dX9_mint_106 : decode cX9_mint 106 = .ok (.invokevirtual 80, 3) := by decide +kernel
theorem dX9_mint_109 : decode cX9_mint 109 = .ok (.ifCond .eq 5, 3) := by decide +kernel
theorem dX9_mint_112 : decode cX9_mint 112 = .ok (.iconst 0, 1) := by decide +kernel
theorem dX9_mint_113 : decode cX9_mint 113 = .ok (.ireturn, 1) := by decide +kernel
theorem dX9_mint_114 : decode cX9_mint 114 = .ok (.aload_n 0, 1) := by decide +kernel
theorem dX9_mint_115 : decode cX9_mint 115 = .ok (.getfield 32, 3) := by decide +kernel
theorem dX9_mint_118 : decode cX9_mint 118 = .ok (.invokeinterface 56 1, 5) := by decide +kernel
theorem dX9_mint_123 : decode cX9_mint 123 = .ok (.istore 5, 2) := by decide +kernel
theorem dX9_mint_125 : decode cX9_mint 125 = .ok (.aload_n 0, 1) := by decide +kernel
theorem dX9_mint_126 : decode cX9_mint 126 = .ok (.iload_n 1, 1) := by decide +kernel
theorem dX9_mint_127 : decode cX9_mint 127 = .ok (.iload 4, 2) := by decide +kernel
theorem dX9_mint_129 : decode cX9_mint 129 = .ok (.iload_n 3, 1) := by decide +kernel
theorem dX9_mint_130 : decode cX9_mint 130 = .ok (.invokevirtual 99, 3) := by decide +kernel
theorem dX9_mint_133 : decode cX9_mint 133 = .ok (.iload 5, 2) := by decide +kernel
theorem dX9_mint_135 : decode cX9_mint 135 = .ok (.ireturn, 1) := by decide +kernel
theorem dX9_isCoin_0 : decode cX9_isCoin 0 = .ok (.iload_n 1, 1) := by decide +kernel
theorem dX9_isCoin_1 : decode cX9_isCoin 1 = .ok (.iconst 0, 1) := by decide +kernel
theorem dX9_isCoin_2 : decode cX9_isCoin 2 = .ok (.aload_n 0, 1) := by decide +kernel
theorem dX9_isCoin_3 : decode cX9_isCoin 3 = .ok (.getfield 32, 3) := by decide +kernel
theorem dX9_isCoin_6 : decode cX9_isCoin 6 = .ok (.invokeinterface 56 1, 5) := by decide +kernel
theorem dX9_isCoin_11 : decode cX9_isCoin 11 = .ok (.iconst 1, 1) := by decide +kernel
theorem dX9_isCoin_12 : decode cX9_isCoin 12 = .ok (.isub, 1) := by decide +kernel
theorem dX9_isCoin_13 : decode cX9_isCoin 13 = .ok (.invokestatic 60, 3) := by decide +kernel
theorem dX9_isCoin_16 : decode cX9_isCoin 16 = .ok (.ireturn, 1) := by decide +kernel
theorem dX9_isMelted_0 : decode cX9_isMelted 0 = .ok (.aload_n 0, 1) := by decide +kernel
theorem dX9_isMelted_1 : decode cX9_isMelted 1 = .ok (.getfield 32, 3) := by decide +kernel
theorem dX9_isMelted_4 : decode cX9_isMelted 4 = .ok (.iload_n 1, 1) := by decide +kernel
theorem dX9_isMelted_5 : decode cX9_isMelted 5 = .ok (.invokeinterface 64 2, 5) := by decide +kernel
theorem dX9_isMelted_10 : decode cX9_isMelted 10 = .ok (.checkcast 94, 3) := by decide +kernel
theorem dX9_isMelted_13 : decode cX9_isMelted 13 = .ok (.getfield 103, 3) := by decide +kernel
theorem dX9_isMelted_16 : decode cX9_isMelted 16 = .ok (.ifCond .ne 7, 3) := by decide +kernel
theorem dX9_isMelted_19 : decode cX9_isMelted 19 = .ok (.iconst 1, 1) := by decide +kernel
theorem dX9_isMelted_20 : decode cX9_isMelted 20 = .ok (.goto 4, 3) := by decide +kernel
theorem dX9_isMelted_23 : decode cX9_isMelted 23 = .ok (.iconst 0, 1) := by decide +kernel
theorem dX9_isMelted_24 : decode cX9_isMelted 24 = .ok (.ireturn, 1) := by decide +kernel
theorem dX9_clip_0 : decode cX9_clip 0 = .ok (.aload_n 0, 1) := by decide +kernel
theorem dX9_clip_1 : decode cX9_clip 1 = .ok (.aload_n 0, 1) := by decide +kernel
theorem dX9_clip_2 : decode cX9_clip 2 = .ok (.iload_n 1, 1) := by decide +kernel
theorem dX9_clip_3 : decode cX9_clip 3 = .ok (.invokevirtual 106, 3) := by decide +kernel
theorem dX9_clip_6 : decode cX9_clip 6 = .ok (.ifCond .ne 7, 3) := by decide +kernel
theorem dX9_clip_9 : decode cX9_clip 9 = .ok (.iconst 1, 1) := by decide +kernel
theorem dX9_clip_10 : decode cX9_clip 10 = .ok (.goto 50, 3) := by decide +kernel
theorem dX9_clip_13 : decode cX9_clip 13 = .ok (.iload_n 2, 1) := by decide +kernel
theorem dX9_clip_14 : decode cX9_clip 14 = .ok (.iconst 1, 1) := by decide +kernel
theorem dX9_clip_15 : decode cX9_clip 15 = .ok (.bipush 9, 2) := by decide +kernel
theorem dX9_clip_17 : decode cX9_clip 17 = .ok (.invokestatic 60, 3) := by decide +kernel
theorem dX9_clip_20 : decode cX9_clip 20 = .ok (.ifCond .ne 7, 3) := by decide +kernel
theorem dX9_clip_23 : decode cX9_clip 23 = .ok (.iconst 2, 1) := by decide +kernel
theorem dX9_clip_24 : decode cX9_clip 24 = .ok (.goto 36, 3) := by decide +kernel
theorem dX9_clip_27 : decode cX9_clip 27 = .ok (.aload_n 0, 1) := by decide +kernel
theorem dX9_clip_28 : decode cX9_clip 28 = .ok (.iload_n 1, 1) := by decide +kernel
theorem dX9_clip_29 : decode cX9_clip 29 = .ok (.invokevirtual 109, 3) := by decide +kernel
theorem dX9_clip_32 : decode cX9_clip 32 = .ok (.ifCond .ne 23, 3) := by decide +kernel
theorem dX9_clip_35 : decode cX9_clip 35 = .ok (.aload_n 0, 1) := by decide +kernel
theorem dX9_clip_36 : decode cX9_clip 36 = .ok (.getfield 32, 3) := by decide +kernel
theorem dX9_clip_39 : decode cX9_clip 39 = .ok (.iload_n 1, 1) := by decide +kernel
theorem dX9_clip_40 : decode cX9_clip 40 = .ok (.invokeinterface 64 2, 5) := by decide +kernel
theorem dX9_clip_45 : decode cX9_clip 45 = .ok (.checkcast 94, 3) := by decide +kernel
theorem dX9_clip_48 : decode cX9_clip 48 = .ok (.getfield 103, 3) := by decide +kernel
theorem dX9_clip_51 : decode cX9_clip 51 = .ok (.iload_n 2, 1) := by decide +kernel
theorem dX9_clip_52 : decode cX9_clip 52 = .ok (.if_icmp .gt 7, 3) := by decide +kernel
theorem dX9_clip_55 : decode cX9_clip 55 = .ok (.iconst 3, 1) := by decide +kernel
theorem dX9_clip_56 : decode cX9_clip 56 = .ok (.goto 4, 3) := by decide +kernel
theorem dX9_clip_59 : decode cX9_clip 59 = .ok (.iconst 0, 1) := by decide +kernel
theorem dX9_clip_60 : decode cX9_clip 60 = .ok (.invokevirtual 80, 3) := by decide +kernel
theorem dX9_clip_63 : decode cX9_clip 63 = .ok (.ifCond .eq 5, 3) := by decide +kernel
theorem dX9_clip_66 : decode cX9_clip 66 = .ok (.iconst 0, 1) := by decide +kernel
theorem dX9_clip_67 : decode cX9_clip 67 = .ok (.ireturn, 1) := by decide +kernel
theorem dX9_clip_68 : decode cX9_clip 68 = .ok (.aload_n 0, 1) := by decide +kernel
theorem dX9_clip_69 : decode cX9_clip 69 = .ok (.getfield 32, 3) := by decide +kernel
theorem dX9_clip_72 : decode cX9_clip 72 = .ok (.iload_n 1, 1) := by decide +kernel
theorem dX9_clip_73 : decode cX9_clip 73 = .ok (.invokeinterface 64 2, 5) := by decide +kernel
theorem dX9_clip_78 : decode cX9_clip 78 = .ok (.checkcast 94, 3) := by decide +kernel
theorem dX9_clip_81 : decode cX9_clip 81 = .ok (.astore_n 3, 1) := by decide +kernel
theorem dX9_clip_82 : decode cX9_clip 82 = .ok (.aload_n 3, 1) := by decide +kernel
theorem dX9_clip_83 : decode cX9_clip 83 = .ok (.dup, 1) := by decide +kernel
theorem dX9_clip_84 : decode cX9_clip 84 = .ok (.getfield 103, 3) := by decide +kernel
theorem dX9_clip_87 : decode cX9_clip 87 = .ok (.iload_n 2, 1) := by decide +kernel
theorem dX9_clip_88 : decode cX9_clip 88 = .ok (.isub, 1) := by decide +kernel
theorem dX9_clip_89 : decode cX9_clip 89 = .ok (.putfield 103, 3) := by decide +kernel
theorem dX9_clip_92 : decode cX9_clip 92 = .ok (.aload_n 0, 1) := by decide +kernel
theorem dX9_clip_93 : decode cX9_clip 93 = .ok (.getfield 29, 3) := by decide +kernel
theorem dX9_clip_96 : decode cX9_clip 96 = .ok (.aload_n 3, 1) := by decide +kernel
theorem dX9_clip_97 : decode cX9_clip 97 = .ok (.getfield 112, 3) := by decide +kernel
theorem dX9_clip_100 : decode cX9_clip 100 = .ok (.aaload, 1) := by decide +kernel
theorem dX9_clip_101 : decode cX9_clip 101 = .ok (.aload_n 3, 1) := by decide +kernel
theorem dX9_clip_102 : decode cX9_clip 102 = .ok (.getfield 115, 3) := by decide +kernel
theorem dX9_clip_105 : decode cX9_clip 105 = .ok (.dup2, 1) := by decide +kernel
theorem dX9_clip_106 : decode cX9_clip 106 = .ok (.iaload, 1) := by decide +kernel
theorem dX9_clip_107 : decode cX9_clip 107 = .ok (.iload_n 2, 1) := by decide +kernel
theorem dX9_clip_108 : decode cX9_clip 108 = .ok (.iadd, 1) := by decide +kernel
theorem dX9_clip_109 : decode cX9_clip 109 = .ok (.iastore, 1) := by decide +kernel
theorem dX9_clip_110 : decode cX9_clip 110 = .ok (.aload_n 3, 1) := by decide +kernel
theorem dX9_clip_111 : decode cX9_clip 111 = .ok (.getfield 103, 3) := by decide +kernel
theorem dX9_clip_114 : decode cX9_clip 114 = .ok (.ireturn, 1) := by decide +kernel
theorem dX9_hoard_0 : decode cX9_hoard 0 = .ok (.aload_n 0, 1) := by decide +kernel
theorem dX9_hoard_1 : decode cX9_hoard 1 = .ok (.aload_n 0, 1) := by decide +kernel
theorem dX9_hoard_2 : decode cX9_hoard 2 = .ok (.iload_n 1, 1) := by decide +kernel
theorem dX9_hoard_3 : decode cX9_hoard 3 = .ok (.invokevirtual 106, 3) := by decide +kernel
theorem dX9_hoard_6 : decode cX9_hoard 6 = .ok (.ifCond .ne 7, 3) := by decide +kernel
theorem dX9_hoard_9 : decode cX9_hoard 9 = .ok (.iconst 1, 1) := by decide +kernel
theorem dX9_hoard_10 : decode cX9_hoard 10 = .ok (.goto 16, 3) := by decide +kernel
theorem dX9_hoard_13 : decode cX9_hoard 13 = .ok (.aload_n 0, 1) := by decide +kernel
theorem dX9_hoard_14 : decode cX9_hoard 14 = .ok (.iload_n 1, 1) := by decide +kernel
theorem dX9_hoard_15 : decode cX9_hoard 15 = .ok (.invokevirtual 109, 3) := by decide +kernel
theorem dX9_hoard_18 : decode cX9_hoard 18 = .ok (.ifCond .eq 7, 3) := by decide +kernel
theorem dX9_hoard_21 : decode cX9_hoard 21 = .ok (.iconst 2, 1) := by decide +kernel
theorem dX9_hoard_22 : decode cX9_hoard 22 = .ok (.goto 4, 3) := by decide +kernel
theorem dX9_hoard_25 : decode cX9_hoard 25 = .ok (.iconst 0, 1) := by decide +kernel
theorem dX9_hoard_26 : decode cX9_hoard 26 = .ok (.invokevirtual 80, 3) := by decide +kernel
theorem dX9_hoard_29 : decode cX9_hoard 29 = .ok (.ifCond .eq 5, 3) := by decide +kernel
theorem dX9_hoard_32 : decode cX9_hoard 32 = .ok (.iconst 0, 1) := by decide +kernel
theorem dX9_hoard_33 : decode cX9_hoard 33 = .ok (.ireturn, 1) := by decide +kernel
theorem dX9_hoard_34 : decode cX9_hoard 34 = .ok (.aload_n 0, 1) := by decide +kernel
theorem dX9_hoard_35 : decode cX9_hoard 35 = .ok (.getfield 32, 3) := by decide +kernel
theorem dX9_hoard_38 : decode cX9_hoard 38 = .ok (.iload_n 1, 1) := by decide +kernel
theorem dX9_hoard_39 : decode cX9_hoard 39 = .ok (.invokeinterface 64 2, 5) := by decide +kernel
theorem dX9_hoard_44 : decode cX9_hoard 44 = .ok (.checkcast 94, 3) := by decide +kernel
theorem dX9_hoard_47 : decode cX9_hoard 47 = .ok (.getfield 118, 3) := by decide +kernel
theorem dX9_hoard_50 : decode cX9_hoard 50 = .ok (.istore_n 3, 1) := by decide +kernel
theorem dX9_hoard_51 : decode cX9_hoard 51 = .ok (.aload_n 0, 1) := by decide +kernel
theorem dX9_hoard_52 : decode cX9_hoard 52 = .ok (.getfield 32, 3) := by decide +kernel
theorem dX9_hoard_55 : decode cX9_hoard 55 = .ok (.iload_n 1, 1) := by decide +kernel
theorem dX9_hoard_56 : decode cX9_hoard 56 = .ok (.invokeinterface 64 2, 5) := by decide +kernel
theorem dX9_hoard_61 : decode cX9_hoard 61 = .ok (.checkcast 94, 3) := by decide +kernel
theorem dX9_hoard_64 : decode cX9_hoard 64 = .ok (.iload_n 2, 1) := by decide +kernel
theorem dX9_hoard_65 : decode cX9_hoard 65 = .ok (.putfield 118, 3) := by decide +kernel
theorem dX9_hoard_68 : decode cX9_hoard 68 = .ok (.iload_n 3, 1) := by decide +kernel
theorem dX9_hoard_69 : decode cX9_hoard 69 = .ok (.ireturn, 1) := by decide +kernel
theorem dX9_recoin_0 : decode cX9_recoin 0 = .ok (.aload_n 0, 1) := by decide +kernel
theorem dX9_recoin_1 : decode cX9_recoin 1 = .ok (.aload_n 0, 1) := by decide +kernel
theorem dX9_recoin_2 : decode cX9_recoin 2 = .ok (.iload_n 1, 1) := by decide +kernel
theorem dX9_recoin_3 : decode cX9_recoin 3 = .ok (.invokevirtual 84, 3) := by decide +kernel
theorem dX9_recoin_6 : decode cX9_recoin 6 = .ok (.ifCond .ne 7, 3) := by decide +kernel
theorem dX9_recoin_9 : decode cX9_recoin 9 = .ok (.iconst 1, 1) := by decide +kernel
theorem dX9_recoin_10 : decode cX9_recoin 10 = .ok (.goto 27, 3) := by decide +kernel
theorem dX9_recoin_13 : decode cX9_recoin 13 = .ok (.iload_n 2, 1) := by decide +kernel
theorem dX9_recoin_14 : decode cX9_recoin 14 = .ok (.invokestatic 87, 3) := by decide +kernel
theorem dX9_recoin_17 : decode cX9_recoin 17 = .ok (.ifCond .ne 7, 3) := by decide +kernel
theorem dX9_recoin_20 : decode cX9_recoin 20 = .ok (.iconst 2, 1) := by decide +kernel
theorem dX9_recoin_21 : decode cX9_recoin 21 = .ok (.goto 16, 3) := by decide +kernel
theorem dX9_recoin_24 : decode cX9_recoin 24 = .ok (.aload_n 0, 1) := by decide +kernel
theorem dX9_recoin_25 : decode cX9_recoin 25 = .ok (.iload_n 1, 1) := by decide +kernel
theorem dX9_recoin_26 : decode cX9_recoin 26 = .ok (.invokevirtual 91, 3) := by decide +kernel
theorem dX9_recoin_29 : decode cX9_recoin 29 = .ok (.ifCond .eq 7, 3) := by decide +kernel
theorem dX9_recoin_32 : decode cX9_recoin 32 = .ok (.iconst 3, 1) := by decide +kernel
theorem dX9_recoin_33 : decode cX9_recoin 33 = .ok (.goto 4, 3) := by decide +kernel
theorem dX9_recoin_36 : decode cX9_recoin 36 = .ok (.iconst 0, 1) := by decide +kernel
theorem dX9_recoin_37 : decode cX9_recoin 37 = .ok (.invokevirtual 80, 3) := by decide +kernel
theorem dX9_recoin_40 : decode cX9_recoin 40 = .ok (.ifCond .eq 5, 3) := by decide +kernel
theorem dX9_recoin_43 : decode cX9_recoin 43 = .ok (.iconst 0, 1) := by decide +kernel
theorem dX9_recoin_44 : decode cX9_recoin 44 = .ok (.ireturn, 1) := by decide +kernel
theorem dX9_recoin_45 : decode cX9_recoin 45 = .ok (.ldc 72, 2) := by decide +kernel
theorem dX9_recoin_47 : decode cX9_recoin 47 = .ok (.iload_n 2, 1) := by decide +kernel
theorem dX9_recoin_48 : decode cX9_recoin 48 = .ok (.invokevirtual 74, 3) := by decide +kernel
theorem dX9_recoin_51 : decode cX9_recoin 51 = .ok (.istore_n 3, 1) := by decide +kernel
theorem dX9_recoin_52 : decode cX9_recoin 52 = .ok (.aload_n 0, 1) := by decide +kernel
theorem dX9_recoin_53 : decode cX9_recoin 53 = .ok (.getfield 32, 3) := by decide +kernel
theorem dX9_recoin_56 : decode cX9_recoin 56 = .ok (.invokeinterface 122 1, 5) := by decide +kernel
theorem dX9_recoin_61 : decode cX9_recoin 61 = .ok (.astore 4, 2) := by decide +kernel
theorem dX9_recoin_63 : decode cX9_recoin 63 = .ok (.aload 4, 2) := by decide +kernel
theorem dX9_recoin_65 : decode cX9_recoin 65 = .ok (.invokeinterface 126 1, 5) := by decide +kernel
theorem dX9_recoin_70 : decode cX9_recoin 70 = .ok (.ifCond .eq 75, 3) := by decide +kernel
theorem dX9_recoin_73 : decode cX9_recoin 73 = .ok (.aload 4, 2) := by decide +kernel
theorem dX9_recoin_75 : decode cX9_recoin 75 = .ok (.invokeinterface 132 1, 5) := by decide +kernel
theorem dX9_recoin_80 : decode cX9_recoin 80 = .ok (.checkcast 94, 3) := by decide +kernel
theorem dX9_recoin_83 : decode cX9_recoin 83 = .ok (.astore 5, 2) := by decide +kernel
theorem dX9_recoin_85 : decode cX9_recoin 85 = .ok (.aload 5, 2) := by decide +kernel
theorem dX9_recoin_87 : decode cX9_recoin 87 = .ok (.getfield 112, 3) := by decide +kernel
theorem dX9_recoin_90 : decode cX9_recoin 90 = .ok (.iload_n 1, 1) := by decide +kernel
theorem dX9_recoin_91 : decode cX9_recoin 91 = .ok (.if_icmp .ne (-28), 3) := by decide +kernel
theorem dX9_recoin_94 : decode cX9_recoin 94 = .ok (.aload 5, 2) := by decide +kernel
theorem dX9_recoin_96 : decode cX9_recoin 96 = .ok (.getfield 115, 3) := by decide +kernel
theorem dX9_recoin_99 : decode cX9_recoin 99 = .ok (.iload_n 3, 1) := by decide +kernel
theorem dX9_recoin_100 : decode cX9_recoin 100 = .ok (.if_icmp .ne (-37), 3) := by decide +kernel
theorem dX9_recoin_103 : decode cX9_recoin 103 = .ok (.aload 5, 2) := by decide +kernel
theorem dX9_recoin_105 : decode cX9_recoin 105 = .ok (.getfield 118, 3) := by decide +kernel
theorem dX9_recoin_108 : decode cX9_recoin 108 = .ok (.ifCond .eq 6, 3) := by decide +kernel
theorem dX9_recoin_111 : decode cX9_recoin 111 = .ok (.goto (-48), 3) := by decide +kernel
theorem dX9_recoin_114 : decode cX9_recoin 114 = .ok (.aload_n 0, 1) := by decide +kernel
theorem dX9_recoin_115 : decode cX9_recoin 115 = .ok (.getfield 29, 3) := by decide +kernel
theorem dX9_recoin_118 : decode cX9_recoin 118 = .ok (.iload_n 1, 1) := by decide +kernel
theorem dX9_recoin_119 : decode cX9_recoin 119 = .ok (.aaload, 1) := by decide +kernel
theorem dX9_recoin_120 : decode cX9_recoin 120 = .ok (.iload_n 3, 1) := by decide +kernel
theorem dX9_recoin_121 : decode cX9_recoin 121 = .ok (.dup2, 1) := by decide +kernel
theorem dX9_recoin_122 : decode cX9_recoin 122 = .ok (.iaload, 1) := by decide +kernel
theorem dX9_recoin_123 : decode cX9_recoin 123 = .ok (.aload 5, 2) := by decide +kernel
theorem dX9_recoin_125 : decode cX9_recoin 125 = .ok (.getfield 103, 3) := by decide +kernel
theorem dX9_recoin_128 : decode cX9_recoin 128 = .ok (.iadd, 1) := by decide +kernel
theorem dX9_recoin_129 : decode cX9_recoin 129 = .ok (.iastore, 1) := by decide +kernel
theorem dX9_recoin_130 : decode cX9_recoin 130 = .ok (.aload 5, 2) := by decide +kernel
theorem dX9_recoin_132 : decode cX9_recoin 132 = .ok (.iconst 0, 1) := by decide +kernel
theorem dX9_recoin_133 : decode cX9_recoin 133 = .ok (.putfield 103, 3) := by decide +kernel
theorem dX9_recoin_136 : decode cX9_recoin 136 = .ok (.aload 5, 2) := by decide +kernel
theorem dX9_recoin_138 : decode cX9_recoin 138 = .ok (.iconst (-1), 1) := by decide +kernel
theorem dX9_recoin_139 : decode cX9_recoin 139 = .ok (.putfield 112, 3) := by decide +kernel
theorem dX9_recoin_142 : decode cX9_recoin 142 = .ok (.goto (-79), 3) := by decide +kernel
theorem dX9_recoin_145 : decode cX9_recoin 145 = .ok (.aload_n 0, 1) := by decide +kernel
theorem dX9_recoin_146 : decode cX9_recoin 146 = .ok (.getfield 29, 3) := by decide +kernel
theorem dX9_recoin_149 : decode cX9_recoin 149 = .ok (.iload_n 1, 1) := by decide +kernel
theorem dX9_recoin_150 : decode cX9_recoin 150 = .ok (.aaload, 1) := by decide +kernel
theorem dX9_recoin_151 : decode cX9_recoin 151 = .ok (.iload_n 3, 1) := by decide +kernel
theorem dX9_recoin_152 : decode cX9_recoin 152 = .ok (.iaload, 1) := by decide +kernel
theorem dX9_recoin_153 : decode cX9_recoin 153 = .ok (.aload_n 0, 1) := by decide +kernel
theorem dX9_recoin_154 : decode cX9_recoin 154 = .ok (.getfield 24, 3) := by decide +kernel
theorem dX9_recoin_157 : decode cX9_recoin 157 = .ok (.iload_n 3, 1) := by decide +kernel
theorem dX9_recoin_158 : decode cX9_recoin 158 = .ok (.iaload, 1) := by decide +kernel
theorem dX9_recoin_159 : decode cX9_recoin 159 = .ok (.idiv, 1) := by decide +kernel
theorem dX9_recoin_160 : decode cX9_recoin 160 = .ok (.bipush 90, 2) := by decide +kernel
theorem dX9_recoin_162 : decode cX9_recoin 162 = .ok (.aload_n 0, 1) := by decide +kernel
theorem dX9_recoin_163 : decode cX9_recoin 163 = .ok (.getfield 32, 3) := by decide +kernel
theorem dX9_recoin_166 : decode cX9_recoin 166 = .ok (.invokeinterface 56 1, 5) := by decide +kernel
theorem dX9_recoin_171 : decode cX9_recoin 171 = .ok (.isub, 1) := by decide +kernel
theorem dX9_recoin_172 : decode cX9_recoin 172 = .ok (.invokestatic 136, 3) := by decide +kernel
theorem dX9_recoin_175 : decode cX9_recoin 175 = .ok (.istore 4, 2) := by decide +kernel
theorem dX9_recoin_177 : decode cX9_recoin 177 = .ok (.aload_n 0, 1) := by decide +kernel
theorem dX9_recoin_178 : decode cX9_recoin 178 = .ok (.iload_n 1, 1) := by decide +kernel
theorem dX9_recoin_179 : decode cX9_recoin 179 = .ok (.iload_n 3, 1) := by decide +kernel
theorem dX9_recoin_180 : decode cX9_recoin 180 = .ok (.iload 4, 2) := by decide +kernel
theorem dX9_recoin_182 : decode cX9_recoin 182 = .ok (.invokevirtual 99, 3) := by decide +kernel
theorem dX9_recoin_185 : decode cX9_recoin 185 = .ok (.iload 4, 2) := by decide +kernel
theorem dX9_recoin_187 : decode cX9_recoin 187 = .ok (.ireturn, 1) := by decide +kernel
theorem dX9_lightest_0 : decode cX9_lightest 0 = .ok (.new 13, 3) := by decide +kernel
theorem dX9_lightest_3 : decode cX9_lightest 3 = .ok (.dup, 1) := by decide +kernel
theorem dX9_lightest_4 : decode cX9_lightest 4 = .ok (.invokespecial 15, 3) := by decide +kernel
theorem dX9_lightest_7 : decode cX9_lightest 7 = .ok (.astore 4, 2) := by decide +kernel
theorem dX9_lightest_9 : decode cX9_lightest 9 = .ok (.iconst 1, 1) := by decide +kernel
theorem dX9_lightest_10 : decode cX9_lightest 10 = .ok (.istore 5, 2) := by decide +kernel
theorem dX9_lightest_12 : decode cX9_lightest 12 = .ok (.iload 5, 2) := by decide +kernel
theorem dX9_lightest_14 : decode cX9_lightest 14 = .ok (.bipush 10, 2) := by decide +kernel
theorem dX9_lightest_16 : decode cX9_lightest 16 = .ok (.if_icmp .ge 102, 3) := by decide +kernel
theorem dX9_lightest_19 : decode cX9_lightest 19 = .ok (.aload_n 0, 1) := by decide +kernel
theorem dX9_lightest_20 : decode cX9_lightest 20 = .ok (.getfield 32, 3) := by decide +kernel
theorem dX9_lightest_23 : decode cX9_lightest 23 = .ok (.invokeinterface 122 1, 5) := by decide +kernel
theorem dX9_lightest_28 : decode cX9_lightest 28 = .ok (.astore 6, 2) := by decide +kernel
theorem dX9_lightest_30 : decode cX9_lightest 30 = .ok (.aload 6, 2) := by decide +kernel
theorem dX9_lightest_32 : decode cX9_lightest 32 = .ok (.invokeinterface 126 1, 5) := by decide +kernel
theorem dX9_lightest_37 : decode cX9_lightest 37 = .ok (.ifCond .eq 75, 3) := by decide +kernel
theorem dX9_lightest_40 : decode cX9_lightest 40 = .ok (.aload 6, 2) := by decide +kernel
theorem dX9_lightest_42 : decode cX9_lightest 42 = .ok (.invokeinterface 132 1, 5) := by decide +kernel
theorem dX9_lightest_47 : decode cX9_lightest 47 = .ok (.checkcast 94, 3) := by decide +kernel
theorem dX9_lightest_50 : decode cX9_lightest 50 = .ok (.astore 7, 2) := by decide +kernel
theorem dX9_lightest_52 : decode cX9_lightest 52 = .ok (.aload 7, 2) := by decide +kernel
theorem dX9_lightest_54 : decode cX9_lightest 54 = .ok (.getfield 112, 3) := by decide +kernel
theorem dX9_lightest_57 : decode cX9_lightest 57 = .ok (.iload_n 1, 1) := by decide +kernel
theorem dX9_lightest_58 : decode cX9_lightest 58 = .ok (.if_icmp .ne 51, 3) := by decide +kernel
theorem dX9_lightest_61 : decode cX9_lightest 61 = .ok (.aload 7, 2) := by decide +kernel
theorem dX9_lightest_63 : decode cX9_lightest 63 = .ok (.getfield 115, 3) := by decide +kernel
theorem dX9_lightest_66 : decode cX9_lightest 66 = .ok (.iload_n 2, 1) := by decide +kernel
theorem dX9_lightest_67 : decode cX9_lightest 67 = .ok (.if_icmp .ne 42, 3) := by decide +kernel
theorem dX9_lightest_70 : decode cX9_lightest 70 = .ok (.aload 7, 2) := by decide +kernel
theorem dX9_lightest_72 : decode cX9_lightest 72 = .ok (.getfield 118, 3) := by decide +kernel
theorem dX9_lightest_75 : decode cX9_lightest 75 = .ok (.ifCond .ne 34, 3) := by decide +kernel
theorem dX9_lightest_78 : decode cX9_lightest 78 = .ok (.aload 7, 2) := by decide +kernel
theorem dX9_lightest_80 : decode cX9_lightest 80 = .ok (.getfield 103, 3) := by decide +kernel
theorem dX9_lightest_83 : decode cX9_lightest 83 = .ok (.iload 5, 2) := by decide +kernel
theorem dX9_lightest_85 : decode cX9_lightest 85 = .ok (.if_icmp .ne 24, 3) := by decide +kernel
theorem dX9_lightest_88 : decode cX9_lightest 88 = .ok (.aload 4, 2) := by decide +kernel
theorem dX9_lightest_90 : decode cX9_lightest 90 = .ok (.invokeinterface 56 1, 5) := by decide +kernel
theorem dX9_lightest_95 : decode cX9_lightest 95 = .ok (.iload_n 3, 1) := by decide +kernel
theorem dX9_lightest_96 : decode cX9_lightest 96 = .ok (.if_icmp .ge 13, 3) := by decide +kernel
theorem dX9_lightest_99 : decode cX9_lightest 99 = .ok (.aload 4, 2) := by decide +kernel
theorem dX9_lightest_101 : decode cX9_lightest 101 = .ok (.aload 7, 2) := by decide +kernel
theorem dX9_lightest_103 : decode cX9_lightest 103 = .ok (.invokeinterface 50 2, 5) := by decide +kernel
theorem dX9_lightest_108 : decode cX9_lightest 108 = .ok (.pop, 1) := by decide +kernel
theorem dX9_lightest_109 : decode cX9_lightest 109 = .ok (.goto (-79), 3) := by decide +kernel
theorem dX9_lightest_112 : decode cX9_lightest 112 = .ok (.iinc 5 1, 3) := by decide +kernel
theorem dX9_lightest_115 : decode cX9_lightest 115 = .ok (.goto (-103), 3) := by decide +kernel
theorem dX9_lightest_118 : decode cX9_lightest 118 = .ok (.aload 4, 2) := by decide +kernel
theorem dX9_lightest_120 : decode cX9_lightest 120 = .ok (.invokeinterface 56 1, 5) := by decide +kernel
theorem dX9_lightest_125 : decode cX9_lightest 125 = .ok (.iload_n 3, 1) := by decide +kernel
theorem dX9_lightest_126 : decode cX9_lightest 126 = .ok (.if_icmp .ge 7, 3) := by decide +kernel
theorem dX9_lightest_129 : decode cX9_lightest 129 = .ok (.aconst_null, 1) := by decide +kernel
theorem dX9_lightest_130 : decode cX9_lightest 130 = .ok (.goto 5, 3) := by decide +kernel
theorem dX9_lightest_133 : decode cX9_lightest 133 = .ok (.aload 4, 2) := by decide +kernel
theorem dX9_lightest_135 : decode cX9_lightest 135 = .ok (.areturn, 1) := by decide +kernel
theorem dX9_gives_0 : decode cX9_gives 0 = .ok (.iconst 0, 1) := by decide +kernel
theorem dX9_gives_1 : decode cX9_gives 1 = .ok (.istore_n 2, 1) := by decide +kernel
theorem dX9_gives_2 : decode cX9_gives 2 = .ok (.aload_n 0, 1) := by decide +kernel
theorem dX9_gives_3 : decode cX9_gives 3 = .ok (.invokeinterface 122 1, 5) := by decide +kernel
theorem dX9_gives_8 : decode cX9_gives 8 = .ok (.astore_n 3, 1) := by decide +kernel
theorem dX9_gives_9 : decode cX9_gives 9 = .ok (.aload_n 3, 1) := by decide +kernel
theorem dX9_gives_10 : decode cX9_gives 10 = .ok (.invokeinterface 126 1, 5) := by decide +kernel
theorem dX9_gives_15 : decode cX9_gives 15 = .ok (.ifCond .eq 31, 3) := by decide +kernel
theorem dX9_gives_18 : decode cX9_gives 18 = .ok (.aload_n 3, 1) := by decide +kernel
theorem dX9_gives_19 : decode cX9_gives 19 = .ok (.invokeinterface 132 1, 5) := by decide +kernel
theorem dX9_gives_24 : decode cX9_gives 24 = .ok (.checkcast 94, 3) := by decide +kernel
theorem dX9_gives_27 : decode cX9_gives 27 = .ok (.astore 4, 2) := by decide +kernel
theorem dX9_gives_29 : decode cX9_gives 29 = .ok (.iload_n 2, 1) := by decide +kernel
theorem dX9_gives_30 : decode cX9_gives 30 = .ok (.aload 4, 2) := by decide +kernel
theorem dX9_gives_32 : decode cX9_gives 32 = .ok (.getfield 103, 3) := by decide +kernel
theorem dX9_gives_35 : decode cX9_gives 35 = .ok (.iadd, 1) := by decide +kernel
theorem dX9_gives_36 : decode cX9_gives 36 = .ok (.istore_n 2, 1) := by decide +kernel
theorem dX9_gives_37 : decode cX9_gives 37 = .ok (.aload 4, 2) := by decide +kernel
theorem dX9_gives_39 : decode cX9_gives 39 = .ok (.iload_n 1, 1) := by decide +kernel
theorem dX9_gives_40 : decode cX9_gives 40 = .ok (.invokevirtual 142, 3) := by decide +kernel
theorem dX9_gives_43 : decode cX9_gives 43 = .ok (.goto (-34), 3) := by decide +kernel
theorem dX9_gives_46 : decode cX9_gives 46 = .ok (.iload_n 2, 1) := by decide +kernel
theorem dX9_gives_47 : decode cX9_gives 47 = .ok (.ireturn, 1) := by decide +kernel
theorem dX9_isNoGiving_0 : decode cX9_isNoGiving 0 = .ok (.aload_n 0, 1) := by decide +kernel
theorem dX9_isNoGiving_1 : decode cX9_isNoGiving 1 = .ok (.aload_n 0, 1) := by decide +kernel
theorem dX9_isNoGiving_2 : decode cX9_isNoGiving 2 = .ok (.iload_n 1, 1) := by decide +kernel
theorem dX9_isNoGiving_3 : decode cX9_isNoGiving 3 = .ok (.invokevirtual 84, 3) := by decide +kernel
theorem dX9_isNoGiving_6 : decode cX9_isNoGiving 6 = .ok (.ifCond .eq 15, 3) := by decide +kernel
theorem dX9_isNoGiving_9 : decode cX9_isNoGiving 9 = .ok (.aload_n 0, 1) := by decide +kernel
theorem dX9_isNoGiving_10 : decode cX9_isNoGiving 10 = .ok (.iload_n 2, 1) := by decide +kernel
theorem dX9_isNoGiving_11 : decode cX9_isNoGiving 11 = .ok (.invokevirtual 84, 3) := by decide +kernel
theorem dX9_isNoGiving_14 : decode cX9_isNoGiving 14 = .ok (.ifCond .eq 7, 3) := by decide +kernel
theorem dX9_isNoGiving_17 : decode cX9_isNoGiving 17 = .ok (.iconst 0, 1) := by decide +kernel
theorem dX9_isNoGiving_18 : decode cX9_isNoGiving 18 = .ok (.goto 4, 3) := by decide +kernel
theorem dX9_isNoGiving_21 : decode cX9_isNoGiving 21 = .ok (.iconst 1, 1) := by decide +kernel
theorem dX9_isNoGiving_22 : decode cX9_isNoGiving 22 = .ok (.invokevirtual 80, 3) := by decide +kernel
theorem dX9_isNoGiving_25 : decode cX9_isNoGiving 25 = .ok (.ifCond .eq 5, 3) := by decide +kernel
theorem dX9_isNoGiving_28 : decode cX9_isNoGiving 28 = .ok (.iconst 1, 1) := by decide +kernel
theorem dX9_isNoGiving_29 : decode cX9_isNoGiving 29 = .ok (.ireturn, 1) := by decide +kernel
theorem dX9_isNoGiving_30 : decode cX9_isNoGiving 30 = .ok (.iload 5, 2) := by decide +kernel
theorem dX9_isNoGiving_32 : decode cX9_isNoGiving 32 = .ok (.ifCond .eq 44, 3) := by decide +kernel
theorem dX9_isNoGiving_35 : decode cX9_isNoGiving 35 = .ok (.aload_n 0, 1) := by decide +kernel
theorem dX9_isNoGiving_36 : decode cX9_isNoGiving 36 = .ok (.getfield 16, 3) := by decide +kernel
theorem dX9_isNoGiving_39 : decode cX9_isNoGiving 39 = .ok (.iload_n 2, 1) := by decide +kernel
theorem dX9_isNoGiving_40 : decode cX9_isNoGiving 40 = .ok (.invokeinterface 64 2, 5) := by decide +kernel
theorem dX9_isNoGiving_45 : decode cX9_isNoGiving 45 = .ok (.checkcast 45, 3) := by decide +kernel
theorem dX9_isNoGiving_48 : decode cX9_isNoGiving 48 = .ok (.invokevirtual 68, 3) := by decide +kernel
theorem dX9_isNoGiving_51 : decode cX9_isNoGiving 51 = .ok (.bipush 98, 2) := by decide +kernel
theorem dX9_isNoGiving_53 : decode cX9_isNoGiving 53 = .ok (.if_icmp .eq 23, 3) := by decide +kernel
theorem dX9_isNoGiving_56 : decode cX9_isNoGiving 56 = .ok (.aload_n 0, 1) := by decide +kernel
theorem dX9_isNoGiving_57 : decode cX9_isNoGiving 57 = .ok (.iload_n 2, 1) := by decide +kernel
theorem dX9_isNoGiving_58 : decode cX9_isNoGiving 58 = .ok (.invokevirtual 91, 3) := by decide +kernel
theorem dX9_isNoGiving_61 : decode cX9_isNoGiving 61 = .ok (.ifCond .eq 11, 3) := by decide +kernel
theorem dX9_isNoGiving_64 : decode cX9_isNoGiving 64 = .ok (.aload_n 0, 1) := by decide +kernel
theorem dX9_isNoGiving_65 : decode cX9_isNoGiving 65 = .ok (.iload_n 2, 1) := by decide +kernel
theorem dX9_isNoGiving_66 : decode cX9_isNoGiving 66 = .ok (.invokevirtual 146, 3) := by decide +kernel
theorem dX9_isNoGiving_69 : decode cX9_isNoGiving 69 = .ok (.ifCond .ne 7, 3) := by decide +kernel
theorem dX9_isNoGiving_72 : decode cX9_isNoGiving 72 = .ok (.iconst 1, 1) := by decide +kernel
theorem dX9_isNoGiving_73 : decode cX9_isNoGiving 73 = .ok (.goto 4, 3) := by decide +kernel
theorem dX9_isNoGiving_76 : decode cX9_isNoGiving 76 = .ok (.iconst 0, 1) := by decide +kernel
theorem dX9_isNoGiving_77 : decode cX9_isNoGiving 77 = .ok (.istore 6, 2) := by decide +kernel
theorem dX9_isNoGiving_79 : decode cX9_isNoGiving 79 = .ok (.aload_n 0, 1) := by decide +kernel
theorem dX9_isNoGiving_80 : decode cX9_isNoGiving 80 = .ok (.iload_n 3, 1) := by decide +kernel
theorem dX9_isNoGiving_81 : decode cX9_isNoGiving 81 = .ok (.invokestatic 87, 3) := by decide +kernel
theorem dX9_isNoGiving_84 : decode cX9_isNoGiving 84 = .ok (.ifCond .eq 24, 3) := by decide +kernel
theorem dX9_isNoGiving_87 : decode cX9_isNoGiving 87 = .ok (.iload 4, 2) := by decide +kernel
theorem dX9_isNoGiving_89 : decode cX9_isNoGiving 89 = .ok (.iconst 1, 1) := by decide +kernel
theorem dX9_isNoGiving_90 : decode cX9_isNoGiving 90 = .ok (.bipush 90, 2) := by decide +kernel
theorem dX9_isNoGiving_92 : decode cX9_isNoGiving 92 = .ok (.invokestatic 60, 3) := by decide +kernel
theorem dX9_isNoGiving_95 : decode cX9_isNoGiving 95 = .ok (.ifCond .eq 13, 3) := by decide +kernel
theorem dX9_isNoGiving_98 : decode cX9_isNoGiving 98 = .ok (.iload_n 1, 1) := by decide +kernel
theorem dX9_isNoGiving_99 : decode cX9_isNoGiving 99 = .ok (.iload_n 2, 1) := by decide +kernel
theorem dX9_isNoGiving_100 : decode cX9_isNoGiving 100 = .ok (.if_icmp .eq 8, 3) := by decide +kernel
theorem dX9_isNoGiving_103 : decode cX9_isNoGiving 103 = .ok (.iload 6, 2) := by decide +kernel
theorem dX9_isNoGiving_105 : decode cX9_isNoGiving 105 = .ok (.ifCond .eq 7, 3) := by decide +kernel
theorem dX9_isNoGiving_108 : decode cX9_isNoGiving 108 = .ok (.iconst 2, 1) := by decide +kernel
theorem dX9_isNoGiving_109 : decode cX9_isNoGiving 109 = .ok (.goto 24, 3) := by decide +kernel
theorem dX9_isNoGiving_112 : decode cX9_isNoGiving 112 = .ok (.aload_n 0, 1) := by decide +kernel
theorem dX9_isNoGiving_113 : decode cX9_isNoGiving 113 = .ok (.iload_n 1, 1) := by decide +kernel
theorem dX9_isNoGiving_114 : decode cX9_isNoGiving 114 = .ok (.invokevirtual 91, 3) := by decide +kernel
theorem dX9_isNoGiving_117 : decode cX9_isNoGiving 117 = .ok (.ifCond .ne 11, 3) := by decide +kernel
theorem dX9_isNoGiving_120 : decode cX9_isNoGiving 120 = .ok (.aload_n 0, 1) := by decide +kernel
theorem dX9_isNoGiving_121 : decode cX9_isNoGiving 121 = .ok (.iload_n 2, 1) := by decide +kernel
theorem dX9_isNoGiving_122 : decode cX9_isNoGiving 122 = .ok (.invokevirtual 91, 3) := by decide +kernel
theorem dX9_isNoGiving_125 : decode cX9_isNoGiving 125 = .ok (.ifCond .eq 7, 3) := by decide +kernel
theorem dX9_isNoGiving_128 : decode cX9_isNoGiving 128 = .ok (.iconst 3, 1) := by decide +kernel
theorem dX9_isNoGiving_129 : decode cX9_isNoGiving 129 = .ok (.goto 4, 3) := by decide +kernel
theorem dX9_isNoGiving_132 : decode cX9_isNoGiving 132 = .ok (.iconst 0, 1) := by decide +kernel
theorem dX9_isNoGiving_133 : decode cX9_isNoGiving 133 = .ok (.invokevirtual 80, 3) := by decide +kernel
theorem dX9_isNoGiving_136 : decode cX9_isNoGiving 136 = .ok (.ireturn, 1) := by decide +kernel
theorem dX9_wasBank_0 : decode cX9_wasBank 0 = .ok (.aload_n 0, 1) := by decide +kernel
theorem dX9_wasBank_1 : decode cX9_wasBank 1 = .ok (.iload_n 1, 1) := by decide +kernel
theorem dX9_wasBank_2 : decode cX9_wasBank 2 = .ok (.invokevirtual 91, 3) := by decide +kernel
theorem dX9_wasBank_5 : decode cX9_wasBank 5 = .ok (.ireturn, 1) := by decide +kernel
theorem dX9_pay_0 : decode cX9_pay 0 = .ok (.aload_n 0, 1) := by decide +kernel
theorem dX9_pay_1 : decode cX9_pay 1 = .ok (.iload_n 1, 1) := by decide +kernel
theorem dX9_pay_2 : decode cX9_pay 2 = .ok (.iload_n 2, 1) := by decide +kernel
theorem dX9_pay_3 : decode cX9_pay 3 = .ok (.iload_n 3, 1) := by decide +kernel
theorem dX9_pay_4 : decode cX9_pay 4 = .ok (.iload 4, 2) := by decide +kernel
theorem dX9_pay_6 : decode cX9_pay 6 = .ok (.iconst 0, 1) := by decide +kernel
theorem dX9_pay_7 : decode cX9_pay 7 = .ok (.invokevirtual 149, 3) := by decide +kernel
theorem dX9_pay_10 : decode cX9_pay 10 = .ok (.ifCond .eq 5, 3) := by decide +kernel
theorem dX9_pay_13 : decode cX9_pay 13 = .ok (.iconst 0, 1) := by decide +kernel
theorem dX9_pay_14 : decode cX9_pay 14 = .ok (.ireturn, 1) := by decide +kernel
theorem dX9_pay_15 : decode cX9_pay 15 = .ok (.aload_n 0, 1) := by decide +kernel
theorem dX9_pay_16 : decode cX9_pay 16 = .ok (.iload_n 1, 1) := by decide +kernel
theorem dX9_pay_17 : decode cX9_pay 17 = .ok (.ldc 72, 2) := by decide +kernel
theorem dX9_pay_19 : decode cX9_pay 19 = .ok (.iload_n 3, 1) := by decide +kernel
theorem dX9_pay_20 : decode cX9_pay 20 = .ok (.invokevirtual 74, 3) := by decide +kernel
theorem dX9_pay_23 : decode cX9_pay 23 = .ok (.iload 4, 2) := by decide +kernel
theorem dX9_pay_25 : decode cX9_pay 25 = .ok (.invokevirtual 153, 3) := by decide +kernel
theorem dX9_pay_28 : decode cX9_pay 28 = .ok (.astore 5, 2) := by decide +kernel
theorem dX9_pay_30 : decode cX9_pay 30 = .ok (.aload_n 0, 1) := by decide +kernel
theorem dX9_pay_31 : decode cX9_pay 31 = .ok (.aload 5, 2) := by decide +kernel
theorem dX9_pay_33 : decode cX9_pay 33 = .ok (.ifnonnull 7, 3) := by decide +kernel
theorem dX9_pay_36 : decode cX9_pay 36 = .ok (.iconst 4, 1) := by decide +kernel
theorem dX9_pay_37 : decode cX9_pay 37 = .ok (.goto 4, 3) := by decide +kernel
theorem dX9_pay_40 : decode cX9_pay 40 = .ok (.iconst 0, 1) := by decide +kernel
theorem dX9_pay_41 : decode cX9_pay 41 = .ok (.invokevirtual 80, 3) := by decide +kernel
theorem dX9_pay_44 : decode cX9_pay 44 = .ok (.ifCond .eq 7, 3) := by decide +kernel
theorem dX9_pay_47 : decode cX9_pay 47 = .ok (.iconst 0, 1) := by decide +kernel
theorem dX9_pay_48 : decode cX9_pay 48 = .ok (.goto 9, 3) := by decide +kernel
theorem dX9_pay_51 : decode cX9_pay 51 = .ok (.aload 5, 2) := by decide +kernel
theorem dX9_pay_53 : decode cX9_pay 53 = .ok (.iload_n 2, 1) := by decide +kernel
theorem dX9_pay_54 : decode cX9_pay 54 = .ok (.invokestatic 157, 3) := by decide +kernel
theorem dX9_pay_57 : decode cX9_pay 57 = .ok (.ireturn, 1) := by decide +kernel
theorem dX9_deposit_0 : decode cX9_deposit 0 = .ok (.aload_n 0, 1) := by decide +kernel
theorem dX9_deposit_1 : decode cX9_deposit 1 = .ok (.iload_n 1, 1) := by decide +kernel
theorem dX9_deposit_2 : decode cX9_deposit 2 = .ok (.iload_n 2, 1) := by decide +kernel
theorem dX9_deposit_3 : decode cX9_deposit 3 = .ok (.iload_n 3, 1) := by decide +kernel
theorem dX9_deposit_4 : decode cX9_deposit 4 = .ok (.iload 4, 2) := by decide +kernel
theorem dX9_deposit_6 : decode cX9_deposit 6 = .ok (.iconst 1, 1) := by decide +kernel
theorem dX9_deposit_7 : decode cX9_deposit 7 = .ok (.invokevirtual 149, 3) := by decide +kernel
theorem dX9_deposit_10 : decode cX9_deposit 10 = .ok (.ifCond .eq 5, 3) := by decide +kernel
theorem dX9_deposit_13 : decode cX9_deposit 13 = .ok (.iconst 0, 1) := by decide +kernel
theorem dX9_deposit_14 : decode cX9_deposit 14 = .ok (.ireturn, 1) := by decide +kernel
theorem dX9_deposit_15 : decode cX9_deposit 15 = .ok (.ldc 72, 2) := by decide +kernel
theorem dX9_deposit_17 : decode cX9_deposit 17 = .ok (.iload_n 3, 1) := by decide +kernel
theorem dX9_deposit_18 : decode cX9_deposit 18 = .ok (.invokevirtual 74, 3) := by decide +kernel
theorem dX9_deposit_21 : decode cX9_deposit 21 = .ok (.istore 5, 2) := by decide +kernel
theorem dX9_deposit_23 : decode cX9_deposit 23 = .ok (.aload_n 0, 1) := by decide +kernel
theorem dX9_deposit_24 : decode cX9_deposit 24 = .ok (.iload_n 1, 1) := by decide +kernel
theorem dX9_deposit_25 : decode cX9_deposit 25 = .ok (.iload 5, 2) := by decide +kernel
theorem dX9_deposit_27 : decode cX9_deposit 27 = .ok (.iload 4, 2) := by decide +kernel
theorem dX9_deposit_29 : decode cX9_deposit 29 = .ok (.invokevirtual 153, 3) := by decide +kernel
theorem dX9_deposit_32 : decode cX9_deposit 32 = .ok (.astore 6, 2) := by decide +kernel
theorem dX9_deposit_34 : decode cX9_deposit 34 = .ok (.aload_n 0, 1) := by decide +kernel
theorem dX9_deposit_35 : decode cX9_deposit 35 = .ok (.aload 6, 2) := by decide +kernel
theorem dX9_deposit_37 : decode cX9_deposit 37 = .ok (.ifnonnull 7, 3) := by decide +kernel
theorem dX9_deposit_40 : decode cX9_deposit 40 = .ok (.iconst 4, 1) := by decide +kernel
theorem dX9_deposit_41 : decode cX9_deposit 41 = .ok (.goto 4, 3) := by decide +kernel
theorem dX9_deposit_44 : decode cX9_deposit 44 = .ok (.iconst 0, 1) := by decide +kernel
theorem dX9_deposit_45 : decode cX9_deposit 45 = .ok (.invokevirtual 80, 3) := by decide +kernel
theorem dX9_deposit_48 : decode cX9_deposit 48 = .ok (.ifCond .eq 5, 3) := by decide +kernel
theorem dX9_deposit_51 : decode cX9_deposit 51 = .ok (.iconst 0, 1) := by decide +kernel
theorem dX9_deposit_52 : decode cX9_deposit 52 = .ok (.ireturn, 1) := by decide +kernel
theorem dX9_deposit_53 : decode cX9_deposit 53 = .ok (.aload 6, 2) := by decide +kernel
theorem dX9_deposit_55 : decode cX9_deposit 55 = .ok (.iload_n 2, 1) := by decide +kernel
theorem dX9_deposit_56 : decode cX9_deposit 56 = .ok (.invokestatic 157, 3) := by decide +kernel
theorem dX9_deposit_59 : decode cX9_deposit 59 = .ok (.pop, 1) := by decide +kernel
theorem dX9_deposit_60 : decode cX9_deposit 60 = .ok (.aload_n 0, 1) := by decide +kernel
theorem dX9_deposit_61 : decode cX9_deposit 61 = .ok (.getfield 35, 3) := by decide +kernel
theorem dX9_deposit_64 : decode cX9_deposit 64 = .ok (.iload_n 1, 1) := by decide +kernel
theorem dX9_deposit_65 : decode cX9_deposit 65 = .ok (.aaload, 1) := by decide +kernel
theorem dX9_deposit_66 : decode cX9_deposit 66 = .ok (.iload_n 2, 1) := by decide +kernel
theorem dX9_deposit_67 : decode cX9_deposit 67 = .ok (.dup2, 1) := by decide +kernel
theorem dX9_deposit_68 : decode cX9_deposit 68 = .ok (.iaload, 1) := by decide +kernel
theorem dX9_deposit_69 : decode cX9_deposit 69 = .ok (.iload 4, 2) := by decide +kernel
theorem dX9_deposit_71 : decode cX9_deposit 71 = .ok (.aload_n 0, 1) := by decide +kernel
theorem dX9_deposit_72 : decode cX9_deposit 72 = .ok (.getfield 20, 3) := by decide +kernel
theorem dX9_deposit_75 : decode cX9_deposit 75 = .ok (.iload 5, 2) := by decide +kernel
theorem dX9_deposit_77 : decode cX9_deposit 77 = .ok (.iaload, 1) := by decide +kernel
theorem dX9_deposit_78 : decode cX9_deposit 78 = .ok (.imul, 1) := by decide +kernel
theorem dX9_deposit_79 : decode cX9_deposit 79 = .ok (.iadd, 1) := by decide +kernel
theorem dX9_deposit_80 : decode cX9_deposit 80 = .ok (.iastore, 1) := by decide +kernel
theorem dX9_deposit_81 : decode cX9_deposit 81 = .ok (.aload_n 0, 1) := by decide +kernel
theorem dX9_deposit_82 : decode cX9_deposit 82 = .ok (.getfield 35, 3) := by decide +kernel
theorem dX9_deposit_85 : decode cX9_deposit 85 = .ok (.iload_n 1, 1) := by decide +kernel
theorem dX9_deposit_86 : decode cX9_deposit 86 = .ok (.aaload, 1) := by decide +kernel
theorem dX9_deposit_87 : decode cX9_deposit 87 = .ok (.iload_n 2, 1) := by decide +kernel
theorem dX9_deposit_88 : decode cX9_deposit 88 = .ok (.iaload, 1) := by decide +kernel
theorem dX9_deposit_89 : decode cX9_deposit 89 = .ok (.ireturn, 1) := by decide +kernel
theorem dX9_withdraw_0 : decode cX9_withdraw 0 = .ok (.aload_n 0, 1) := by decide +kernel
theorem dX9_withdraw_1 : decode cX9_withdraw 1 = .ok (.iload_n 1, 1) := by decide +kernel
theorem dX9_withdraw_2 : decode cX9_withdraw 2 = .ok (.iload_n 2, 1) := by decide +kernel
theorem dX9_withdraw_3 : decode cX9_withdraw 3 = .ok (.iload_n 3, 1) := by decide +kernel
theorem dX9_withdraw_4 : decode cX9_withdraw 4 = .ok (.iload 4, 2) := by decide +kernel
theorem dX9_withdraw_6 : decode cX9_withdraw 6 = .ok (.iconst 1, 1) := by decide +kernel
theorem dX9_withdraw_7 : decode cX9_withdraw 7 = .ok (.invokevirtual 149, 3) := by decide +kernel
theorem dX9_withdraw_10 : decode cX9_withdraw 10 = .ok (.ifCond .eq 5, 3) := by decide +kernel
theorem dX9_withdraw_13 : decode cX9_withdraw 13 = .ok (.iconst 0, 1) := by decide +kernel
theorem dX9_withdraw_14 : decode cX9_withdraw 14 = .ok (.ireturn, 1) := by decide +kernel
theorem dX9_withdraw_15 : decode cX9_withdraw 15 = .ok (.ldc 72, 2) := by decide +kernel
theorem dX9_withdraw_17 : decode cX9_withdraw 17 = .ok (.iload_n 3, 1) := by decide +kernel
theorem dX9_withdraw_18 : decode cX9_withdraw 18 = .ok (.invokevirtual 74, 3) := by decide +kernel
theorem dX9_withdraw_21 : decode cX9_withdraw 21 = .ok (.istore 5, 2) := by decide +kernel
theorem dX9_withdraw_23 : decode cX9_withdraw 23 = .ok (.aload_n 0, 1) := by decide +kernel
theorem dX9_withdraw_24 : decode cX9_withdraw 24 = .ok (.aload_n 0, 1) := by decide +kernel
theorem dX9_withdraw_25 : decode cX9_withdraw 25 = .ok (.getfield 35, 3) := by decide +kernel
theorem dX9_withdraw_28 : decode cX9_withdraw 28 = .ok (.iload_n 1, 1) := by decide +kernel
theorem dX9_withdraw_29 : decode cX9_withdraw 29 = .ok (.aaload, 1) := by decide +kernel
theorem dX9_withdraw_30 : decode cX9_withdraw 30 = .ok (.iload_n 2, 1) := by decide +kernel
theorem dX9_withdraw_31 : decode cX9_withdraw 31 = .ok (.iaload, 1) := by decide +kernel
theorem dX9_withdraw_32 : decode cX9_withdraw 32 = .ok (.iload 4, 2) := by decide +kernel
theorem dX9_withdraw_34 : decode cX9_withdraw 34 = .ok (.aload_n 0, 1) := by decide +kernel
theorem dX9_withdraw_35 : decode cX9_withdraw 35 = .ok (.getfield 20, 3) := by decide +kernel
theorem dX9_withdraw_38 : decode cX9_withdraw 38 = .ok (.iload 5, 2) := by decide +kernel
theorem dX9_withdraw_40 : decode cX9_withdraw 40 = .ok (.iaload, 1) := by decide +kernel
theorem dX9_withdraw_41 : decode cX9_withdraw 41 = .ok (.imul, 1) := by decide +kernel
theorem dX9_withdraw_42 : decode cX9_withdraw 42 = .ok (.if_icmp .ge 7, 3) := by decide +kernel
theorem dX9_withdraw_45 : decode cX9_withdraw 45 = .ok (.iconst 4, 1) := by decide +kernel
theorem dX9_withdraw_46 : decode cX9_withdraw 46 = .ok (.goto 4, 3) := by decide +kernel
theorem dX9_withdraw_49 : decode cX9_withdraw 49 = .ok (.iconst 0, 1) := by decide +kernel
theorem dX9_withdraw_50 : decode cX9_withdraw 50 = .ok (.invokevirtual 80, 3) := by decide +kernel
theorem dX9_withdraw_53 : decode cX9_withdraw 53 = .ok (.ifCond .eq 5, 3) := by decide +kernel
theorem dX9_withdraw_56 : decode cX9_withdraw 56 = .ok (.iconst 0, 1) := by decide +kernel
theorem dX9_withdraw_57 : decode cX9_withdraw 57 = .ok (.ireturn, 1) := by decide +kernel
theorem dX9_withdraw_58 : decode cX9_withdraw 58 = .ok (.aload_n 0, 1) := by decide +kernel
theorem dX9_withdraw_59 : decode cX9_withdraw 59 = .ok (.iload_n 2, 1) := by decide +kernel
theorem dX9_withdraw_60 : decode cX9_withdraw 60 = .ok (.iload 5, 2) := by decide +kernel
theorem dX9_withdraw_62 : decode cX9_withdraw 62 = .ok (.iload 4, 2) := by decide +kernel
theorem dX9_withdraw_64 : decode cX9_withdraw 64 = .ok (.invokevirtual 153, 3) := by decide +kernel
theorem dX9_withdraw_67 : decode cX9_withdraw 67 = .ok (.astore 6, 2) := by decide +kernel
theorem dX9_withdraw_69 : decode cX9_withdraw 69 = .ok (.aload 6, 2) := by decide +kernel
theorem dX9_withdraw_71 : decode cX9_withdraw 71 = .ok (.ifnonnull 11, 3) := by decide +kernel
theorem dX9_withdraw_74 : decode cX9_withdraw 74 = .ok (.aload_n 0, 1) := by decide +kernel
theorem dX9_withdraw_75 : decode cX9_withdraw 75 = .ok (.iload_n 2, 1) := by decide +kernel
theorem dX9_withdraw_76 : decode cX9_withdraw 76 = .ok (.invokevirtual 161, 3) := by decide +kernel
theorem dX9_withdraw_79 : decode cX9_withdraw 79 = .ok (.bipush 120, 2) := by decide +kernel
theorem dX9_withdraw_81 : decode cX9_withdraw 81 = .ok (.ireturn, 1) := by decide +kernel
theorem dX9_withdraw_82 : decode cX9_withdraw 82 = .ok (.aload 6, 2) := by decide +kernel
theorem dX9_withdraw_84 : decode cX9_withdraw 84 = .ok (.iload_n 1, 1) := by decide +kernel
theorem dX9_withdraw_85 : decode cX9_withdraw 85 = .ok (.invokestatic 157, 3) := by decide +kernel
theorem dX9_withdraw_88 : decode cX9_withdraw 88 = .ok (.pop, 1) := by decide +kernel
theorem dX9_withdraw_89 : decode cX9_withdraw 89 = .ok (.aload_n 0, 1) := by decide +kernel
theorem dX9_withdraw_90 : decode cX9_withdraw 90 = .ok (.getfield 35, 3) := by decide +kernel
theorem dX9_withdraw_93 : decode cX9_withdraw 93 = .ok (.iload_n 1, 1) := by decide +kernel
theorem dX9_withdraw_94 : decode cX9_withdraw 94 = .ok (.aaload, 1) := by decide +kernel
theorem dX9_withdraw_95 : decode cX9_withdraw 95 = .ok (.iload_n 2, 1) := by decide +kernel
theorem dX9_withdraw_96 : decode cX9_withdraw 96 = .ok (.dup2, 1) := by decide +kernel
theorem dX9_withdraw_97 : decode cX9_withdraw 97 = .ok (.iaload, 1) := by decide +kernel
theorem dX9_withdraw_98 : decode cX9_withdraw 98 = .ok (.iload 4, 2) := by decide +kernel
theorem dX9_withdraw_100 : decode cX9_withdraw 100 = .ok (.aload_n 0, 1) := by decide +kernel
theorem dX9_withdraw_101 : decode cX9_withdraw 101 = .ok (.getfield 20, 3) := by decide +kernel
theorem dX9_withdraw_104 : decode cX9_withdraw 104 = .ok (.iload 5, 2) := by decide +kernel
theorem dX9_withdraw_106 : decode cX9_withdraw 106 = .ok (.iaload, 1) := by decide +kernel
theorem dX9_withdraw_107 : decode cX9_withdraw 107 = .ok (.imul, 1) := by decide +kernel
theorem dX9_withdraw_108 : decode cX9_withdraw 108 = .ok (.isub, 1) := by decide +kernel
theorem dX9_withdraw_109 : decode cX9_withdraw 109 = .ok (.iastore, 1) := by decide +kernel
theorem dX9_withdraw_110 : decode cX9_withdraw 110 = .ok (.bipush 112, 2) := by decide +kernel
theorem dX9_withdraw_112 : decode cX9_withdraw 112 = .ok (.ireturn, 1) := by decide +kernel
theorem dX9_heaviest_0 : decode cX9_heaviest 0 = .ok (.aconst_null, 1) := by decide +kernel
theorem dX9_heaviest_1 : decode cX9_heaviest 1 = .ok (.astore_n 2, 1) := by decide +kernel
theorem dX9_heaviest_2 : decode cX9_heaviest 2 = .ok (.aload_n 0, 1) := by decide +kernel
theorem dX9_heaviest_3 : decode cX9_heaviest 3 = .ok (.getfield 32, 3) := by decide +kernel
theorem dX9_heaviest_6 : decode cX9_heaviest 6 = .ok (.invokeinterface 122 1, 5) := by decide +kernel
theorem dX9_heaviest_11 : decode cX9_heaviest 11 = .ok (.astore_n 3, 1) := by decide +kernel
theorem dX9_heaviest_12 : decode cX9_heaviest 12 = .ok (.aload_n 3, 1) := by decide +kernel
theorem dX9_heaviest_13 : decode cX9_heaviest 13 = .ok (.invokeinterface 126 1, 5) := by decide +kernel
theorem dX9_heaviest_18 : decode cX9_heaviest 18 = .ok (.ifCond .eq 81, 3) := by decide +kernel
theorem dX9_heaviest_21 : decode cX9_heaviest 21 = .ok (.aload_n 3, 1) := by decide +kernel
theorem dX9_heaviest_22 : decode cX9_heaviest 22 = .ok (.invokeinterface 132 1, 5) := by decide +kernel
theorem dX9_heaviest_27 : decode cX9_heaviest 27 = .ok (.checkcast 94, 3) := by decide +kernel
theorem dX9_heaviest_30 : decode cX9_heaviest 30 = .ok (.astore 4, 2) := by decide +kernel
theorem dX9_heaviest_32 : decode cX9_heaviest 32 = .ok (.aload_n 2, 1) := by decide +kernel
theorem dX9_heaviest_33 : decode cX9_heaviest 33 = .ok (.ifnull 39, 3) := by decide +kernel
theorem dX9_heaviest_36 : decode cX9_heaviest 36 = .ok (.aload 4, 2) := by decide +kernel
theorem dX9_heaviest_38 : decode cX9_heaviest 38 = .ok (.getfield 103, 3) := by decide +kernel
theorem dX9_heaviest_41 : decode cX9_heaviest 41 = .ok (.aload_n 2, 1) := by decide +kernel
theorem dX9_heaviest_42 : decode cX9_heaviest 42 = .ok (.getfield 103, 3) := by decide +kernel
theorem dX9_heaviest_45 : decode cX9_heaviest 45 = .ok (.if_icmp .gt 27, 3) := by decide +kernel
theorem dX9_heaviest_48 : decode cX9_heaviest 48 = .ok (.aload 4, 2) := by decide +kernel
theorem dX9_heaviest_50 : decode cX9_heaviest 50 = .ok (.getfield 103, 3) := by decide +kernel
theorem dX9_heaviest_53 : decode cX9_heaviest 53 = .ok (.aload_n 2, 1) := by decide +kernel
theorem dX9_heaviest_54 : decode cX9_heaviest 54 = .ok (.getfield 103, 3) := by decide +kernel
theorem dX9_heaviest_57 : decode cX9_heaviest 57 = .ok (.if_icmp .ne 19, 3) := by decide +kernel
theorem dX9_heaviest_60 : decode cX9_heaviest 60 = .ok (.aload 4, 2) := by decide +kernel
theorem dX9_heaviest_62 : decode cX9_heaviest 62 = .ok (.getfield 115, 3) := by decide +kernel
theorem dX9_heaviest_65 : decode cX9_heaviest 65 = .ok (.aload_n 2, 1) := by decide +kernel
theorem dX9_heaviest_66 : decode cX9_heaviest 66 = .ok (.getfield 115, 3) := by decide +kernel
theorem dX9_heaviest_69 : decode cX9_heaviest 69 = .ok (.if_icmp .ge 7, 3) := by decide +kernel
theorem dX9_heaviest_72 : decode cX9_heaviest 72 = .ok (.iconst 1, 1) := by decide +kernel
theorem dX9_heaviest_73 : decode cX9_heaviest 73 = .ok (.goto 4, 3) := by decide +kernel
theorem dX9_heaviest_76 : decode cX9_heaviest 76 = .ok (.iconst 0, 1) := by decide +kernel
theorem dX9_heaviest_77 : decode cX9_heaviest 77 = .ok (.istore 5, 2) := by decide +kernel
theorem dX9_heaviest_79 : decode cX9_heaviest 79 = .ok (.aload 4, 2) := by decide +kernel
theorem dX9_heaviest_81 : decode cX9_heaviest 81 = .ok (.getfield 112, 3) := by decide +kernel
theorem dX9_heaviest_84 : decode cX9_heaviest 84 = .ok (.iload_n 1, 1) := by decide +kernel
theorem dX9_heaviest_85 : decode cX9_heaviest 85 = .ok (.if_icmp .ne 11, 3) := by decide +kernel
theorem dX9_heaviest_88 : decode cX9_heaviest 88 = .ok (.iload 5, 2) := by decide +kernel
theorem dX9_heaviest_90 : decode cX9_heaviest 90 = .ok (.ifCond .eq 6, 3) := by decide +kernel
theorem dX9_heaviest_93 : decode cX9_heaviest 93 = .ok (.aload 4, 2) := by decide +kernel
theorem dX9_heaviest_95 : decode cX9_heaviest 95 = .ok (.astore_n 2, 1) := by decide +kernel
theorem dX9_heaviest_96 : decode cX9_heaviest 96 = .ok (.goto (-84), 3) := by decide +kernel
theorem dX9_heaviest_99 : decode cX9_heaviest 99 = .ok (.aload_n 2, 1) := by decide +kernel
theorem dX9_heaviest_100 : decode cX9_heaviest 100 = .ok (.areturn, 1) := by decide +kernel
theorem dX9_greatest_0 : decode cX9_greatest 0 = .ok (.iconst (-1), 1) := by decide +kernel
theorem dX9_greatest_1 : decode cX9_greatest 1 = .ok (.istore_n 2, 1) := by decide +kernel
theorem dX9_greatest_2 : decode cX9_greatest 2 = .ok (.iconst 0, 1) := by decide +kernel
theorem dX9_greatest_3 : decode cX9_greatest 3 = .ok (.istore_n 3, 1) := by decide +kernel
theorem dX9_greatest_4 : decode cX9_greatest 4 = .ok (.iload_n 3, 1) := by decide +kernel
theorem dX9_greatest_5 : decode cX9_greatest 5 = .ok (.aload_n 0, 1) := by decide +kernel
theorem dX9_greatest_6 : decode cX9_greatest 6 = .ok (.getfield 16, 3) := by decide +kernel
theorem dX9_greatest_9 : decode cX9_greatest 9 = .ok (.invokeinterface 56 1, 5) := by decide +kernel
theorem dX9_greatest_14 : decode cX9_greatest 14 = .ok (.if_icmp .ge 46, 3) := by decide +kernel
theorem dX9_greatest_17 : decode cX9_greatest 17 = .ok (.aload_n 0, 1) := by decide +kernel
theorem dX9_greatest_18 : decode cX9_greatest 18 = .ok (.getfield 35, 3) := by decide +kernel
theorem dX9_greatest_21 : decode cX9_greatest 21 = .ok (.iload_n 3, 1) := by decide +kernel
theorem dX9_greatest_22 : decode cX9_greatest 22 = .ok (.aaload, 1) := by decide +kernel
theorem dX9_greatest_23 : decode cX9_greatest 23 = .ok (.iload_n 1, 1) := by decide +kernel
theorem dX9_greatest_24 : decode cX9_greatest 24 = .ok (.iaload, 1) := by decide +kernel
theorem dX9_greatest_25 : decode cX9_greatest 25 = .ok (.ifCond .le 29, 3) := by decide +kernel
theorem dX9_greatest_28 : decode cX9_greatest 28 = .ok (.iload_n 2, 1) := by decide +kernel
theorem dX9_greatest_29 : decode cX9_greatest 29 = .ok (.iconst (-1), 1) := by decide +kernel
theorem dX9_greatest_30 : decode cX9_greatest 30 = .ok (.if_icmp .eq 22, 3) := by decide +kernel
theorem dX9_greatest_33 : decode cX9_greatest 33 = .ok (.aload_n 0, 1) := by decide +kernel
theorem dX9_greatest_34 : decode cX9_greatest 34 = .ok (.getfield 35, 3) := by decide +kernel
theorem dX9_greatest_37 : decode cX9_greatest 37 = .ok (.iload_n 3, 1) := by decide +kernel
theorem dX9_greatest_38 : decode cX9_greatest 38 = .ok (.aaload, 1) := by decide +kernel
theorem dX9_greatest_39 : decode cX9_greatest 39 = .ok (.iload_n 1, 1) := by decide +kernel
theorem dX9_greatest_40 : decode cX9_greatest 40 = .ok (.iaload, 1) := by decide +kernel
theorem dX9_greatest_41 : decode cX9_greatest 41 = .ok (.aload_n 0, 1) := by decide +kernel
theorem dX9_greatest_42 : decode cX9_greatest 42 = .ok (.getfield 35, 3) := by decide +kernel
theorem dX9_greatest_45 : decode cX9_greatest 45 = .ok (.iload_n 2, 1) := by decide +kernel
theorem dX9_greatest_46 : decode cX9_greatest 46 = .ok (.aaload, 1) := by decide +kernel
theorem dX9_greatest_47 : decode cX9_greatest 47 = .ok (.iload_n 1, 1) := by decide +kernel
theorem dX9_greatest_48 : decode cX9_greatest 48 = .ok (.iaload, 1) := by decide +kernel
theorem dX9_greatest_49 : decode cX9_greatest 49 = .ok (.if_icmp .le 5, 3) := by decide +kernel
theorem dX9_greatest_52 : decode cX9_greatest 52 = .ok (.iload_n 3, 1) := by decide +kernel
theorem dX9_greatest_53 : decode cX9_greatest 53 = .ok (.istore_n 2, 1) := by decide +kernel
theorem dX9_greatest_54 : decode cX9_greatest 54 = .ok (.iinc 3 1, 3) := by decide +kernel
theorem dX9_greatest_57 : decode cX9_greatest 57 = .ok (.goto (-53), 3) := by decide +kernel
theorem dX9_greatest_60 : decode cX9_greatest 60 = .ok (.iload_n 2, 1) := by decide +kernel
theorem dX9_greatest_61 : decode cX9_greatest 61 = .ok (.ireturn, 1) := by decide +kernel
theorem dX9_fails_0 : decode cX9_fails 0 = .ok (.aload_n 0, 1) := by decide +kernel
theorem dX9_fails_1 : decode cX9_fails 1 = .ok (.getfield 16, 3) := by decide +kernel
theorem dX9_fails_4 : decode cX9_fails 4 = .ok (.iload_n 1, 1) := by decide +kernel
theorem dX9_fails_5 : decode cX9_fails 5 = .ok (.bipush 120, 2) := by decide +kernel
theorem dX9_fails_7 : decode cX9_fails 7 = .ok (.invokestatic 44, 3) := by decide +kernel
theorem dX9_fails_10 : decode cX9_fails 10 = .ok (.invokeinterface 164 3, 5) := by decide +kernel
theorem dX9_fails_15 : decode cX9_fails 15 = .ok (.pop, 1) := by decide +kernel
theorem dX9_fails_16 : decode cX9_fails 16 = .ok (.aload_n 0, 1) := by decide +kernel
theorem dX9_fails_17 : decode cX9_fails 17 = .ok (.iload_n 1, 1) := by decide +kernel
theorem dX9_fails_18 : decode cX9_fails 18 = .ok (.invokevirtual 168, 3) := by decide +kernel
theorem dX9_fails_21 : decode cX9_fails 21 = .ok (.astore_n 2, 1) := by decide +kernel
theorem dX9_fails_22 : decode cX9_fails 22 = .ok (.aload_n 2, 1) := by decide +kernel
theorem dX9_fails_23 : decode cX9_fails 23 = .ok (.ifnull 61, 3) := by decide +kernel
theorem dX9_fails_26 : decode cX9_fails 26 = .ok (.aload_n 0, 1) := by decide +kernel
theorem dX9_fails_27 : decode cX9_fails 27 = .ok (.iload_n 1, 1) := by decide +kernel
theorem dX9_fails_28 : decode cX9_fails 28 = .ok (.invokevirtual 172, 3) := by decide +kernel
theorem dX9_fails_31 : decode cX9_fails 31 = .ok (.istore_n 3, 1) := by decide +kernel
theorem dX9_fails_32 : decode cX9_fails 32 = .ok (.aload_n 2, 1) := by decide +kernel
theorem dX9_fails_33 : decode cX9_fails 33 = .ok (.iconst 0, 1) := by decide +kernel
theorem dX9_fails_34 : decode cX9_fails 34 = .ok (.iload_n 3, 1) := by decide +kernel
theorem dX9_fails_35 : decode cX9_fails 35 = .ok (.invokestatic 175, 3) := by decide +kernel
theorem dX9_fails_38 : decode cX9_fails 38 = .ok (.invokevirtual 142, 3) := by decide +kernel
theorem dX9_fails_41 : decode cX9_fails 41 = .ok (.iload_n 3, 1) := by decide +kernel
theorem dX9_fails_42 : decode cX9_fails 42 = .ok (.ifCond .lt 33, 3) := by decide +kernel
theorem dX9_fails_45 : decode cX9_fails 45 = .ok (.aload_n 0, 1) := by decide +kernel
theorem dX9_fails_46 : decode cX9_fails 46 = .ok (.getfield 35, 3) := by decide +kernel
theorem dX9_fails_49 : decode cX9_fails 49 = .ok (.iload_n 3, 1) := by decide +kernel
theorem dX9_fails_50 : decode cX9_fails 50 = .ok (.aaload, 1) := by decide +kernel
theorem dX9_fails_51 : decode cX9_fails 51 = .ok (.iload_n 1, 1) := by decide +kernel
theorem dX9_fails_52 : decode cX9_fails 52 = .ok (.iconst 0, 1) := by decide +kernel
theorem dX9_fails_53 : decode cX9_fails 53 = .ok (.aload_n 0, 1) := by decide +kernel
theorem dX9_fails_54 : decode cX9_fails 54 = .ok (.getfield 35, 3) := by decide +kernel
theorem dX9_fails_57 : decode cX9_fails 57 = .ok (.iload_n 3, 1) := by decide +kernel
theorem dX9_fails_58 : decode cX9_fails 58 = .ok (.aaload, 1) := by decide +kernel
theorem dX9_fails_59 : decode cX9_fails 59 = .ok (.iload_n 1, 1) := by decide +kernel
theorem dX9_fails_60 : decode cX9_fails 60 = .ok (.iaload, 1) := by decide +kernel
theorem dX9_fails_61 : decode cX9_fails 61 = .ok (.aload_n 0, 1) := by decide +kernel
theorem dX9_fails_62 : decode cX9_fails 62 = .ok (.getfield 20, 3) := by decide +kernel
theorem dX9_fails_65 : decode cX9_fails 65 = .ok (.aload_n 2, 1) := by decide +kernel
theorem dX9_fails_66 : decode cX9_fails 66 = .ok (.getfield 115, 3) := by decide +kernel
theorem dX9_fails_69 : decode cX9_fails 69 = .ok (.iaload, 1) := by decide +kernel
theorem dX9_fails_70 : decode cX9_fails 70 = .ok (.isub, 1) := by decide +kernel
theorem dX9_fails_71 : decode cX9_fails 71 = .ok (.invokestatic 175, 3) := by decide +kernel
theorem dX9_fails_74 : decode cX9_fails 74 = .ok (.iastore, 1) := by decide +kernel
theorem dX9_fails_75 : decode cX9_fails 75 = .ok (.aload_n 0, 1) := by decide +kernel
theorem dX9_fails_76 : decode cX9_fails 76 = .ok (.iload_n 1, 1) := by decide +kernel
theorem dX9_fails_77 : decode cX9_fails 77 = .ok (.invokevirtual 168, 3) := by decide +kernel
theorem dX9_fails_80 : decode cX9_fails 80 = .ok (.astore_n 2, 1) := by decide +kernel
theorem dX9_fails_81 : decode cX9_fails 81 = .ok (.goto (-59), 3) := by decide +kernel
theorem dX9_fails_84 : decode cX9_fails 84 = .ok (.iconst 0, 1) := by decide +kernel
theorem dX9_fails_85 : decode cX9_fails 85 = .ok (.istore_n 2, 1) := by decide +kernel
theorem dX9_fails_86 : decode cX9_fails 86 = .ok (.iload_n 2, 1) := by decide +kernel
theorem dX9_fails_87 : decode cX9_fails 87 = .ok (.aload_n 0, 1) := by decide +kernel
theorem dX9_fails_88 : decode cX9_fails 88 = .ok (.getfield 16, 3) := by decide +kernel
theorem dX9_fails_91 : decode cX9_fails 91 = .ok (.invokeinterface 56 1, 5) := by decide +kernel
theorem dX9_fails_96 : decode cX9_fails 96 = .ok (.if_icmp .ge 36, 3) := by decide +kernel
theorem dX9_fails_99 : decode cX9_fails 99 = .ok (.aload_n 0, 1) := by decide +kernel
theorem dX9_fails_100 : decode cX9_fails 100 = .ok (.dup, 1) := by decide +kernel
theorem dX9_fails_101 : decode cX9_fails 101 = .ok (.getfield 178, 3) := by decide +kernel
theorem dX9_fails_104 : decode cX9_fails 104 = .ok (.aload_n 0, 1) := by decide +kernel
theorem dX9_fails_105 : decode cX9_fails 105 = .ok (.getfield 35, 3) := by decide +kernel
theorem dX9_fails_108 : decode cX9_fails 108 = .ok (.iload_n 2, 1) := by decide +kernel
theorem dX9_fails_109 : decode cX9_fails 109 = .ok (.aaload, 1) := by decide +kernel
theorem dX9_fails_110 : decode cX9_fails 110 = .ok (.iload_n 1, 1) := by decide +kernel
theorem dX9_fails_111 : decode cX9_fails 111 = .ok (.iaload, 1) := by decide +kernel
theorem dX9_fails_112 : decode cX9_fails 112 = .ok (.i2l, 1) := by decide +kernel
theorem dX9_fails_113 : decode cX9_fails 113 = .ok (.ladd, 1) := by decide +kernel
theorem dX9_fails_114 : decode cX9_fails 114 = .ok (.putfield 178, 3) := by decide +kernel
theorem dX9_fails_117 : decode cX9_fails 117 = .ok (.aload_n 0, 1) := by decide +kernel
theorem dX9_fails_118 : decode cX9_fails 118 = .ok (.getfield 35, 3) := by decide +kernel
theorem dX9_fails_121 : decode cX9_fails 121 = .ok (.iload_n 2, 1) := by decide +kernel
theorem dX9_fails_122 : decode cX9_fails 122 = .ok (.aaload, 1) := by decide +kernel
theorem dX9_fails_123 : decode cX9_fails 123 = .ok (.iload_n 1, 1) := by decide +kernel
theorem dX9_fails_124 : decode cX9_fails 124 = .ok (.iconst 0, 1) := by decide +kernel
theorem dX9_fails_125 : decode cX9_fails 125 = .ok (.iastore, 1) := by decide +kernel
theorem dX9_fails_126 : decode cX9_fails 126 = .ok (.iinc 2 1, 3) := by decide +kernel
theorem dX9_fails_129 : decode cX9_fails 129 = .ok (.goto (-43), 3) := by decide +kernel
theorem dX9_fails_132 : decode cX9_fails 132 = .ok (.iconst 0, 1) := by decide +kernel
theorem dX9_fails_133 : decode cX9_fails 133 = .ok (.istore_n 2, 1) := by decide +kernel
theorem dX9_fails_134 : decode cX9_fails 134 = .ok (.iload_n 2, 1) := by decide +kernel
theorem dX9_fails_135 : decode cX9_fails 135 = .ok (.aload_n 0, 1) := by decide +kernel
theorem dX9_fails_136 : decode cX9_fails 136 = .ok (.getfield 16, 3) := by decide +kernel
theorem dX9_fails_139 : decode cX9_fails 139 = .ok (.invokeinterface 56 1, 5) := by decide +kernel
theorem dX9_fails_144 : decode cX9_fails 144 = .ok (.if_icmp .ge 45, 3) := by decide +kernel
theorem dX9_fails_147 : decode cX9_fails 147 = .ok (.aload_n 0, 1) := by decide +kernel
theorem dX9_fails_148 : decode cX9_fails 148 = .ok (.getfield 35, 3) := by decide +kernel
theorem dX9_fails_151 : decode cX9_fails 151 = .ok (.iconst 0, 1) := by decide +kernel
theorem dX9_fails_152 : decode cX9_fails 152 = .ok (.aaload, 1) := by decide +kernel
theorem dX9_fails_153 : decode cX9_fails 153 = .ok (.iload_n 2, 1) := by decide +kernel
theorem dX9_fails_154 : decode cX9_fails 154 = .ok (.dup2, 1) := by decide +kernel
theorem dX9_fails_155 : decode cX9_fails 155 = .ok (.iaload, 1) := by decide +kernel
theorem dX9_fails_156 : decode cX9_fails 156 = .ok (.iload_n 2, 1) := by decide +kernel
theorem dX9_fails_157 : decode cX9_fails 157 = .ok (.ifCond .ne 7, 3) := by decide +kernel
theorem dX9_fails_160 : decode cX9_fails 160 = .ok (.iconst 0, 1) := by decide +kernel
theorem dX9_fails_161 : decode cX9_fails 161 = .ok (.goto 11, 3) := by decide +kernel
theorem dX9_fails_164 : decode cX9_fails 164 = .ok (.aload_n 0, 1) := by decide +kernel
theorem dX9_fails_165 : decode cX9_fails 165 = .ok (.getfield 35, 3) := by decide +kernel
theorem dX9_fails_168 : decode cX9_fails 168 = .ok (.iload_n 1, 1) := by decide +kernel
theorem dX9_fails_169 : decode cX9_fails 169 = .ok (.aaload, 1) := by decide +kernel
theorem dX9_fails_170 : decode cX9_fails 170 = .ok (.iload_n 2, 1) := by decide +kernel
theorem dX9_fails_171 : decode cX9_fails 171 = .ok (.iaload, 1) := by decide +kernel
theorem dX9_fails_172 : decode cX9_fails 172 = .ok (.iadd, 1) := by decide +kernel
theorem dX9_fails_173 : decode cX9_fails 173 = .ok (.iastore, 1) := by decide +kernel
theorem dX9_fails_174 : decode cX9_fails 174 = .ok (.aload_n 0, 1) := by decide +kernel
theorem dX9_fails_175 : decode cX9_fails 175 = .ok (.getfield 35, 3) := by decide +kernel
theorem dX9_fails_178 : decode cX9_fails 178 = .ok (.iload_n 1, 1) := by decide +kernel
theorem dX9_fails_179 : decode cX9_fails 179 = .ok (.aaload, 1) := by decide +kernel
theorem dX9_fails_180 : decode cX9_fails 180 = .ok (.iload_n 2, 1) := by decide +kernel
theorem dX9_fails_181 : decode cX9_fails 181 = .ok (.iconst 0, 1) := by decide +kernel
theorem dX9_fails_182 : decode cX9_fails 182 = .ok (.iastore, 1) := by decide +kernel
theorem dX9_fails_183 : decode cX9_fails 183 = .ok (.iinc 2 1, 3) := by decide +kernel
theorem dX9_fails_186 : decode cX9_fails 186 = .ok (.goto (-52), 3) := by decide +kernel
theorem dX9_fails_189 : decode cX9_fails 189 = .ok (.iconst 0, 1) := by decide +kernel
theorem dX9_fails_190 : decode cX9_fails 190 = .ok (.istore_n 2, 1) := by decide +kernel
theorem dX9_fails_191 : decode cX9_fails 191 = .ok (.iload_n 2, 1) := by decide +kernel
theorem dX9_fails_192 : decode cX9_fails 192 = .ok (.iconst 2, 1) := by decide +kernel
theorem dX9_fails_193 : decode cX9_fails 193 = .ok (.if_icmp .ge 37, 3) := by decide +kernel
theorem dX9_fails_196 : decode cX9_fails 196 = .ok (.aload_n 0, 1) := by decide +kernel
theorem dX9_fails_197 : decode cX9_fails 197 = .ok (.getfield 29, 3) := by decide +kernel
theorem dX9_fails_200 : decode cX9_fails 200 = .ok (.iconst 0, 1) := by decide +kernel
theorem dX9_fails_201 : decode cX9_fails 201 = .ok (.aaload, 1) := by decide +kernel
theorem dX9_fails_202 : decode cX9_fails 202 = .ok (.iload_n 2, 1) := by decide +kernel
theorem dX9_fails_203 : decode cX9_fails 203 = .ok (.dup2, 1) := by decide +kernel
theorem dX9_fails_204 : decode cX9_fails 204 = .ok (.iaload, 1) := by decide +kernel
theorem dX9_fails_205 : decode cX9_fails 205 = .ok (.aload_n 0, 1) := by decide +kernel
theorem dX9_fails_206 : decode cX9_fails 206 = .ok (.getfield 29, 3) := by decide +kernel
theorem dX9_fails_209 : decode cX9_fails 209 = .ok (.iload_n 1, 1) := by decide +kernel
theorem dX9_fails_210 : decode cX9_fails 210 = .ok (.aaload, 1) := by decide +kernel
theorem dX9_fails_211 : decode cX9_fails 211 = .ok (.iload_n 2, 1) := by decide +kernel
theorem dX9_fails_212 : decode cX9_fails 212 = .ok (.iaload, 1) := by decide +kernel
theorem dX9_fails_213 : decode cX9_fails 213 = .ok (.iadd, 1) := by decide +kernel
theorem dX9_fails_214 : decode cX9_fails 214 = .ok (.iastore, 1) := by decide +kernel
theorem dX9_fails_215 : decode cX9_fails 215 = .ok (.aload_n 0, 1) := by decide +kernel
theorem dX9_fails_216 : decode cX9_fails 216 = .ok (.getfield 29, 3) := by decide +kernel
theorem dX9_fails_219 : decode cX9_fails 219 = .ok (.iload_n 1, 1) := by decide +kernel
theorem dX9_fails_220 : decode cX9_fails 220 = .ok (.aaload, 1) := by decide +kernel
theorem dX9_fails_221 : decode cX9_fails 221 = .ok (.iload_n 2, 1) := by decide +kernel
theorem dX9_fails_222 : decode cX9_fails 222 = .ok (.iconst 0, 1) := by decide +kernel
theorem dX9_fails_223 : decode cX9_fails 223 = .ok (.iastore, 1) := by decide +kernel
theorem dX9_fails_224 : decode cX9_fails 224 = .ok (.iinc 2 1, 3) := by decide +kernel
theorem dX9_fails_227 : decode cX9_fails 227 = .ok (.goto (-36), 3) := by decide +kernel
theorem dX9_fails_230 : decode cX9_fails 230 = .ok (.return_, 1) := by decide +kernel
theorem dX9_lend_0 : decode cX9_lend 0 = .ok (.aload_n 0, 1) := by decide +kernel
theorem dX9_lend_1 : decode cX9_lend 1 = .ok (.aload_n 0, 1) := by decide +kernel
theorem dX9_lend_2 : decode cX9_lend 2 = .ok (.iload_n 1, 1) := by decide +kernel
theorem dX9_lend_3 : decode cX9_lend 3 = .ok (.invokevirtual 84, 3) := by decide +kernel
theorem dX9_lend_6 : decode cX9_lend 6 = .ok (.ifCond .eq 15, 3) := by decide +kernel
theorem dX9_lend_9 : decode cX9_lend 9 = .ok (.aload_n 0, 1) := by decide +kernel
theorem dX9_lend_10 : decode cX9_lend 10 = .ok (.iload_n 2, 1) := by decide +kernel
theorem dX9_lend_11 : decode cX9_lend 11 = .ok (.invokevirtual 84, 3) := by decide +kernel
theorem dX9_lend_14 : decode cX9_lend 14 = .ok (.ifCond .eq 7, 3) := by decide +kernel
theorem dX9_lend_17 : decode cX9_lend 17 = .ok (.iconst 0, 1) := by decide +kernel
theorem dX9_lend_18 : decode cX9_lend 18 = .ok (.goto 4, 3) := by decide +kernel
theorem dX9_lend_21 : decode cX9_lend 21 = .ok (.iconst 1, 1) := by decide +kernel
theorem dX9_lend_22 : decode cX9_lend 22 = .ok (.invokevirtual 80, 3) := by decide +kernel
theorem dX9_lend_25 : decode cX9_lend 25 = .ok (.ifCond .eq 5, 3) := by decide +kernel
theorem dX9_lend_28 : decode cX9_lend 28 = .ok (.iconst 0, 1) := by decide +kernel
theorem dX9_lend_29 : decode cX9_lend 29 = .ok (.ireturn, 1) := by decide +kernel
theorem dX9_lend_30 : decode cX9_lend 30 = .ok (.aload_n 0, 1) := by decide +kernel
theorem dX9_lend_31 : decode cX9_lend 31 = .ok (.getfield 16, 3) := by decide +kernel
theorem dX9_lend_34 : decode cX9_lend 34 = .ok (.iload_n 1, 1) := by decide +kernel
theorem dX9_lend_35 : decode cX9_lend 35 = .ok (.invokeinterface 64 2, 5) := by decide +kernel
theorem dX9_lend_40 : decode cX9_lend 40 = .ok (.checkcast 45, 3) := by decide +kernel
theorem dX9_lend_43 : decode cX9_lend 43 = .ok (.invokevirtual 68, 3) := by decide +kernel
theorem dX9_lend_46 : decode cX9_lend 46 = .ok (.bipush 98, 2) := by decide +kernel
theorem dX9_lend_48 : decode cX9_lend 48 = .ok (.if_icmp .eq 11, 3) := by decide +kernel
theorem dX9_lend_51 : decode cX9_lend 51 = .ok (.aload_n 0, 1) := by decide +kernel
theorem dX9_lend_52 : decode cX9_lend 52 = .ok (.iload_n 1, 1) := by decide +kernel
theorem dX9_lend_53 : decode cX9_lend 53 = .ok (.invokevirtual 146, 3) := by decide +kernel
theorem dX9_lend_56 : decode cX9_lend 56 = .ok (.ifCond .eq 7, 3) := by decide +kernel
theorem dX9_lend_59 : decode cX9_lend 59 = .ok (.iconst 1, 1) := by decide +kernel
theorem dX9_lend_60 : decode cX9_lend 60 = .ok (.goto 4, 3) := by decide +kernel
theorem dX9_lend_63 : decode cX9_lend 63 = .ok (.iconst 0, 1) := by decide +kernel
theorem dX9_lend_64 : decode cX9_lend 64 = .ok (.istore 4, 2) := by decide +kernel
theorem dX9_lend_66 : decode cX9_lend 66 = .ok (.aload_n 0, 1) := by decide +kernel
theorem dX9_lend_67 : decode cX9_lend 67 = .ok (.iload_n 3, 1) := by decide +kernel
theorem dX9_lend_68 : decode cX9_lend 68 = .ok (.iconst 1, 1) := by decide +kernel
theorem dX9_lend_69 : decode cX9_lend 69 = .ok (.sipush 9999, 3) := by decide +kernel
theorem dX9_lend_72 : decode cX9_lend 72 = .ok (.invokestatic 60, 3) := by decide +kernel
theorem dX9_lend_75 : decode cX9_lend 75 = .ok (.ifCond .eq 13, 3) := by decide +kernel
theorem dX9_lend_78 : decode cX9_lend 78 = .ok (.iload_n 1, 1) := by decide +kernel
theorem dX9_lend_79 : decode cX9_lend 79 = .ok (.iload_n 2, 1) := by decide +kernel
theorem dX9_lend_80 : decode cX9_lend 80 = .ok (.if_icmp .eq 8, 3) := by decide +kernel
theorem dX9_lend_83 : decode cX9_lend 83 = .ok (.iload 4, 2) := by decide +kernel
theorem dX9_lend_85 : decode cX9_lend 85 = .ok (.ifCond .ne 7, 3) := by decide +kernel
theorem dX9_lend_88 : decode cX9_lend 88 = .ok (.iconst 2, 1) := by decide +kernel
theorem dX9_lend_89 : decode cX9_lend 89 = .ok (.goto 24, 3) := by decide +kernel
theorem dX9_lend_92 : decode cX9_lend 92 = .ok (.aload_n 0, 1) := by decide +kernel
theorem dX9_lend_93 : decode cX9_lend 93 = .ok (.iload_n 1, 1) := by decide +kernel
theorem dX9_lend_94 : decode cX9_lend 94 = .ok (.invokevirtual 91, 3) := by decide +kernel
theorem dX9_lend_97 : decode cX9_lend 97 = .ok (.ifCond .ne 11, 3) := by decide +kernel
theorem dX9_lend_100 : decode cX9_lend 100 = .ok (.aload_n 0, 1) := by decide +kernel
theorem dX9_lend_101 : decode cX9_lend 101 = .ok (.iload_n 2, 1) := by decide +kernel
theorem dX9_lend_102 : decode cX9_lend 102 = .ok (.invokevirtual 91, 3) := by decide +kernel
theorem dX9_lend_105 : decode cX9_lend 105 = .ok (.ifCond .eq 7, 3) := by decide +kernel
theorem dX9_lend_108 : decode cX9_lend 108 = .ok (.iconst 3, 1) := by decide +kernel
theorem dX9_lend_109 : decode cX9_lend 109 = .ok (.goto 4, 3) := by decide +kernel
theorem dX9_lend_112 : decode cX9_lend 112 = .ok (.iconst 0, 1) := by decide +kernel
theorem dX9_lend_113 : decode cX9_lend 113 = .ok (.invokevirtual 80, 3) := by decide +kernel
theorem dX9_lend_116 : decode cX9_lend 116 = .ok (.ifCond .eq 5, 3) := by decide +kernel
theorem dX9_lend_119 : decode cX9_lend 119 = .ok (.iconst 0, 1) := by decide +kernel
theorem dX9_lend_120 : decode cX9_lend 120 = .ok (.ireturn, 1) := by decide +kernel
theorem dX9_lend_121 : decode cX9_lend 121 = .ok (.aload_n 0, 1) := by decide +kernel
theorem dX9_lend_122 : decode cX9_lend 122 = .ok (.getfield 35, 3) := by decide +kernel
theorem dX9_lend_125 : decode cX9_lend 125 = .ok (.iload_n 2, 1) := by decide +kernel
theorem dX9_lend_126 : decode cX9_lend 126 = .ok (.aaload, 1) := by decide +kernel
theorem dX9_lend_127 : decode cX9_lend 127 = .ok (.iload_n 1, 1) := by decide +kernel
theorem dX9_lend_128 : decode cX9_lend 128 = .ok (.dup2, 1) := by decide +kernel
theorem dX9_lend_129 : decode cX9_lend 129 = .ok (.iaload, 1) := by decide +kernel
theorem dX9_lend_130 : decode cX9_lend 130 = .ok (.iload_n 3, 1) := by decide +kernel
theorem dX9_lend_131 : decode cX9_lend 131 = .ok (.iadd, 1) := by decide +kernel
theorem dX9_lend_132 : decode cX9_lend 132 = .ok (.iastore, 1) := by decide +kernel
theorem dX9_lend_133 : decode cX9_lend 133 = .ok (.aload_n 0, 1) := by decide +kernel
theorem dX9_lend_134 : decode cX9_lend 134 = .ok (.getfield 35, 3) := by decide +kernel
theorem dX9_lend_137 : decode cX9_lend 137 = .ok (.iload_n 1, 1) := by decide +kernel
theorem dX9_lend_138 : decode cX9_lend 138 = .ok (.aaload, 1) := by decide +kernel
theorem dX9_lend_139 : decode cX9_lend 139 = .ok (.iload_n 2, 1) := by decide +kernel
theorem dX9_lend_140 : decode cX9_lend 140 = .ok (.dup2, 1) := by decide +kernel
theorem dX9_lend_141 : decode cX9_lend 141 = .ok (.iaload, 1) := by decide +kernel
theorem dX9_lend_142 : decode cX9_lend 142 = .ok (.iload_n 3, 1) := by decide +kernel
theorem dX9_lend_143 : decode cX9_lend 143 = .ok (.iadd, 1) := by decide +kernel
theorem dX9_lend_144 : decode cX9_lend 144 = .ok (.iastore, 1) := by decide +kernel
theorem dX9_lend_145 : decode cX9_lend 145 = .ok (.aload_n 0, 1) := by decide +kernel
theorem dX9_lend_146 : decode cX9_lend 146 = .ok (.getfield 35, 3) := by decide +kernel
theorem dX9_lend_149 : decode cX9_lend 149 = .ok (.iload_n 2, 1) := by decide +kernel
theorem dX9_lend_150 : decode cX9_lend 150 = .ok (.aaload, 1) := by decide +kernel
theorem dX9_lend_151 : decode cX9_lend 151 = .ok (.iload_n 1, 1) := by decide +kernel
theorem dX9_lend_152 : decode cX9_lend 152 = .ok (.iaload, 1) := by decide +kernel
theorem dX9_lend_153 : decode cX9_lend 153 = .ok (.ireturn, 1) := by decide +kernel
theorem dX9_hand_0 : decode cX9_hand 0 = .ok (.aload_n 0, 1) := by decide +kernel
theorem dX9_hand_1 : decode cX9_hand 1 = .ok (.aload_n 0, 1) := by decide +kernel
theorem dX9_hand_2 : decode cX9_hand 2 = .ok (.iload_n 1, 1) := by decide +kernel
theorem dX9_hand_3 : decode cX9_hand 3 = .ok (.invokevirtual 84, 3) := by decide +kernel
theorem dX9_hand_6 : decode cX9_hand 6 = .ok (.ifCond .eq 23, 3) := by decide +kernel
theorem dX9_hand_9 : decode cX9_hand 9 = .ok (.aload_n 0, 1) := by decide +kernel
theorem dX9_hand_10 : decode cX9_hand 10 = .ok (.iload_n 2, 1) := by decide +kernel
theorem dX9_hand_11 : decode cX9_hand 11 = .ok (.invokevirtual 84, 3) := by decide +kernel
theorem dX9_hand_14 : decode cX9_hand 14 = .ok (.ifCond .eq 15, 3) := by decide +kernel
theorem dX9_hand_17 : decode cX9_hand 17 = .ok (.aload_n 0, 1) := by decide +kernel
theorem dX9_hand_18 : decode cX9_hand 18 = .ok (.iload_n 3, 1) := by decide +kernel
theorem dX9_hand_19 : decode cX9_hand 19 = .ok (.invokevirtual 84, 3) := by decide +kernel
theorem dX9_hand_22 : decode cX9_hand 22 = .ok (.ifCond .eq 7, 3) := by decide +kernel
theorem dX9_hand_25 : decode cX9_hand 25 = .ok (.iconst 0, 1) := by decide +kernel
theorem dX9_hand_26 : decode cX9_hand 26 = .ok (.goto 4, 3) := by decide +kernel
theorem dX9_hand_29 : decode cX9_hand 29 = .ok (.iconst 1, 1) := by decide +kernel
theorem dX9_hand_30 : decode cX9_hand 30 = .ok (.invokevirtual 80, 3) := by decide +kernel
theorem dX9_hand_33 : decode cX9_hand 33 = .ok (.ifCond .eq 5, 3) := by decide +kernel
theorem dX9_hand_36 : decode cX9_hand 36 = .ok (.iconst 0, 1) := by decide +kernel
theorem dX9_hand_37 : decode cX9_hand 37 = .ok (.ireturn, 1) := by decide +kernel
theorem dX9_hand_38 : decode cX9_hand 38 = .ok (.aload_n 0, 1) := by decide +kernel
theorem dX9_hand_39 : decode cX9_hand 39 = .ok (.getfield 16, 3) := by decide +kernel
theorem dX9_hand_42 : decode cX9_hand 42 = .ok (.iload_n 3, 1) := by decide +kernel
theorem dX9_hand_43 : decode cX9_hand 43 = .ok (.invokeinterface 64 2, 5) := by decide +kernel
theorem dX9_hand_48 : decode cX9_hand 48 = .ok (.checkcast 45, 3) := by decide +kernel
theorem dX9_hand_51 : decode cX9_hand 51 = .ok (.invokevirtual 68, 3) := by decide +kernel
theorem dX9_hand_54 : decode cX9_hand 54 = .ok (.bipush 98, 2) := by decide +kernel
theorem dX9_hand_56 : decode cX9_hand 56 = .ok (.if_icmp .eq 11, 3) := by decide +kernel
theorem dX9_hand_59 : decode cX9_hand 59 = .ok (.aload_n 0, 1) := by decide +kernel
theorem dX9_hand_60 : decode cX9_hand 60 = .ok (.iload_n 3, 1) := by decide +kernel
theorem dX9_hand_61 : decode cX9_hand 61 = .ok (.invokevirtual 146, 3) := by decide +kernel
theorem dX9_hand_64 : decode cX9_hand 64 = .ok (.ifCond .eq 7, 3) := by decide +kernel
theorem dX9_hand_67 : decode cX9_hand 67 = .ok (.iconst 1, 1) := by decide +kernel
theorem dX9_hand_68 : decode cX9_hand 68 = .ok (.goto 4, 3) := by decide +kernel
theorem dX9_hand_71 : decode cX9_hand 71 = .ok (.iconst 0, 1) := by decide +kernel
theorem dX9_hand_72 : decode cX9_hand 72 = .ok (.istore 5, 2) := by decide +kernel
theorem dX9_hand_74 : decode cX9_hand 74 = .ok (.aload_n 0, 1) := by decide +kernel
theorem dX9_hand_75 : decode cX9_hand 75 = .ok (.iload_n 1, 1) := by decide +kernel
theorem dX9_hand_76 : decode cX9_hand 76 = .ok (.invokevirtual 91, 3) := by decide +kernel
theorem dX9_hand_79 : decode cX9_hand 79 = .ok (.ifCond .ne 19, 3) := by decide +kernel
theorem dX9_hand_82 : decode cX9_hand 82 = .ok (.aload_n 0, 1) := by decide +kernel
theorem dX9_hand_83 : decode cX9_hand 83 = .ok (.iload_n 2, 1) := by decide +kernel
theorem dX9_hand_84 : decode cX9_hand 84 = .ok (.invokevirtual 91, 3) := by decide +kernel
theorem dX9_hand_87 : decode cX9_hand 87 = .ok (.ifCond .ne 11, 3) := by decide +kernel
theorem dX9_hand_90 : decode cX9_hand 90 = .ok (.aload_n 0, 1) := by decide +kernel
theorem dX9_hand_91 : decode cX9_hand 91 = .ok (.iload_n 3, 1) := by decide +kernel
theorem dX9_hand_92 : decode cX9_hand 92 = .ok (.invokevirtual 91, 3) := by decide +kernel
theorem dX9_hand_95 : decode cX9_hand 95 = .ok (.ifCond .eq 7, 3) := by decide +kernel
theorem dX9_hand_98 : decode cX9_hand 98 = .ok (.iconst 1, 1) := by decide +kernel
theorem dX9_hand_99 : decode cX9_hand 99 = .ok (.goto 4, 3) := by decide +kernel
theorem dX9_hand_102 : decode cX9_hand 102 = .ok (.iconst 0, 1) := by decide +kernel
theorem dX9_hand_103 : decode cX9_hand 103 = .ok (.istore 6, 2) := by decide +kernel
theorem dX9_hand_105 : decode cX9_hand 105 = .ok (.aload_n 0, 1) := by decide +kernel
theorem dX9_hand_106 : decode cX9_hand 106 = .ok (.iload 4, 2) := by decide +kernel
theorem dX9_hand_108 : decode cX9_hand 108 = .ok (.iconst 1, 1) := by decide +kernel
theorem dX9_hand_109 : decode cX9_hand 109 = .ok (.sipush 9999, 3) := by decide +kernel
theorem dX9_hand_112 : decode cX9_hand 112 = .ok (.invokestatic 60, 3) := by decide +kernel
theorem dX9_hand_115 : decode cX9_hand 115 = .ok (.ifCond .eq 23, 3) := by decide +kernel
theorem dX9_hand_118 : decode cX9_hand 118 = .ok (.iload_n 1, 1) := by decide +kernel
theorem dX9_hand_119 : decode cX9_hand 119 = .ok (.iload_n 2, 1) := by decide +kernel
theorem dX9_hand_120 : decode cX9_hand 120 = .ok (.if_icmp .eq 18, 3) := by decide +kernel
theorem dX9_hand_123 : decode cX9_hand 123 = .ok (.iload_n 1, 1) := by decide +kernel
theorem dX9_hand_124 : decode cX9_hand 124 = .ok (.iload_n 3, 1) := by decide +kernel
theorem dX9_hand_125 : decode cX9_hand 125 = .ok (.if_icmp .eq 13, 3) := by decide +kernel
theorem dX9_hand_128 : decode cX9_hand 128 = .ok (.iload_n 2, 1) := by decide +kernel
theorem dX9_hand_129 : decode cX9_hand 129 = .ok (.iload_n 3, 1) := by decide +kernel
theorem dX9_hand_130 : decode cX9_hand 130 = .ok (.if_icmp .eq 8, 3) := by decide +kernel
theorem dX9_hand_133 : decode cX9_hand 133 = .ok (.iload 5, 2) := by decide +kernel
theorem dX9_hand_135 : decode cX9_hand 135 = .ok (.ifCond .ne 7, 3) := by decide +kernel
theorem dX9_hand_138 : decode cX9_hand 138 = .ok (.iconst 2, 1) := by decide +kernel
theorem dX9_hand_139 : decode cX9_hand 139 = .ok (.goto 30, 3) := by decide +kernel
theorem dX9_hand_142 : decode cX9_hand 142 = .ok (.iload 6, 2) := by decide +kernel
theorem dX9_hand_144 : decode cX9_hand 144 = .ok (.ifCond .eq 7, 3) := by decide +kernel
theorem dX9_hand_147 : decode cX9_hand 147 = .ok (.iconst 3, 1) := by decide +kernel
theorem dX9_hand_148 : decode cX9_hand 148 = .ok (.goto 21, 3) := by decide +kernel
theorem dX9_hand_151 : decode cX9_hand 151 = .ok (.aload_n 0, 1) := by decide +kernel
theorem dX9_hand_152 : decode cX9_hand 152 = .ok (.getfield 35, 3) := by decide +kernel
theorem dX9_hand_155 : decode cX9_hand 155 = .ok (.iload_n 1, 1) := by decide +kernel
theorem dX9_hand_156 : decode cX9_hand 156 = .ok (.aaload, 1) := by decide +kernel
theorem dX9_hand_157 : decode cX9_hand 157 = .ok (.iload_n 3, 1) := by decide +kernel
theorem dX9_hand_158 : decode cX9_hand 158 = .ok (.iaload, 1) := by decide +kernel
theorem dX9_hand_159 : decode cX9_hand 159 = .ok (.iload 4, 2) := by decide +kernel
theorem dX9_hand_161 : decode cX9_hand 161 = .ok (.if_icmp .ge 7, 3) := by decide +kernel
theorem dX9_hand_164 : decode cX9_hand 164 = .ok (.iconst 4, 1) := by decide +kernel
theorem dX9_hand_165 : decode cX9_hand 165 = .ok (.goto 4, 3) := by decide +kernel
theorem dX9_hand_168 : decode cX9_hand 168 = .ok (.iconst 0, 1) := by decide +kernel
theorem dX9_hand_169 : decode cX9_hand 169 = .ok (.invokevirtual 80, 3) := by decide +kernel
theorem dX9_hand_172 : decode cX9_hand 172 = .ok (.ifCond .eq 5, 3) := by decide +kernel
theorem dX9_hand_175 : decode cX9_hand 175 = .ok (.iconst 0, 1) := by decide +kernel
theorem dX9_hand_176 : decode cX9_hand 176 = .ok (.ireturn, 1) := by decide +kernel
theorem dX9_hand_177 : decode cX9_hand 177 = .ok (.aload_n 0, 1) := by decide +kernel
theorem dX9_hand_178 : decode cX9_hand 178 = .ok (.getfield 35, 3) := by decide +kernel
theorem dX9_hand_181 : decode cX9_hand 181 = .ok (.iload_n 1, 1) := by decide +kernel
theorem dX9_hand_182 : decode cX9_hand 182 = .ok (.aaload, 1) := by decide +kernel
theorem dX9_hand_183 : decode cX9_hand 183 = .ok (.iload_n 3, 1) := by decide +kernel
theorem dX9_hand_184 : decode cX9_hand 184 = .ok (.dup2, 1) := by decide +kernel
theorem dX9_hand_185 : decode cX9_hand 185 = .ok (.iaload, 1) := by decide +kernel
theorem dX9_hand_186 : decode cX9_hand 186 = .ok (.iload 4, 2) := by decide +kernel
theorem dX9_hand_188 : decode cX9_hand 188 = .ok (.isub, 1) := by decide +kernel
theorem dX9_hand_189 : decode cX9_hand 189 = .ok (.iastore, 1) := by decide +kernel
theorem dX9_hand_190 : decode cX9_hand 190 = .ok (.aload_n 0, 1) := by decide +kernel
theorem dX9_hand_191 : decode cX9_hand 191 = .ok (.getfield 35, 3) := by decide +kernel
theorem dX9_hand_194 : decode cX9_hand 194 = .ok (.iload_n 2, 1) := by decide +kernel
theorem dX9_hand_195 : decode cX9_hand 195 = .ok (.aaload, 1) := by decide +kernel
theorem dX9_hand_196 : decode cX9_hand 196 = .ok (.iload_n 3, 1) := by decide +kernel
theorem dX9_hand_197 : decode cX9_hand 197 = .ok (.dup2, 1) := by decide +kernel
theorem dX9_hand_198 : decode cX9_hand 198 = .ok (.iaload, 1) := by decide +kernel
theorem dX9_hand_199 : decode cX9_hand 199 = .ok (.iload 4, 2) := by decide +kernel
theorem dX9_hand_201 : decode cX9_hand 201 = .ok (.iadd, 1) := by decide +kernel
theorem dX9_hand_202 : decode cX9_hand 202 = .ok (.iastore, 1) := by decide +kernel
theorem dX9_hand_203 : decode cX9_hand 203 = .ok (.aload_n 0, 1) := by decide +kernel
theorem dX9_hand_204 : decode cX9_hand 204 = .ok (.getfield 35, 3) := by decide +kernel
theorem dX9_hand_207 : decode cX9_hand 207 = .ok (.iload_n 1, 1) := by decide +kernel
theorem dX9_hand_208 : decode cX9_hand 208 = .ok (.aaload, 1) := by decide +kernel
theorem dX9_hand_209 : decode cX9_hand 209 = .ok (.iload_n 3, 1) := by decide +kernel
theorem dX9_hand_210 : decode cX9_hand 210 = .ok (.iaload, 1) := by decide +kernel
theorem dX9_hand_211 : decode cX9_hand 211 = .ok (.ireturn, 1) := by decide +kernel
theorem dX9_forgive_0 : decode cX9_forgive 0 = .ok (.aload_n 0, 1) := by decide +kernel
theorem dX9_forgive_1 : decode cX9_forgive 1 = .ok (.aload_n 0, 1) := by decide +kernel
theorem dX9_forgive_2 : decode cX9_forgive 2 = .ok (.iload_n 1, 1) := by decide +kernel
theorem dX9_forgive_3 : decode cX9_forgive 3 = .ok (.invokevirtual 84, 3) := by decide +kernel
theorem dX9_forgive_6 : decode cX9_forgive 6 = .ok (.ifCond .eq 11, 3) := by decide +kernel
theorem dX9_forgive_9 : decode cX9_forgive 9 = .ok (.aload_n 0, 1) := by decide +kernel
theorem dX9_forgive_10 : decode cX9_forgive 10 = .ok (.iload_n 2, 1) := by decide +kernel
theorem dX9_forgive_11 : decode cX9_forgive 11 = .ok (.invokevirtual 84, 3) := by decide +kernel
theorem dX9_forgive_14 : decode cX9_forgive 14 = .ok (.ifCond .ne 7, 3) := by decide +kernel
theorem dX9_forgive_17 : decode cX9_forgive 17 = .ok (.iconst 1, 1) := by decide +kernel
theorem dX9_forgive_18 : decode cX9_forgive 18 = .ok (.goto 35, 3) := by decide +kernel
theorem dX9_forgive_21 : decode cX9_forgive 21 = .ok (.iload_n 3, 1) := by decide +kernel
theorem dX9_forgive_22 : decode cX9_forgive 22 = .ok (.iconst 1, 1) := by decide +kernel
theorem dX9_forgive_23 : decode cX9_forgive 23 = .ok (.sipush 9999, 3) := by decide +kernel
theorem dX9_forgive_26 : decode cX9_forgive 26 = .ok (.invokestatic 60, 3) := by decide +kernel
theorem dX9_forgive_29 : decode cX9_forgive 29 = .ok (.ifCond .ne 7, 3) := by decide +kernel
theorem dX9_forgive_32 : decode cX9_forgive 32 = .ok (.iconst 2, 1) := by decide +kernel
theorem dX9_forgive_33 : decode cX9_forgive 33 = .ok (.goto 20, 3) := by decide +kernel
theorem dX9_forgive_36 : decode cX9_forgive 36 = .ok (.aload_n 0, 1) := by decide +kernel
theorem dX9_forgive_37 : decode cX9_forgive 37 = .ok (.getfield 35, 3) := by decide +kernel
theorem dX9_forgive_40 : decode cX9_forgive 40 = .ok (.iload_n 1, 1) := by decide +kernel
theorem dX9_forgive_41 : decode cX9_forgive 41 = .ok (.aaload, 1) := by decide +kernel
theorem dX9_forgive_42 : decode cX9_forgive 42 = .ok (.iload_n 2, 1) := by decide +kernel
theorem dX9_forgive_43 : decode cX9_forgive 43 = .ok (.iaload, 1) := by decide +kernel
theorem dX9_forgive_44 : decode cX9_forgive 44 = .ok (.iload_n 3, 1) := by decide +kernel
theorem dX9_forgive_45 : decode cX9_forgive 45 = .ok (.if_icmp .ge 7, 3) := by decide +kernel
theorem dX9_forgive_48 : decode cX9_forgive 48 = .ok (.iconst 3, 1) := by decide +kernel
theorem dX9_forgive_49 : decode cX9_forgive 49 = .ok (.goto 4, 3) := by decide +kernel
theorem dX9_forgive_52 : decode cX9_forgive 52 = .ok (.iconst 0, 1) := by decide +kernel
theorem dX9_forgive_53 : decode cX9_forgive 53 = .ok (.invokevirtual 80, 3) := by decide +kernel
theorem dX9_forgive_56 : decode cX9_forgive 56 = .ok (.ifCond .eq 5, 3) := by decide +kernel
theorem dX9_forgive_59 : decode cX9_forgive 59 = .ok (.iconst 0, 1) := by decide +kernel
theorem dX9_forgive_60 : decode cX9_forgive 60 = .ok (.ireturn, 1) := by decide +kernel
theorem dX9_forgive_61 : decode cX9_forgive 61 = .ok (.aload_n 0, 1) := by decide +kernel
theorem dX9_forgive_62 : decode cX9_forgive 62 = .ok (.getfield 35, 3) := by decide +kernel
theorem dX9_forgive_65 : decode cX9_forgive 65 = .ok (.iload_n 1, 1) := by decide +kernel
theorem dX9_forgive_66 : decode cX9_forgive 66 = .ok (.aaload, 1) := by decide +kernel
theorem dX9_forgive_67 : decode cX9_forgive 67 = .ok (.iload_n 2, 1) := by decide +kernel
theorem dX9_forgive_68 : decode cX9_forgive 68 = .ok (.dup2, 1) := by decide +kernel
theorem dX9_forgive_69 : decode cX9_forgive 69 = .ok (.iaload, 1) := by decide +kernel
theorem dX9_forgive_70 : decode cX9_forgive 70 = .ok (.iload_n 3, 1) := by decide +kernel
theorem dX9_forgive_71 : decode cX9_forgive 71 = .ok (.isub, 1) := by decide +kernel
theorem dX9_forgive_72 : decode cX9_forgive 72 = .ok (.iastore, 1) := by decide +kernel
theorem dX9_forgive_73 : decode cX9_forgive 73 = .ok (.aload_n 0, 1) := by decide +kernel
theorem dX9_forgive_74 : decode cX9_forgive 74 = .ok (.getfield 35, 3) := by decide +kernel
theorem dX9_forgive_77 : decode cX9_forgive 77 = .ok (.iload_n 1, 1) := by decide +kernel
theorem dX9_forgive_78 : decode cX9_forgive 78 = .ok (.aaload, 1) := by decide +kernel
theorem dX9_forgive_79 : decode cX9_forgive 79 = .ok (.iload_n 2, 1) := by decide +kernel
theorem dX9_forgive_80 : decode cX9_forgive 80 = .ok (.iaload, 1) := by decide +kernel
theorem dX9_forgive_81 : decode cX9_forgive 81 = .ok (.ireturn, 1) := by decide +kernel
theorem dX9_claim_0 : decode cX9_claim 0 = .ok (.aload_n 0, 1) := by decide +kernel
theorem dX9_claim_1 : decode cX9_claim 1 = .ok (.aload_n 0, 1) := by decide +kernel
theorem dX9_claim_2 : decode cX9_claim 2 = .ok (.iload_n 1, 1) := by decide +kernel
theorem dX9_claim_3 : decode cX9_claim 3 = .ok (.invokevirtual 84, 3) := by decide +kernel
theorem dX9_claim_6 : decode cX9_claim 6 = .ok (.ifCond .eq 15, 3) := by decide +kernel
theorem dX9_claim_9 : decode cX9_claim 9 = .ok (.aload_n 0, 1) := by decide +kernel
theorem dX9_claim_10 : decode cX9_claim 10 = .ok (.iload_n 2, 1) := by decide +kernel
theorem dX9_claim_11 : decode cX9_claim 11 = .ok (.invokevirtual 84, 3) := by decide +kernel
theorem dX9_claim_14 : decode cX9_claim 14 = .ok (.ifCond .eq 7, 3) := by decide +kernel
theorem dX9_claim_17 : decode cX9_claim 17 = .ok (.iconst 0, 1) := by decide +kernel
theorem dX9_claim_18 : decode cX9_claim 18 = .ok (.goto 4, 3) := by decide +kernel
theorem dX9_claim_21 : decode cX9_claim 21 = .ok (.iconst 1, 1) := by decide +kernel
theorem dX9_claim_22 : decode cX9_claim 22 = .ok (.invokevirtual 80, 3) := by decide +kernel
theorem dX9_claim_25 : decode cX9_claim 25 = .ok (.ifCond .eq 7, 3) := by decide +kernel
theorem dX9_claim_28 : decode cX9_claim 28 = .ok (.iconst 0, 1) := by decide +kernel
theorem dX9_claim_29 : decode cX9_claim 29 = .ok (.goto 11, 3) := by decide +kernel
theorem dX9_claim_32 : decode cX9_claim 32 = .ok (.aload_n 0, 1) := by decide +kernel
theorem dX9_claim_33 : decode cX9_claim 33 = .ok (.getfield 35, 3) := by decide +kernel
theorem dX9_claim_36 : decode cX9_claim 36 = .ok (.iload_n 1, 1) := by decide +kernel
theorem dX9_claim_37 : decode cX9_claim 37 = .ok (.aaload, 1) := by decide +kernel
theorem dX9_claim_38 : decode cX9_claim 38 = .ok (.iload_n 2, 1) := by decide +kernel
theorem dX9_claim_39 : decode cX9_claim 39 = .ok (.iaload, 1) := by decide +kernel
theorem dX9_claim_40 : decode cX9_claim 40 = .ok (.ireturn, 1) := by decide +kernel
theorem dX9_draw_0 : decode cX9_draw 0 = .ok (.aload_n 0, 1) := by decide +kernel
theorem dX9_draw_1 : decode cX9_draw 1 = .ok (.aload_n 0, 1) := by decide +kernel
theorem dX9_draw_2 : decode cX9_draw 2 = .ok (.iload_n 1, 1) := by decide +kernel
theorem dX9_draw_3 : decode cX9_draw 3 = .ok (.invokevirtual 84, 3) := by decide +kernel
theorem dX9_draw_6 : decode cX9_draw 6 = .ok (.ifCond .eq 15, 3) := by decide +kernel
theorem dX9_draw_9 : decode cX9_draw 9 = .ok (.aload_n 0, 1) := by decide +kernel
theorem dX9_draw_10 : decode cX9_draw 10 = .ok (.iload_n 2, 1) := by decide +kernel
theorem dX9_draw_11 : decode cX9_draw 11 = .ok (.invokevirtual 84, 3) := by decide +kernel
theorem dX9_draw_14 : decode cX9_draw 14 = .ok (.ifCond .eq 7, 3) := by decide +kernel
theorem dX9_draw_17 : decode cX9_draw 17 = .ok (.iconst 0, 1) := by decide +kernel
theorem dX9_draw_18 : decode cX9_draw 18 = .ok (.goto 4, 3) := by decide +kernel
theorem dX9_draw_21 : decode cX9_draw 21 = .ok (.iconst 1, 1) := by decide +kernel
theorem dX9_draw_22 : decode cX9_draw 22 = .ok (.invokevirtual 80, 3) := by decide +kernel
theorem dX9_draw_25 : decode cX9_draw 25 = .ok (.ifCond .eq 5, 3) := by decide +kernel
theorem dX9_draw_28 : decode cX9_draw 28 = .ok (.iconst 0, 1) := by decide +kernel
theorem dX9_draw_29 : decode cX9_draw 29 = .ok (.ireturn, 1) := by decide +kernel
theorem dX9_draw_30 : decode cX9_draw 30 = .ok (.aload_n 0, 1) := by decide +kernel
theorem dX9_draw_31 : decode cX9_draw 31 = .ok (.iload_n 3, 1) := by decide +kernel
theorem dX9_draw_32 : decode cX9_draw 32 = .ok (.iconst 1, 1) := by decide +kernel
theorem dX9_draw_33 : decode cX9_draw 33 = .ok (.sipush 9999, 3) := by decide +kernel
theorem dX9_draw_36 : decode cX9_draw 36 = .ok (.invokestatic 60, 3) := by decide +kernel
theorem dX9_draw_39 : decode cX9_draw 39 = .ok (.ifCond .eq 19, 3) := by decide +kernel
theorem dX9_draw_42 : decode cX9_draw 42 = .ok (.iload 4, 2) := by decide +kernel
theorem dX9_draw_44 : decode cX9_draw 44 = .ok (.iconst 1, 1) := by decide +kernel
theorem dX9_draw_45 : decode cX9_draw 45 = .ok (.bipush 9, 2) := by decide +kernel
theorem dX9_draw_47 : decode cX9_draw 47 = .ok (.invokestatic 60, 3) := by decide +kernel
theorem dX9_draw_50 : decode cX9_draw 50 = .ok (.ifCond .eq 8, 3) := by decide +kernel
theorem dX9_draw_53 : decode cX9_draw 53 = .ok (.iload_n 1, 1) := by decide +kernel
theorem dX9_draw_54 : decode cX9_draw 54 = .ok (.iload_n 2, 1) := by decide +kernel
theorem dX9_draw_55 : decode cX9_draw 55 = .ok (.if_icmp .ne 7, 3) := by decide +kernel
theorem dX9_draw_58 : decode cX9_draw 58 = .ok (.iconst 2, 1) := by decide +kernel
theorem dX9_draw_59 : decode cX9_draw 59 = .ok (.goto 42, 3) := by decide +kernel
theorem dX9_draw_62 : decode cX9_draw 62 = .ok (.aload_n 0, 1) := by decide +kernel
theorem dX9_draw_63 : decode cX9_draw 63 = .ok (.iload_n 1, 1) := by decide +kernel
theorem dX9_draw_64 : decode cX9_draw 64 = .ok (.invokevirtual 91, 3) := by decide +kernel
theorem dX9_draw_67 : decode cX9_draw 67 = .ok (.ifCond .ne 11, 3) := by decide +kernel
theorem dX9_draw_70 : decode cX9_draw 70 = .ok (.aload_n 0, 1) := by decide +kernel
theorem dX9_draw_71 : decode cX9_draw 71 = .ok (.iload_n 2, 1) := by decide +kernel
theorem dX9_draw_72 : decode cX9_draw 72 = .ok (.invokevirtual 91, 3) := by decide +kernel
theorem dX9_draw_75 : decode cX9_draw 75 = .ok (.ifCond .eq 7, 3) := by decide +kernel
theorem dX9_draw_78 : decode cX9_draw 78 = .ok (.iconst 3, 1) := by decide +kernel
theorem dX9_draw_79 : decode cX9_draw 79 = .ok (.goto 22, 3) := by decide +kernel
theorem dX9_draw_82 : decode cX9_draw 82 = .ok (.aload_n 0, 1) := by decide +kernel
theorem dX9_draw_83 : decode cX9_draw 83 = .ok (.getfield 38, 3) := by decide +kernel
theorem dX9_draw_86 : decode cX9_draw 86 = .ok (.invokeinterface 56 1, 5) := by decide +kernel
theorem dX9_draw_91 : decode cX9_draw 91 = .ok (.bipush 12, 2) := by decide +kernel
theorem dX9_draw_93 : decode cX9_draw 93 = .ok (.if_icmp .ne 7, 3) := by decide +kernel
theorem dX9_draw_96 : decode cX9_draw 96 = .ok (.iconst 4, 1) := by decide +kernel
theorem dX9_draw_97 : decode cX9_draw 97 = .ok (.goto 4, 3) := by decide +kernel
theorem dX9_draw_100 : decode cX9_draw 100 = .ok (.iconst 0, 1) := by decide +kernel
theorem dX9_draw_101 : decode cX9_draw 101 = .ok (.invokevirtual 80, 3) := by decide +kernel
theorem dX9_draw_104 : decode cX9_draw 104 = .ok (.ifCond .eq 5, 3) := by decide +kernel
theorem dX9_draw_107 : decode cX9_draw 107 = .ok (.iconst 0, 1) := by decide +kernel
theorem dX9_draw_108 : decode cX9_draw 108 = .ok (.ireturn, 1) := by decide +kernel
theorem dX9_draw_109 : decode cX9_draw 109 = .ok (.aload_n 0, 1) := by decide +kernel
theorem dX9_draw_110 : decode cX9_draw 110 = .ok (.getfield 38, 3) := by decide +kernel
theorem dX9_draw_113 : decode cX9_draw 113 = .ok (.new 182, 3) := by decide +kernel
theorem dX9_draw_116 : decode cX9_draw 116 = .ok (.dup, 1) := by decide +kernel
theorem dX9_draw_117 : decode cX9_draw 117 = .ok (.iload_n 1, 1) := by decide +kernel
theorem dX9_draw_118 : decode cX9_draw 118 = .ok (.iload_n 2, 1) := by decide +kernel
theorem dX9_draw_119 : decode cX9_draw 119 = .ok (.iload_n 3, 1) := by decide +kernel
theorem dX9_draw_120 : decode cX9_draw 120 = .ok (.aload_n 0, 1) := by decide +kernel
theorem dX9_draw_121 : decode cX9_draw 121 = .ok (.getfield 184, 3) := by decide +kernel
theorem dX9_draw_124 : decode cX9_draw 124 = .ok (.iload 4, 2) := by decide +kernel
theorem dX9_draw_126 : decode cX9_draw 126 = .ok (.iadd, 1) := by decide +kernel
theorem dX9_draw_127 : decode cX9_draw 127 = .ok (.invokespecial 187, 3) := by decide +kernel
theorem dX9_draw_130 : decode cX9_draw 130 = .ok (.invokeinterface 50 2, 5) := by decide +kernel
theorem dX9_draw_135 : decode cX9_draw 135 = .ok (.pop, 1) := by decide +kernel
theorem dX9_draw_136 : decode cX9_draw 136 = .ok (.aload_n 0, 1) := by decide +kernel
theorem dX9_draw_137 : decode cX9_draw 137 = .ok (.getfield 38, 3) := by decide +kernel
theorem dX9_draw_140 : decode cX9_draw 140 = .ok (.invokeinterface 56 1, 5) := by decide +kernel
theorem dX9_draw_145 : decode cX9_draw 145 = .ok (.iconst 1, 1) := by decide +kernel
theorem dX9_draw_146 : decode cX9_draw 146 = .ok (.isub, 1) := by decide +kernel
theorem dX9_draw_147 : decode cX9_draw 147 = .ok (.ireturn, 1) := by decide +kernel
theorem dX9_isBill_0 : decode cX9_isBill 0 = .ok (.iload_n 1, 1) := by decide +kernel
theorem dX9_isBill_1 : decode cX9_isBill 1 = .ok (.iconst 0, 1) := by decide +kernel
theorem dX9_isBill_2 : decode cX9_isBill 2 = .ok (.aload_n 0, 1) := by decide +kernel
theorem dX9_isBill_3 : decode cX9_isBill 3 = .ok (.getfield 38, 3) := by decide +kernel
theorem dX9_isBill_6 : decode cX9_isBill 6 = .ok (.invokeinterface 56 1, 5) := by decide +kernel
theorem dX9_isBill_11 : decode cX9_isBill 11 = .ok (.iconst 1, 1) := by decide +kernel
theorem dX9_isBill_12 : decode cX9_isBill 12 = .ok (.isub, 1) := by decide +kernel
theorem dX9_isBill_13 : decode cX9_isBill 13 = .ok (.invokestatic 60, 3) := by decide +kernel
theorem dX9_isBill_16 : decode cX9_isBill 16 = .ok (.ireturn, 1) := by decide +kernel
theorem dX9_endorse_0 : decode cX9_endorse 0 = .ok (.aload_n 0, 1) := by decide +kernel
theorem dX9_endorse_1 : decode cX9_endorse 1 = .ok (.aload_n 0, 1) := by decide +kernel
theorem dX9_endorse_2 : decode cX9_endorse 2 = .ok (.iload_n 1, 1) := by decide +kernel
theorem dX9_endorse_3 : decode cX9_endorse 3 = .ok (.invokevirtual 188, 3) := by decide +kernel
theorem dX9_endorse_6 : decode cX9_endorse 6 = .ok (.ifCond .eq 15, 3) := by decide +kernel
theorem dX9_endorse_9 : decode cX9_endorse 9 = .ok (.aload_n 0, 1) := by decide +kernel
theorem dX9_endorse_10 : decode cX9_endorse 10 = .ok (.iload_n 2, 1) := by decide +kernel
theorem dX9_endorse_11 : decode cX9_endorse 11 = .ok (.invokevirtual 84, 3) := by decide +kernel
theorem dX9_endorse_14 : decode cX9_endorse 14 = .ok (.ifCond .eq 7, 3) := by decide +kernel
theorem dX9_endorse_17 : decode cX9_endorse 17 = .ok (.iconst 0, 1) := by decide +kernel
theorem dX9_endorse_18 : decode cX9_endorse 18 = .ok (.goto 4, 3) := by decide +kernel
theorem dX9_endorse_21 : decode cX9_endorse 21 = .ok (.iconst 1, 1) := by decide +kernel
theorem dX9_endorse_22 : decode cX9_endorse 22 = .ok (.invokevirtual 80, 3) := by decide +kernel
theorem dX9_endorse_25 : decode cX9_endorse 25 = .ok (.ifCond .eq 5, 3) := by decide +kernel
theorem dX9_endorse_28 : decode cX9_endorse 28 = .ok (.iconst 0, 1) := by decide +kernel
theorem dX9_endorse_29 : decode cX9_endorse 29 = .ok (.ireturn, 1) := by decide +kernel
theorem dX9_endorse_30 : decode cX9_endorse 30 = .ok (.aload_n 0, 1) := by decide +kernel
theorem dX9_endorse_31 : decode cX9_endorse 31 = .ok (.getfield 38, 3) := by decide +kernel
theorem dX9_endorse_34 : decode cX9_endorse 34 = .ok (.iload_n 1, 1) := by decide +kernel
theorem dX9_endorse_35 : decode cX9_endorse 35 = .ok (.invokeinterface 64 2, 5) := by decide +kernel
theorem dX9_endorse_40 : decode cX9_endorse 40 = .ok (.checkcast 182, 3) := by decide +kernel
theorem dX9_endorse_43 : decode cX9_endorse 43 = .ok (.astore_n 3, 1) := by decide +kernel
theorem dX9_endorse_44 : decode cX9_endorse 44 = .ok (.aload_n 0, 1) := by decide +kernel
theorem dX9_endorse_45 : decode cX9_endorse 45 = .ok (.aload_n 3, 1) := by decide +kernel
theorem dX9_endorse_46 : decode cX9_endorse 46 = .ok (.getfield 191, 3) := by decide +kernel
theorem dX9_endorse_49 : decode cX9_endorse 49 = .ok (.ifCond .ne 15, 3) := by decide +kernel
theorem dX9_endorse_52 : decode cX9_endorse 52 = .ok (.iload_n 2, 1) := by decide +kernel
theorem dX9_endorse_53 : decode cX9_endorse 53 = .ok (.aload_n 3, 1) := by decide +kernel
theorem dX9_endorse_54 : decode cX9_endorse 54 = .ok (.getfield 194, 3) := by decide +kernel
theorem dX9_endorse_57 : decode cX9_endorse 57 = .ok (.if_icmp .ne 7, 3) := by decide +kernel
theorem dX9_endorse_60 : decode cX9_endorse 60 = .ok (.iconst 2, 1) := by decide +kernel
theorem dX9_endorse_61 : decode cX9_endorse 61 = .ok (.goto 51, 3) := by decide +kernel
theorem dX9_endorse_64 : decode cX9_endorse 64 = .ok (.aload_n 3, 1) := by decide +kernel
theorem dX9_endorse_65 : decode cX9_endorse 65 = .ok (.getfield 191, 3) := by decide +kernel
theorem dX9_endorse_68 : decode cX9_endorse 68 = .ok (.ifCond .ne 22, 3) := by decide +kernel
theorem dX9_endorse_71 : decode cX9_endorse 71 = .ok (.aload_n 0, 1) := by decide +kernel
theorem dX9_endorse_72 : decode cX9_endorse 72 = .ok (.aload_n 3, 1) := by decide +kernel
theorem dX9_endorse_73 : decode cX9_endorse 73 = .ok (.getfield 194, 3) := by decide +kernel
theorem dX9_endorse_76 : decode cX9_endorse 76 = .ok (.invokevirtual 91, 3) := by decide +kernel
theorem dX9_endorse_79 : decode cX9_endorse 79 = .ok (.ifCond .ne 11, 3) := by decide +kernel
theorem dX9_endorse_82 : decode cX9_endorse 82 = .ok (.aload_n 0, 1) := by decide +kernel
theorem dX9_endorse_83 : decode cX9_endorse 83 = .ok (.iload_n 2, 1) := by decide +kernel
theorem dX9_endorse_84 : decode cX9_endorse 84 = .ok (.invokevirtual 91, 3) := by decide +kernel
theorem dX9_endorse_87 : decode cX9_endorse 87 = .ok (.ifCond .eq 7, 3) := by decide +kernel
theorem dX9_endorse_90 : decode cX9_endorse 90 = .ok (.iconst 3, 1) := by decide +kernel
theorem dX9_endorse_91 : decode cX9_endorse 91 = .ok (.goto 21, 3) := by decide +kernel
theorem dX9_endorse_94 : decode cX9_endorse 94 = .ok (.aload_n 3, 1) := by decide +kernel
theorem dX9_endorse_95 : decode cX9_endorse 95 = .ok (.getfield 197, 3) := by decide +kernel
theorem dX9_endorse_98 : decode cX9_endorse 98 = .ok (.invokeinterface 56 1, 5) := by decide +kernel
theorem dX9_endorse_103 : decode cX9_endorse 103 = .ok (.iconst 5, 1) := by decide +kernel
theorem dX9_endorse_104 : decode cX9_endorse 104 = .ok (.if_icmp .ne 7, 3) := by decide +kernel
theorem dX9_endorse_107 : decode cX9_endorse 107 = .ok (.iconst 4, 1) := by decide +kernel
theorem dX9_endorse_108 : decode cX9_endorse 108 = .ok (.goto 4, 3) := by decide +kernel
theorem dX9_endorse_111 : decode cX9_endorse 111 = .ok (.iconst 0, 1) := by decide +kernel
theorem dX9_endorse_112 : decode cX9_endorse 112 = .ok (.invokevirtual 80, 3) := by decide +kernel
theorem dX9_endorse_115 : decode cX9_endorse 115 = .ok (.ifCond .eq 5, 3) := by decide +kernel
theorem dX9_endorse_118 : decode cX9_endorse 118 = .ok (.iconst 0, 1) := by decide +kernel
theorem dX9_endorse_119 : decode cX9_endorse 119 = .ok (.ireturn, 1) := by decide +kernel
theorem dX9_endorse_120 : decode cX9_endorse 120 = .ok (.aload_n 3, 1) := by decide +kernel
theorem dX9_endorse_121 : decode cX9_endorse 121 = .ok (.getfield 194, 3) := by decide +kernel
theorem dX9_endorse_124 : decode cX9_endorse 124 = .ok (.istore 4, 2) := by decide +kernel
theorem dX9_endorse_126 : decode cX9_endorse 126 = .ok (.aload_n 3, 1) := by decide +kernel
theorem dX9_endorse_127 : decode cX9_endorse 127 = .ok (.getfield 197, 3) := by decide +kernel
theorem dX9_endorse_130 : decode cX9_endorse 130 = .ok (.iconst 0, 1) := by decide +kernel
theorem dX9_endorse_131 : decode cX9_endorse 131 = .ok (.iload 4, 2) := by decide +kernel
theorem dX9_endorse_133 : decode cX9_endorse 133 = .ok (.invokestatic 200, 3) := by decide +kernel
theorem dX9_endorse_136 : decode cX9_endorse 136 = .ok (.invokeinterface 205 3, 5) := by decide +kernel
theorem dX9_endorse_141 : decode cX9_endorse 141 = .ok (.aload_n 3, 1) := by decide +kernel
theorem dX9_endorse_142 : decode cX9_endorse 142 = .ok (.iload_n 2, 1) := by decide +kernel
theorem dX9_endorse_143 : decode cX9_endorse 143 = .ok (.putfield 194, 3) := by decide +kernel
theorem dX9_endorse_146 : decode cX9_endorse 146 = .ok (.iload 4, 2) := by decide +kernel
theorem dX9_endorse_148 : decode cX9_endorse 148 = .ok (.ireturn, 1) := by decide +kernel
theorem dX9_holderOf_0 : decode cX9_holderOf 0 = .ok (.aload_n 0, 1) := by decide +kernel
theorem dX9_holderOf_1 : decode cX9_holderOf 1 = .ok (.aload_n 0, 1) := by decide +kernel
theorem dX9_holderOf_2 : decode cX9_holderOf 2 = .ok (.iload_n 1, 1) := by decide +kernel
theorem dX9_holderOf_3 : decode cX9_holderOf 3 = .ok (.invokevirtual 188, 3) := by decide +kernel
theorem dX9_holderOf_6 : decode cX9_holderOf 6 = .ok (.ifCond .eq 7, 3) := by decide +kernel
theorem dX9_holderOf_9 : decode cX9_holderOf 9 = .ok (.iconst 0, 1) := by decide +kernel
theorem dX9_holderOf_10 : decode cX9_holderOf 10 = .ok (.goto 4, 3) := by decide +kernel
theorem dX9_holderOf_13 : decode cX9_holderOf 13 = .ok (.iconst 1, 1) := by decide +kernel
theorem dX9_holderOf_14 : decode cX9_holderOf 14 = .ok (.invokevirtual 80, 3) := by decide +kernel
theorem dX9_holderOf_17 : decode cX9_holderOf 17 = .ok (.ifCond .eq 7, 3) := by decide +kernel
theorem dX9_holderOf_20 : decode cX9_holderOf 20 = .ok (.iconst 0, 1) := by decide +kernel
theorem dX9_holderOf_21 : decode cX9_holderOf 21 = .ok (.goto 42, 3) := by decide +kernel
theorem dX9_holderOf_24 : decode cX9_holderOf 24 = .ok (.aload_n 0, 1) := by decide +kernel
theorem dX9_holderOf_25 : decode cX9_holderOf 25 = .ok (.getfield 38, 3) := by decide +kernel
theorem dX9_holderOf_28 : decode cX9_holderOf 28 = .ok (.iload_n 1, 1) := by decide +kernel
theorem dX9_holderOf_29 : decode cX9_holderOf 29 = .ok (.invokeinterface 64 2, 5) := by decide +kernel
theorem dX9_holderOf_34 : decode cX9_holderOf 34 = .ok (.checkcast 182, 3) := by decide +kernel
theorem dX9_holderOf_37 : decode cX9_holderOf 37 = .ok (.getfield 191, 3) := by decide +kernel
theorem dX9_holderOf_40 : decode cX9_holderOf 40 = .ok (.ifCond .eq 7, 3) := by decide +kernel
theorem dX9_holderOf_43 : decode cX9_holderOf 43 = .ok (.iconst (-1), 1) := by decide +kernel
theorem dX9_holderOf_44 : decode cX9_holderOf 44 = .ok (.goto 19, 3) := by decide +kernel
theorem dX9_holderOf_47 : decode cX9_holderOf 47 = .ok (.aload_n 0, 1) := by decide +kernel
theorem dX9_holderOf_48 : decode cX9_holderOf 48 = .ok (.getfield 38, 3) := by decide +kernel
theorem dX9_holderOf_51 : decode cX9_holderOf 51 = .ok (.iload_n 1, 1) := by decide +kernel
theorem dX9_holderOf_52 : decode cX9_holderOf 52 = .ok (.invokeinterface 64 2, 5) := by decide +kernel
theorem dX9_holderOf_57 : decode cX9_holderOf 57 = .ok (.checkcast 182, 3) := by decide +kernel
theorem dX9_holderOf_60 : decode cX9_holderOf 60 = .ok (.getfield 194, 3) := by decide +kernel
theorem dX9_holderOf_63 : decode cX9_holderOf 63 = .ok (.ireturn, 1) := by decide +kernel
theorem dX9_nextDay_0 : decode cX9_nextDay 0 = .ok (.aload_n 0, 1) := by decide +kernel
theorem dX9_nextDay_1 : decode cX9_nextDay 1 = .ok (.iconst 0, 1) := by decide +kernel
theorem dX9_nextDay_2 : decode cX9_nextDay 2 = .ok (.putfield 1, 3) := by decide +kernel
theorem dX9_nextDay_5 : decode cX9_nextDay 5 = .ok (.aload_n 0, 1) := by decide +kernel
theorem dX9_nextDay_6 : decode cX9_nextDay 6 = .ok (.dup, 1) := by decide +kernel
theorem dX9_nextDay_7 : decode cX9_nextDay 7 = .ok (.getfield 184, 3) := by decide +kernel
theorem dX9_nextDay_10 : decode cX9_nextDay 10 = .ok (.iconst 1, 1) := by decide +kernel
theorem dX9_nextDay_11 : decode cX9_nextDay 11 = .ok (.iadd, 1) := by decide +kernel
theorem dX9_nextDay_12 : decode cX9_nextDay 12 = .ok (.putfield 184, 3) := by decide +kernel
theorem dX9_nextDay_15 : decode cX9_nextDay 15 = .ok (.iconst 0, 1) := by decide +kernel
theorem dX9_nextDay_16 : decode cX9_nextDay 16 = .ok (.istore_n 1, 1) := by decide +kernel
theorem dX9_nextDay_17 : decode cX9_nextDay 17 = .ok (.aload_n 0, 1) := by decide +kernel
theorem dX9_nextDay_18 : decode cX9_nextDay 18 = .ok (.getfield 38, 3) := by decide +kernel
theorem dX9_nextDay_21 : decode cX9_nextDay 21 = .ok (.invokeinterface 122 1, 5) := by decide +kernel
theorem dX9_nextDay_26 : decode cX9_nextDay 26 = .ok (.astore_n 2, 1) := by decide +kernel
theorem dX9_nextDay_27 : decode cX9_nextDay 27 = .ok (.aload_n 2, 1) := by decide +kernel
theorem dX9_nextDay_28 : decode cX9_nextDay 28 = .ok (.invokeinterface 126 1, 5) := by decide +kernel
theorem dX9_nextDay_33 : decode cX9_nextDay 33 = .ok (.ifCond .eq 215, 3) := by decide +kernel
theorem dX9_nextDay_36 : decode cX9_nextDay 36 = .ok (.aload_n 2, 1) := by decide +kernel
theorem dX9_nextDay_37 : decode cX9_nextDay 37 = .ok (.invokeinterface 132 1, 5) := by decide +kernel
theorem dX9_nextDay_42 : decode cX9_nextDay 42 = .ok (.checkcast 182, 3) := by decide +kernel
theorem dX9_nextDay_45 : decode cX9_nextDay 45 = .ok (.astore_n 3, 1) := by decide +kernel
theorem dX9_nextDay_46 : decode cX9_nextDay 46 = .ok (.aload_n 3, 1) := by decide +kernel
theorem dX9_nextDay_47 : decode cX9_nextDay 47 = .ok (.getfield 208, 3) := by decide +kernel
theorem dX9_nextDay_50 : decode cX9_nextDay 50 = .ok (.aload_n 0, 1) := by decide +kernel
theorem dX9_nextDay_51 : decode cX9_nextDay 51 = .ok (.getfield 184, 3) := by decide +kernel
theorem dX9_nextDay_54 : decode cX9_nextDay 54 = .ok (.if_icmp .eq 6, 3) := by decide +kernel
theorem dX9_nextDay_57 : decode cX9_nextDay 57 = .ok (.goto (-30), 3) := by decide +kernel
theorem dX9_nextDay_60 : decode cX9_nextDay 60 = .ok (.aload_n 3, 1) := by decide +kernel
theorem dX9_nextDay_61 : decode cX9_nextDay 61 = .ok (.iconst 1, 1) := by decide +kernel
theorem dX9_nextDay_62 : decode cX9_nextDay 62 = .ok (.putfield 191, 3) := by decide +kernel
theorem dX9_nextDay_65 : decode cX9_nextDay 65 = .ok (.aload_n 0, 1) := by decide +kernel
theorem dX9_nextDay_66 : decode cX9_nextDay 66 = .ok (.aload_n 3, 1) := by decide +kernel
theorem dX9_nextDay_67 : decode cX9_nextDay 67 = .ok (.getfield 194, 3) := by decide +kernel
theorem dX9_nextDay_70 : decode cX9_nextDay 70 = .ok (.invokevirtual 91, 3) := by decide +kernel
theorem dX9_nextDay_73 : decode cX9_nextDay 73 = .ok (.ifCond .eq 6, 3) := by decide +kernel
theorem dX9_nextDay_76 : decode cX9_nextDay 76 = .ok (.goto (-49), 3) := by decide +kernel
theorem dX9_nextDay_79 : decode cX9_nextDay 79 = .ok (.new 13, 3) := by decide +kernel
theorem dX9_nextDay_82 : decode cX9_nextDay 82 = .ok (.dup, 1) := by decide +kernel
theorem dX9_nextDay_83 : decode cX9_nextDay 83 = .ok (.invokespecial 15, 3) := by decide +kernel
theorem dX9_nextDay_86 : decode cX9_nextDay 86 = .ok (.astore 4, 2) := by decide +kernel
theorem dX9_nextDay_88 : decode cX9_nextDay 88 = .ok (.aload 4, 2) := by decide +kernel
theorem dX9_nextDay_90 : decode cX9_nextDay 90 = .ok (.aload_n 3, 1) := by decide +kernel
theorem dX9_nextDay_91 : decode cX9_nextDay 91 = .ok (.getfield 211, 3) := by decide +kernel
theorem dX9_nextDay_94 : decode cX9_nextDay 94 = .ok (.invokestatic 200, 3) := by decide +kernel
theorem dX9_nextDay_97 : decode cX9_nextDay 97 = .ok (.invokeinterface 50 2, 5) := by decide +kernel
theorem dX9_nextDay_102 : decode cX9_nextDay 102 = .ok (.pop, 1) := by decide +kernel
theorem dX9_nextDay_103 : decode cX9_nextDay 103 = .ok (.aload 4, 2) := by decide +kernel
theorem dX9_nextDay_105 : decode cX9_nextDay 105 = .ok (.aload_n 3, 1) := by decide +kernel
theorem dX9_nextDay_106 : decode cX9_nextDay 106 = .ok (.getfield 214, 3) := by decide +kernel
theorem dX9_nextDay_109 : decode cX9_nextDay 109 = .ok (.invokestatic 200, 3) := by decide +kernel
theorem dX9_nextDay_112 : decode cX9_nextDay 112 = .ok (.invokeinterface 50 2, 5) := by decide +kernel
theorem dX9_nextDay_117 : decode cX9_nextDay 117 = .ok (.pop, 1) := by decide +kernel
theorem dX9_nextDay_118 : decode cX9_nextDay 118 = .ok (.aload 4, 2) := by decide +kernel
theorem dX9_nextDay_120 : decode cX9_nextDay 120 = .ok (.aload_n 3, 1) := by decide +kernel
theorem dX9_nextDay_121 : decode cX9_nextDay 121 = .ok (.getfield 197, 3) := by decide +kernel
theorem dX9_nextDay_124 : decode cX9_nextDay 124 = .ok (.invokeinterface 217 2, 5) := by decide +kernel
theorem dX9_nextDay_129 : decode cX9_nextDay 129 = .ok (.pop, 1) := by decide +kernel
theorem dX9_nextDay_130 : decode cX9_nextDay 130 = .ok (.iconst 0, 1) := by decide +kernel
theorem dX9_nextDay_131 : decode cX9_nextDay 131 = .ok (.istore 5, 2) := by decide +kernel
theorem dX9_nextDay_133 : decode cX9_nextDay 133 = .ok (.iload 5, 2) := by decide +kernel
theorem dX9_nextDay_135 : decode cX9_nextDay 135 = .ok (.aload 4, 2) := by decide +kernel
theorem dX9_nextDay_137 : decode cX9_nextDay 137 = .ok (.invokeinterface 56 1, 5) := by decide +kernel
theorem dX9_nextDay_142 : decode cX9_nextDay 142 = .ok (.if_icmp .ge 31, 3) := by decide +kernel
theorem dX9_nextDay_145 : decode cX9_nextDay 145 = .ok (.aload_n 0, 1) := by decide +kernel
theorem dX9_nextDay_146 : decode cX9_nextDay 146 = .ok (.aload 4, 2) := by decide +kernel
theorem dX9_nextDay_148 : decode cX9_nextDay 148 = .ok (.iload 5, 2) := by decide +kernel
theorem dX9_nextDay_150 : decode cX9_nextDay 150 = .ok (.invokeinterface 64 2, 5) := by decide +kernel
theorem dX9_nextDay_155 : decode cX9_nextDay 155 = .ok (.checkcast 201, 3) := by decide +kernel
theorem dX9_nextDay_158 : decode cX9_nextDay 158 = .ok (.invokevirtual 221, 3) := by decide +kernel
theorem dX9_nextDay_161 : decode cX9_nextDay 161 = .ok (.invokevirtual 91, 3) := by decide +kernel
theorem dX9_nextDay_164 : decode cX9_nextDay 164 = .ok (.ifCond .eq 9, 3) := by decide +kernel
theorem dX9_nextDay_167 : decode cX9_nextDay 167 = .ok (.iinc 5 1, 3) := by decide +kernel
theorem dX9_nextDay_170 : decode cX9_nextDay 170 = .ok (.goto (-37), 3) := by decide +kernel
theorem dX9_nextDay_173 : decode cX9_nextDay 173 = .ok (.iload 5, 2) := by decide +kernel
theorem dX9_nextDay_175 : decode cX9_nextDay 175 = .ok (.aload 4, 2) := by decide +kernel
theorem dX9_nextDay_177 : decode cX9_nextDay 177 = .ok (.invokeinterface 56 1, 5) := by decide +kernel
theorem dX9_nextDay_182 : decode cX9_nextDay 182 = .ok (.if_icmp .eq (-155), 3) := by decide +kernel
theorem dX9_nextDay_185 : decode cX9_nextDay 185 = .ok (.aload 4, 2) := by decide +kernel
theorem dX9_nextDay_187 : decode cX9_nextDay 187 = .ok (.iload 5, 2) := by decide +kernel
theorem dX9_nextDay_189 : decode cX9_nextDay 189 = .ok (.invokeinterface 64 2, 5) := by decide +kernel
theorem dX9_nextDay_194 : decode cX9_nextDay 194 = .ok (.checkcast 201, 3) := by decide +kernel
theorem dX9_nextDay_197 : decode cX9_nextDay 197 = .ok (.invokevirtual 221, 3) := by decide +kernel
theorem dX9_nextDay_200 : decode cX9_nextDay 200 = .ok (.aload_n 3, 1) := by decide +kernel
theorem dX9_nextDay_201 : decode cX9_nextDay 201 = .ok (.getfield 194, 3) := by decide +kernel
theorem dX9_nextDay_204 : decode cX9_nextDay 204 = .ok (.if_icmp .ne 6, 3) := by decide +kernel
theorem dX9_nextDay_207 : decode cX9_nextDay 207 = .ok (.goto (-180), 3) := by decide +kernel
theorem dX9_nextDay_210 : decode cX9_nextDay 210 = .ok (.aload_n 0, 1) := by decide +kernel
theorem dX9_nextDay_211 : decode cX9_nextDay 211 = .ok (.getfield 35, 3) := by decide +kernel
theorem dX9_nextDay_214 : decode cX9_nextDay 214 = .ok (.aload_n 3, 1) := by decide +kernel
theorem dX9_nextDay_215 : decode cX9_nextDay 215 = .ok (.getfield 194, 3) := by decide +kernel
theorem dX9_nextDay_218 : decode cX9_nextDay 218 = .ok (.aaload, 1) := by decide +kernel
theorem dX9_nextDay_219 : decode cX9_nextDay 219 = .ok (.aload 4, 2) := by decide +kernel
theorem dX9_nextDay_221 : decode cX9_nextDay 221 = .ok (.iload 5, 2) := by decide +kernel
theorem dX9_nextDay_223 : decode cX9_nextDay 223 = .ok (.invokeinterface 64 2, 5) := by decide +kernel
theorem dX9_nextDay_228 : decode cX9_nextDay 228 = .ok (.checkcast 201, 3) := by decide +kernel
theorem dX9_nextDay_231 : decode cX9_nextDay 231 = .ok (.invokevirtual 221, 3) := by decide +kernel
theorem dX9_nextDay_234 : decode cX9_nextDay 234 = .ok (.dup2, 1) := by decide +kernel
theorem dX9_nextDay_235 : decode cX9_nextDay 235 = .ok (.iaload, 1) := by decide +kernel
theorem dX9_nextDay_236 : decode cX9_nextDay 236 = .ok (.aload_n 3, 1) := by decide +kernel
theorem dX9_nextDay_237 : decode cX9_nextDay 237 = .ok (.getfield 224, 3) := by decide +kernel
theorem dX9_nextDay_240 : decode cX9_nextDay 240 = .ok (.iadd, 1) := by decide +kernel
theorem dX9_nextDay_241 : decode cX9_nextDay 241 = .ok (.iastore, 1) := by decide +kernel
theorem dX9_nextDay_242 : decode cX9_nextDay 242 = .ok (.iinc 1 1, 3) := by decide +kernel
theorem dX9_nextDay_245 : decode cX9_nextDay 245 = .ok (.goto (-218), 3) := by decide +kernel
theorem dX9_nextDay_248 : decode cX9_nextDay 248 = .ok (.iload_n 1, 1) := by decide +kernel
theorem dX9_nextDay_249 : decode cX9_nextDay 249 = .ok (.ireturn, 1) := by decide +kernel
theorem dX9_addShare_0 : decode cX9_addShare 0 = .ok (.aload_n 0, 1) := by decide +kernel
theorem dX9_addShare_1 : decode cX9_addShare 1 = .ok (.iload_n 1, 1) := by decide +kernel
theorem dX9_addShare_2 : decode cX9_addShare 2 = .ok (.iconst 0, 1) := by decide +kernel
theorem dX9_addShare_3 : decode cX9_addShare 3 = .ok (.iconst 3, 1) := by decide +kernel
theorem dX9_addShare_4 : decode cX9_addShare 4 = .ok (.invokestatic 60, 3) := by decide +kernel
theorem dX9_addShare_7 : decode cX9_addShare 7 = .ok (.ifCond .eq 11, 3) := by decide +kernel
theorem dX9_addShare_10 : decode cX9_addShare 10 = .ok (.aload_n 0, 1) := by decide +kernel
theorem dX9_addShare_11 : decode cX9_addShare 11 = .ok (.iload_n 2, 1) := by decide +kernel
theorem dX9_addShare_12 : decode cX9_addShare 12 = .ok (.invokevirtual 84, 3) := by decide +kernel
theorem dX9_addShare_15 : decode cX9_addShare 15 = .ok (.ifCond .ne 7, 3) := by decide +kernel
theorem dX9_addShare_18 : decode cX9_addShare 18 = .ok (.iconst 1, 1) := by decide +kernel
theorem dX9_addShare_19 : decode cX9_addShare 19 = .ok (.goto 30, 3) := by decide +kernel
theorem dX9_addShare_22 : decode cX9_addShare 22 = .ok (.iload_n 3, 1) := by decide +kernel
theorem dX9_addShare_23 : decode cX9_addShare 23 = .ok (.iconst 1, 1) := by decide +kernel
theorem dX9_addShare_24 : decode cX9_addShare 24 = .ok (.bipush 99, 2) := by decide +kernel
theorem dX9_addShare_26 : decode cX9_addShare 26 = .ok (.invokestatic 60, 3) := by decide +kernel
theorem dX9_addShare_29 : decode cX9_addShare 29 = .ok (.ifCond .ne 7, 3) := by decide +kernel
theorem dX9_addShare_32 : decode cX9_addShare 32 = .ok (.iconst 2, 1) := by decide +kernel
theorem dX9_addShare_33 : decode cX9_addShare 33 = .ok (.goto 16, 3) := by decide +kernel
theorem dX9_addShare_36 : decode cX9_addShare 36 = .ok (.aload_n 0, 1) := by decide +kernel
theorem dX9_addShare_37 : decode cX9_addShare 37 = .ok (.iload_n 2, 1) := by decide +kernel
theorem dX9_addShare_38 : decode cX9_addShare 38 = .ok (.invokevirtual 91, 3) := by decide +kernel
theorem dX9_addShare_41 : decode cX9_addShare 41 = .ok (.ifCond .eq 7, 3) := by decide +kernel
theorem dX9_addShare_44 : decode cX9_addShare 44 = .ok (.iconst 3, 1) := by decide +kernel
theorem dX9_addShare_45 : decode cX9_addShare 45 = .ok (.goto 4, 3) := by decide +kernel
theorem dX9_addShare_48 : decode cX9_addShare 48 = .ok (.iconst 0, 1) := by decide +kernel
theorem dX9_addShare_49 : decode cX9_addShare 49 = .ok (.invokevirtual 80, 3) := by decide +kernel
theorem dX9_addShare_52 : decode cX9_addShare 52 = .ok (.ifCond .eq 5, 3) := by decide +kernel
theorem dX9_addShare_55 : decode cX9_addShare 55 = .ok (.iconst 0, 1) := by decide +kernel
theorem dX9_addShare_56 : decode cX9_addShare 56 = .ok (.ireturn, 1) := by decide +kernel
theorem dX9_addShare_57 : decode cX9_addShare 57 = .ok (.aload_n 0, 1) := by decide +kernel
theorem dX9_addShare_58 : decode cX9_addShare 58 = .ok (.getfield 41, 3) := by decide +kernel
theorem dX9_addShare_61 : decode cX9_addShare 61 = .ok (.iload_n 1, 1) := by decide +kernel
theorem dX9_addShare_62 : decode cX9_addShare 62 = .ok (.aaload, 1) := by decide +kernel
theorem dX9_addShare_63 : decode cX9_addShare 63 = .ok (.iload_n 2, 1) := by decide +kernel
theorem dX9_addShare_64 : decode cX9_addShare 64 = .ok (.dup2, 1) := by decide +kernel
theorem dX9_addShare_65 : decode cX9_addShare 65 = .ok (.iaload, 1) := by decide +kernel
theorem dX9_addShare_66 : decode cX9_addShare 66 = .ok (.iload_n 3, 1) := by decide +kernel
theorem dX9_addShare_67 : decode cX9_addShare 67 = .ok (.iadd, 1) := by decide +kernel
theorem dX9_addShare_68 : decode cX9_addShare 68 = .ok (.iastore, 1) := by decide +kernel
theorem dX9_addShare_69 : decode cX9_addShare 69 = .ok (.aload_n 0, 1) := by decide +kernel
theorem dX9_addShare_70 : decode cX9_addShare 70 = .ok (.getfield 41, 3) := by decide +kernel
theorem dX9_addShare_73 : decode cX9_addShare 73 = .ok (.iload_n 1, 1) := by decide +kernel
theorem dX9_addShare_74 : decode cX9_addShare 74 = .ok (.aaload, 1) := by decide +kernel
theorem dX9_addShare_75 : decode cX9_addShare 75 = .ok (.iload_n 2, 1) := by decide +kernel
theorem dX9_addShare_76 : decode cX9_addShare 76 = .ok (.iaload, 1) := by decide +kernel
theorem dX9_addShare_77 : decode cX9_addShare 77 = .ok (.ireturn, 1) := by decide +kernel
theorem dX9_throwOver_0 : decode cX9_throwOver 0 = .ok (.aload_n 0, 1) := by decide +kernel
theorem dX9_throwOver_1 : decode cX9_throwOver 1 = .ok (.iload_n 1, 1) := by decide +kernel
theorem dX9_throwOver_2 : decode cX9_throwOver 2 = .ok (.iconst 0, 1) := by decide +kernel
theorem dX9_throwOver_3 : decode cX9_throwOver 3 = .ok (.iconst 3, 1) := by decide +kernel
theorem dX9_throwOver_4 : decode cX9_throwOver 4 = .ok (.invokestatic 60, 3) := by decide +kernel
theorem dX9_throwOver_7 : decode cX9_throwOver 7 = .ok (.ifCond .eq 11, 3) := by decide +kernel
theorem dX9_throwOver_10 : decode cX9_throwOver 10 = .ok (.aload_n 0, 1) := by decide +kernel
theorem dX9_throwOver_11 : decode cX9_throwOver 11 = .ok (.iload_n 2, 1) := by decide +kernel
theorem dX9_throwOver_12 : decode cX9_throwOver 12 = .ok (.invokevirtual 84, 3) := by decide +kernel
theorem dX9_throwOver_15 : decode cX9_throwOver 15 = .ok (.ifCond .ne 7, 3) := by decide +kernel
theorem dX9_throwOver_18 : decode cX9_throwOver 18 = .ok (.iconst 1, 1) := by decide +kernel
theorem dX9_throwOver_19 : decode cX9_throwOver 19 = .ok (.goto 18, 3) := by decide +kernel
theorem dX9_throwOver_22 : decode cX9_throwOver 22 = .ok (.iload_n 3, 1) := by decide +kernel
theorem dX9_throwOver_23 : decode cX9_throwOver 23 = .ok (.iconst 1, 1) := by decide +kernel
theorem dX9_throwOver_24 : decode cX9_throwOver 24 = .ok (.bipush 99, 2) := by decide +kernel
theorem dX9_throwOver_26 : decode cX9_throwOver 26 = .ok (.invokestatic 60, 3) := by decide +kernel
theorem dX9_throwOver_29 : decode cX9_throwOver 29 = .ok (.ifCond .ne 7, 3) := by decide +kernel
theorem dX9_throwOver_32 : decode cX9_throwOver 32 = .ok (.iconst 2, 1) := by decide +kernel
theorem dX9_throwOver_33 : decode cX9_throwOver 33 = .ok (.goto 4, 3) := by decide +kernel
theorem dX9_throwOver_36 : decode cX9_throwOver 36 = .ok (.iconst 0, 1) := by decide +kernel
theorem dX9_throwOver_37 : decode cX9_throwOver 37 = .ok (.invokevirtual 80, 3) := by decide +kernel
theorem dX9_throwOver_40 : decode cX9_throwOver 40 = .ok (.ifCond .eq 5, 3) := by decide +kernel
theorem dX9_throwOver_43 : decode cX9_throwOver 43 = .ok (.iconst 0, 1) := by decide +kernel
theorem dX9_throwOver_44 : decode cX9_throwOver 44 = .ok (.ireturn, 1) := by decide +kernel
theorem dX9_throwOver_45 : decode cX9_throwOver 45 = .ok (.aload_n 0, 1) := by decide +kernel
theorem dX9_throwOver_46 : decode cX9_throwOver 46 = .ok (.getfield 41, 3) := by decide +kernel
theorem dX9_throwOver_49 : decode cX9_throwOver 49 = .ok (.iload_n 1, 1) := by decide +kernel
theorem dX9_throwOver_50 : decode cX9_throwOver 50 = .ok (.aaload, 1) := by decide +kernel
theorem dX9_throwOver_51 : decode cX9_throwOver 51 = .ok (.astore 4, 2) := by decide +kernel
theorem dX9_throwOver_53 : decode cX9_throwOver 53 = .ok (.aload_n 0, 1) := by decide +kernel
theorem dX9_throwOver_54 : decode cX9_throwOver 54 = .ok (.iload_n 2, 1) := by decide +kernel
theorem dX9_throwOver_55 : decode cX9_throwOver 55 = .ok (.invokevirtual 91, 3) := by decide +kernel
theorem dX9_throwOver_58 : decode cX9_throwOver 58 = .ok (.istore 5, 2) := by decide +kernel
theorem dX9_throwOver_60 : decode cX9_throwOver 60 = .ok (.iconst 0, 1) := by decide +kernel
theorem dX9_throwOver_61 : decode cX9_throwOver 61 = .ok (.istore 6, 2) := by decide +kernel
theorem dX9_throwOver_63 : decode cX9_throwOver 63 = .ok (.iconst 0, 1) := by decide +kernel
theorem dX9_throwOver_64 : decode cX9_throwOver 64 = .ok (.istore 7, 2) := by decide +kernel
theorem dX9_throwOver_66 : decode cX9_throwOver 66 = .ok (.iload 7, 2) := by decide +kernel
theorem dX9_throwOver_68 : decode cX9_throwOver 68 = .ok (.aload_n 0, 1) := by decide +kernel
theorem dX9_throwOver_69 : decode cX9_throwOver 69 = .ok (.getfield 16, 3) := by decide +kernel
theorem dX9_throwOver_72 : decode cX9_throwOver 72 = .ok (.invokeinterface 56 1, 5) := by decide +kernel
theorem dX9_throwOver_77 : decode cX9_throwOver 77 = .ok (.if_icmp .ge 46, 3) := by decide +kernel
theorem dX9_throwOver_80 : decode cX9_throwOver 80 = .ok (.iload 5, 2) := by decide +kernel
theorem dX9_throwOver_82 : decode cX9_throwOver 82 = .ok (.aload 4, 2) := by decide +kernel
theorem dX9_throwOver_84 : decode cX9_throwOver 84 = .ok (.iload 7, 2) := by decide +kernel
theorem dX9_throwOver_86 : decode cX9_throwOver 86 = .ok (.iaload, 1) := by decide +kernel
theorem dX9_throwOver_87 : decode cX9_throwOver 87 = .ok (.ifCond .le 16, 3) := by decide +kernel
theorem dX9_throwOver_90 : decode cX9_throwOver 90 = .ok (.aload_n 0, 1) := by decide +kernel
theorem dX9_throwOver_91 : decode cX9_throwOver 91 = .ok (.iload 7, 2) := by decide +kernel
theorem dX9_throwOver_93 : decode cX9_throwOver 93 = .ok (.invokevirtual 91, 3) := by decide +kernel
theorem dX9_throwOver_96 : decode cX9_throwOver 96 = .ok (.ifCond .eq 7, 3) := by decide +kernel
theorem dX9_throwOver_99 : decode cX9_throwOver 99 = .ok (.iconst 1, 1) := by decide +kernel
theorem dX9_throwOver_100 : decode cX9_throwOver 100 = .ok (.goto 4, 3) := by decide +kernel
theorem dX9_throwOver_103 : decode cX9_throwOver 103 = .ok (.iconst 0, 1) := by decide +kernel
theorem dX9_throwOver_104 : decode cX9_throwOver 104 = .ok (.ior, 1) := by decide +kernel
theorem dX9_throwOver_105 : decode cX9_throwOver 105 = .ok (.istore 5, 2) := by decide +kernel
theorem dX9_throwOver_107 : decode cX9_throwOver 107 = .ok (.iload 6, 2) := by decide +kernel
theorem dX9_throwOver_109 : decode cX9_throwOver 109 = .ok (.aload 4, 2) := by decide +kernel
theorem dX9_throwOver_111 : decode cX9_throwOver 111 = .ok (.iload 7, 2) := by decide +kernel
theorem dX9_throwOver_113 : decode cX9_throwOver 113 = .ok (.iaload, 1) := by decide +kernel
theorem dX9_throwOver_114 : decode cX9_throwOver 114 = .ok (.iadd, 1) := by decide +kernel
theorem dX9_throwOver_115 : decode cX9_throwOver 115 = .ok (.istore 6, 2) := by decide +kernel
theorem dX9_throwOver_117 : decode cX9_throwOver 117 = .ok (.iinc 7 1, 3) := by decide +kernel
theorem dX9_throwOver_120 : decode cX9_throwOver 120 = .ok (.goto (-54), 3) := by decide +kernel
theorem dX9_throwOver_123 : decode cX9_throwOver 123 = .ok (.aload_n 0, 1) := by decide +kernel
theorem dX9_throwOver_124 : decode cX9_throwOver 124 = .ok (.iload 5, 2) := by decide +kernel
theorem dX9_throwOver_126 : decode cX9_throwOver 126 = .ok (.ifCond .eq 7, 3) := by decide +kernel
theorem dX9_throwOver_129 : decode cX9_throwOver 129 = .ok (.iconst 3, 1) := by decide +kernel
theorem dX9_throwOver_130 : decode cX9_throwOver 130 = .ok (.goto 15, 3) := by decide +kernel
theorem dX9_throwOver_133 : decode cX9_throwOver 133 = .ok (.aload 4, 2) := by decide +kernel
theorem dX9_throwOver_135 : decode cX9_throwOver 135 = .ok (.iload_n 2, 1) := by decide +kernel
theorem dX9_throwOver_136 : decode cX9_throwOver 136 = .ok (.iaload, 1) := by decide +kernel
theorem dX9_throwOver_137 : decode cX9_throwOver 137 = .ok (.ifCond .ne 7, 3) := by decide +kernel
theorem dX9_throwOver_140 : decode cX9_throwOver 140 = .ok (.iconst 4, 1) := by decide +kernel
theorem dX9_throwOver_141 : decode cX9_throwOver 141 = .ok (.goto 4, 3) := by decide +kernel
theorem dX9_throwOver_144 : decode cX9_throwOver 144 = .ok (.iconst 0, 1) := by decide +kernel
theorem dX9_throwOver_145 : decode cX9_throwOver 145 = .ok (.invokevirtual 80, 3) := by decide +kernel
theorem dX9_throwOver_148 : decode cX9_throwOver 148 = .ok (.ifCond .eq 5, 3) := by decide +kernel
theorem dX9_throwOver_151 : decode cX9_throwOver 151 = .ok (.iconst 0, 1) := by decide +kernel
theorem dX9_throwOver_152 : decode cX9_throwOver 152 = .ok (.ireturn, 1) := by decide +kernel
theorem dX9_throwOver_153 : decode cX9_throwOver 153 = .ok (.bipush 6, 2) := by decide +kernel
theorem dX9_throwOver_155 : decode cX9_throwOver 155 = .ok (.newarray .int, 2) := by decide +kernel
theorem dX9_throwOver_157 : decode cX9_throwOver 157 = .ok (.astore 7, 2) := by decide +kernel
theorem dX9_throwOver_159 : decode cX9_throwOver 159 = .ok (.bipush 6, 2) := by decide +kernel
theorem dX9_throwOver_161 : decode cX9_throwOver 161 = .ok (.newarray .boolean, 2) := by decide +kernel
theorem dX9_throwOver_163 : decode cX9_throwOver 163 = .ok (.astore 8, 2) := by decide +kernel
theorem dX9_throwOver_165 : decode cX9_throwOver 165 = .ok (.iload_n 3, 1) := by decide +kernel
theorem dX9_throwOver_166 : decode cX9_throwOver 166 = .ok (.istore 9, 2) := by decide +kernel
theorem dX9_throwOver_168 : decode cX9_throwOver 168 = .ok (.iconst 0, 1) := by decide +kernel
theorem dX9_throwOver_169 : decode cX9_throwOver 169 = .ok (.istore 10, 2) := by decide +kernel
theorem dX9_throwOver_171 : decode cX9_throwOver 171 = .ok (.iload 10, 2) := by decide +kernel
theorem dX9_throwOver_173 : decode cX9_throwOver 173 = .ok (.bipush 6, 2) := by decide +kernel
theorem dX9_throwOver_175 : decode cX9_throwOver 175 = .ok (.if_icmp .ge 34, 3) := by decide +kernel
theorem dX9_throwOver_178 : decode cX9_throwOver 178 = .ok (.aload 7, 2) := by decide +kernel
theorem dX9_throwOver_180 : decode cX9_throwOver 180 = .ok (.iload 10, 2) := by decide +kernel
theorem dX9_throwOver_182 : decode cX9_throwOver 182 = .ok (.iload_n 3, 1) := by decide +kernel
theorem dX9_throwOver_183 : decode cX9_throwOver 183 = .ok (.aload 4, 2) := by decide +kernel
theorem dX9_throwOver_185 : decode cX9_throwOver 185 = .ok (.iload 10, 2) := by decide +kernel
theorem dX9_throwOver_187 : decode cX9_throwOver 187 = .ok (.iaload, 1) := by decide +kernel
theorem dX9_throwOver_188 : decode cX9_throwOver 188 = .ok (.imul, 1) := by decide +kernel
theorem dX9_throwOver_189 : decode cX9_throwOver 189 = .ok (.iload 6, 2) := by decide +kernel
theorem dX9_throwOver_191 : decode cX9_throwOver 191 = .ok (.idiv, 1) := by decide +kernel
theorem dX9_throwOver_192 : decode cX9_throwOver 192 = .ok (.iastore, 1) := by decide +kernel
theorem dX9_throwOver_193 : decode cX9_throwOver 193 = .ok (.iload 9, 2) := by decide +kernel
theorem dX9_throwOver_195 : decode cX9_throwOver 195 = .ok (.aload 7, 2) := by decide +kernel
theorem dX9_throwOver_197 : decode cX9_throwOver 197 = .ok (.iload 10, 2) := by decide +kernel
theorem dX9_throwOver_199 : decode cX9_throwOver 199 = .ok (.iaload, 1) := by decide +kernel
theorem dX9_throwOver_200 : decode cX9_throwOver 200 = .ok (.isub, 1) := by decide +kernel
theorem dX9_throwOver_201 : decode cX9_throwOver 201 = .ok (.istore 9, 2) := by decide +kernel
theorem dX9_throwOver_203 : decode cX9_throwOver 203 = .ok (.iinc 10 1, 3) := by decide +kernel
theorem dX9_throwOver_206 : decode cX9_throwOver 206 = .ok (.goto (-35), 3) := by decide +kernel
theorem dX9_throwOver_209 : decode cX9_throwOver 209 = .ok (.iload 9, 2) := by decide +kernel
theorem dX9_throwOver_211 : decode cX9_throwOver 211 = .ok (.ifCond .le 92, 3) := by decide +kernel
theorem dX9_throwOver_214 : decode cX9_throwOver 214 = .ok (.iconst (-1), 1) := by decide +kernel
theorem dX9_throwOver_215 : decode cX9_throwOver 215 = .ok (.istore 10, 2) := by decide +kernel
theorem dX9_throwOver_217 : decode cX9_throwOver 217 = .ok (.iconst 0, 1) := by decide +kernel
theorem dX9_throwOver_218 : decode cX9_throwOver 218 = .ok (.istore 11, 2) := by decide +kernel
theorem dX9_throwOver_220 : decode cX9_throwOver 220 = .ok (.iload 11, 2) := by decide +kernel
theorem dX9_throwOver_222 : decode cX9_throwOver 222 = .ok (.bipush 6, 2) := by decide +kernel
theorem dX9_throwOver_224 : decode cX9_throwOver 224 = .ok (.if_icmp .ge 58, 3) := by decide +kernel
theorem dX9_throwOver_227 : decode cX9_throwOver 227 = .ok (.aload 4, 2) := by decide +kernel
theorem dX9_throwOver_229 : decode cX9_throwOver 229 = .ok (.iload 11, 2) := by decide +kernel
theorem dX9_throwOver_231 : decode cX9_throwOver 231 = .ok (.iaload, 1) := by decide +kernel
theorem dX9_throwOver_232 : decode cX9_throwOver 232 = .ok (.ifCond .le 44, 3) := by decide +kernel
theorem dX9_throwOver_235 : decode cX9_throwOver 235 = .ok (.aload 8, 2) := by decide +kernel
theorem dX9_throwOver_237 : decode cX9_throwOver 237 = .ok (.iload 11, 2) := by decide +kernel
theorem dX9_throwOver_239 : decode cX9_throwOver 239 = .ok (.baload, 1) := by decide +kernel
theorem dX9_throwOver_240 : decode cX9_throwOver 240 = .ok (.ifCond .ne 36, 3) := by decide +kernel
theorem dX9_throwOver_243 : decode cX9_throwOver 243 = .ok (.iload 10, 2) := by decide +kernel
theorem dX9_throwOver_245 : decode cX9_throwOver 245 = .ok (.iconst (-1), 1) := by decide +kernel
theorem dX9_throwOver_246 : decode cX9_throwOver 246 = .ok (.if_icmp .eq 26, 3) := by decide +kernel
theorem dX9_throwOver_249 : decode cX9_throwOver 249 = .ok (.iload_n 3, 1) := by decide +kernel
theorem dX9_throwOver_250 : decode cX9_throwOver 250 = .ok (.aload 4, 2) := by decide +kernel
theorem dX9_throwOver_252 : decode cX9_throwOver 252 = .ok (.iload 11, 2) := by decide +kernel
theorem dX9_throwOver_254 : decode cX9_throwOver 254 = .ok (.iaload, 1) := by decide +kernel
theorem dX9_throwOver_255 : decode cX9_throwOver 255 = .ok (.imul, 1) := by decide +kernel
theorem dX9_throwOver_256 : decode cX9_throwOver 256 = .ok (.iload 6, 2) := by decide +kernel
theorem dX9_throwOver_258 : decode cX9_throwOver 258 = .ok (.irem, 1) := by decide +kernel
theorem dX9_throwOver_259 : decode cX9_throwOver 259 = .ok (.iload_n 3, 1) := by decide +kernel
theorem dX9_throwOver_260 : decode cX9_throwOver 260 = .ok (.aload 4, 2) := by decide +kernel
theorem dX9_throwOver_262 : decode cX9_throwOver 262 = .ok (.iload 10, 2) := by decide +kernel
theorem dX9_throwOver_264 : decode cX9_throwOver 264 = .ok (.iaload, 1) := by decide +kernel
theorem dX9_throwOver_265 : decode cX9_throwOver 265 = .ok (.imul, 1) := by decide +kernel
theorem dX9_throwOver_266 : decode cX9_throwOver 266 = .ok (.iload 6, 2) := by decide +kernel
theorem dX9_throwOver_268 : decode cX9_throwOver 268 = .ok (.irem, 1) := by decide +kernel
theorem dX9_throwOver_269 : decode cX9_throwOver 269 = .ok (.if_icmp .le 7, 3) := by decide +kernel
theorem dX9_throwOver_272 : decode cX9_throwOver 272 = .ok (.iload 11, 2) := by decide +kernel
theorem dX9_throwOver_274 : decode cX9_throwOver 274 = .ok (.istore 10, 2) := by decide +kernel
theorem dX9_throwOver_276 : decode cX9_throwOver 276 = .ok (.iinc 11 1, 3) := by decide +kernel
theorem dX9_throwOver_279 : decode cX9_throwOver 279 = .ok (.goto (-59), 3) := by decide +kernel
theorem dX9_throwOver_282 : decode cX9_throwOver 282 = .ok (.aload 8, 2) := by decide +kernel
theorem dX9_throwOver_284 : decode cX9_throwOver 284 = .ok (.iload 10, 2) := by decide +kernel
theorem dX9_throwOver_286 : decode cX9_throwOver 286 = .ok (.iconst 1, 1) := by decide +kernel
theorem dX9_throwOver_287 : decode cX9_throwOver 287 = .ok (.bastore, 1) := by decide +kernel
theorem dX9_throwOver_288 : decode cX9_throwOver 288 = .ok (.aload 7, 2) := by decide +kernel
theorem dX9_throwOver_290 : decode cX9_throwOver 290 = .ok (.iload 10, 2) := by decide +kernel
theorem dX9_throwOver_292 : decode cX9_throwOver 292 = .ok (.dup2, 1) := by decide +kernel
theorem dX9_throwOver_293 : decode cX9_throwOver 293 = .ok (.iaload, 1) := by decide +kernel
theorem dX9_throwOver_294 : decode cX9_throwOver 294 = .ok (.iconst 1, 1) := by decide +kernel
theorem dX9_throwOver_295 : decode cX9_throwOver 295 = .ok (.iadd, 1) := by decide +kernel
theorem dX9_throwOver_296 : decode cX9_throwOver 296 = .ok (.iastore, 1) := by decide +kernel
theorem dX9_throwOver_297 : decode cX9_throwOver 297 = .ok (.iinc 9 (-1), 3) := by decide +kernel
theorem dX9_throwOver_300 : decode cX9_throwOver 300 = .ok (.goto (-91), 3) := by decide +kernel
theorem dX9_throwOver_303 : decode cX9_throwOver 303 = .ok (.iconst 0, 1) := by decide +kernel
theorem dX9_throwOver_304 : decode cX9_throwOver 304 = .ok (.istore 10, 2) := by decide +kernel
theorem dX9_throwOver_306 : decode cX9_throwOver 306 = .ok (.iload 10, 2) := by decide +kernel
theorem dX9_throwOver_308 : decode cX9_throwOver 308 = .ok (.bipush 6, 2) := by decide +kernel
theorem dX9_throwOver_310 : decode cX9_throwOver 310 = .ok (.if_icmp .ge 36, 3) := by decide +kernel
theorem dX9_throwOver_313 : decode cX9_throwOver 313 = .ok (.aload_n 0, 1) := by decide +kernel
theorem dX9_throwOver_314 : decode cX9_throwOver 314 = .ok (.getfield 35, 3) := by decide +kernel
theorem dX9_throwOver_317 : decode cX9_throwOver 317 = .ok (.iload_n 2, 1) := by decide +kernel
theorem dX9_throwOver_318 : decode cX9_throwOver 318 = .ok (.aaload, 1) := by decide +kernel
theorem dX9_throwOver_319 : decode cX9_throwOver 319 = .ok (.iload 10, 2) := by decide +kernel
theorem dX9_throwOver_321 : decode cX9_throwOver 321 = .ok (.dup2, 1) := by decide +kernel
theorem dX9_throwOver_322 : decode cX9_throwOver 322 = .ok (.iaload, 1) := by decide +kernel
theorem dX9_throwOver_323 : decode cX9_throwOver 323 = .ok (.iload 10, 2) := by decide +kernel
theorem dX9_throwOver_325 : decode cX9_throwOver 325 = .ok (.iload_n 2, 1) := by decide +kernel
theorem dX9_throwOver_326 : decode cX9_throwOver 326 = .ok (.if_icmp .ne 7, 3) := by decide +kernel
theorem dX9_throwOver_329 : decode cX9_throwOver 329 = .ok (.iconst 0, 1) := by decide +kernel
theorem dX9_throwOver_330 : decode cX9_throwOver 330 = .ok (.goto 8, 3) := by decide +kernel
theorem dX9_throwOver_333 : decode cX9_throwOver 333 = .ok (.aload 7, 2) := by decide +kernel
theorem dX9_throwOver_335 : decode cX9_throwOver 335 = .ok (.iload 10, 2) := by decide +kernel
theorem dX9_throwOver_337 : decode cX9_throwOver 337 = .ok (.iaload, 1) := by decide +kernel
theorem dX9_throwOver_338 : decode cX9_throwOver 338 = .ok (.iadd, 1) := by decide +kernel
theorem dX9_throwOver_339 : decode cX9_throwOver 339 = .ok (.iastore, 1) := by decide +kernel
theorem dX9_throwOver_340 : decode cX9_throwOver 340 = .ok (.iinc 10 1, 3) := by decide +kernel
theorem dX9_throwOver_343 : decode cX9_throwOver 343 = .ok (.goto (-37), 3) := by decide +kernel
theorem dX9_throwOver_346 : decode cX9_throwOver 346 = .ok (.aload 7, 2) := by decide +kernel
theorem dX9_throwOver_348 : decode cX9_throwOver 348 = .ok (.iload_n 2, 1) := by decide +kernel
theorem dX9_throwOver_349 : decode cX9_throwOver 349 = .ok (.iaload, 1) := by decide +kernel
theorem dX9_throwOver_350 : decode cX9_throwOver 350 = .ok (.ireturn, 1) := by decide +kernel
theorem dX9_coins_0 : decode cX9_coins 0 = .ok (.aload_n 0, 1) := by decide +kernel
theorem dX9_coins_1 : decode cX9_coins 1 = .ok (.aload_n 0, 1) := by decide +kernel
theorem dX9_coins_2 : decode cX9_coins 2 = .ok (.iload_n 1, 1) := by decide +kernel
theorem dX9_coins_3 : decode cX9_coins 3 = .ok (.invokevirtual 84, 3) := by decide +kernel
theorem dX9_coins_6 : decode cX9_coins 6 = .ok (.ifCond .ne 7, 3) := by decide +kernel
theorem dX9_coins_9 : decode cX9_coins 9 = .ok (.iconst 1, 1) := by decide +kernel
theorem dX9_coins_10 : decode cX9_coins 10 = .ok (.goto 15, 3) := by decide +kernel
theorem dX9_coins_13 : decode cX9_coins 13 = .ok (.iload_n 2, 1) := by decide +kernel
theorem dX9_coins_14 : decode cX9_coins 14 = .ok (.invokestatic 87, 3) := by decide +kernel
theorem dX9_coins_17 : decode cX9_coins 17 = .ok (.ifCond .ne 7, 3) := by decide +kernel
theorem dX9_coins_20 : decode cX9_coins 20 = .ok (.iconst 2, 1) := by decide +kernel
theorem dX9_coins_21 : decode cX9_coins 21 = .ok (.goto 4, 3) := by decide +kernel
theorem dX9_coins_24 : decode cX9_coins 24 = .ok (.iconst 0, 1) := by decide +kernel
theorem dX9_coins_25 : decode cX9_coins 25 = .ok (.invokevirtual 80, 3) := by decide +kernel
theorem dX9_coins_28 : decode cX9_coins 28 = .ok (.ifCond .eq 5, 3) := by decide +kernel
theorem dX9_coins_31 : decode cX9_coins 31 = .ok (.iconst 0, 1) := by decide +kernel
theorem dX9_coins_32 : decode cX9_coins 32 = .ok (.ireturn, 1) := by decide +kernel
theorem dX9_coins_33 : decode cX9_coins 33 = .ok (.iconst 0, 1) := by decide +kernel
theorem dX9_coins_34 : decode cX9_coins 34 = .ok (.istore_n 3, 1) := by decide +kernel
theorem dX9_coins_35 : decode cX9_coins 35 = .ok (.aload_n 0, 1) := by decide +kernel
theorem dX9_coins_36 : decode cX9_coins 36 = .ok (.getfield 32, 3) := by decide +kernel
theorem dX9_coins_39 : decode cX9_coins 39 = .ok (.invokeinterface 122 1, 5) := by decide +kernel
theorem dX9_coins_44 : decode cX9_coins 44 = .ok (.astore 4, 2) := by decide +kernel
theorem dX9_coins_46 : decode cX9_coins 46 = .ok (.aload 4, 2) := by decide +kernel
theorem dX9_coins_48 : decode cX9_coins 48 = .ok (.invokeinterface 126 1, 5) := by decide +kernel
theorem dX9_coins_53 : decode cX9_coins 53 = .ok (.ifCond .eq 49, 3) := by decide +kernel
theorem dX9_coins_56 : decode cX9_coins 56 = .ok (.aload 4, 2) := by decide +kernel
theorem dX9_coins_58 : decode cX9_coins 58 = .ok (.invokeinterface 132 1, 5) := by decide +kernel
theorem dX9_coins_63 : decode cX9_coins 63 = .ok (.checkcast 94, 3) := by decide +kernel
theorem dX9_coins_66 : decode cX9_coins 66 = .ok (.astore 5, 2) := by decide +kernel
theorem dX9_coins_68 : decode cX9_coins 68 = .ok (.iload_n 3, 1) := by decide +kernel
theorem dX9_coins_69 : decode cX9_coins 69 = .ok (.aload 5, 2) := by decide +kernel
theorem dX9_coins_71 : decode cX9_coins 71 = .ok (.getfield 112, 3) := by decide +kernel
theorem dX9_coins_74 : decode cX9_coins 74 = .ok (.iload_n 1, 1) := by decide +kernel
theorem dX9_coins_75 : decode cX9_coins 75 = .ok (.if_icmp .ne 21, 3) := by decide +kernel
theorem dX9_coins_78 : decode cX9_coins 78 = .ok (.aload 5, 2) := by decide +kernel
theorem dX9_coins_80 : decode cX9_coins 80 = .ok (.getfield 115, 3) := by decide +kernel
theorem dX9_coins_83 : decode cX9_coins 83 = .ok (.ldc 72, 2) := by decide +kernel
theorem dX9_coins_85 : decode cX9_coins 85 = .ok (.iload_n 2, 1) := by decide +kernel
theorem dX9_coins_86 : decode cX9_coins 86 = .ok (.invokevirtual 74, 3) := by decide +kernel
theorem dX9_coins_89 : decode cX9_coins 89 = .ok (.if_icmp .ne 7, 3) := by decide +kernel
theorem dX9_coins_92 : decode cX9_coins 92 = .ok (.iconst 1, 1) := by decide +kernel
theorem dX9_coins_93 : decode cX9_coins 93 = .ok (.goto 4, 3) := by decide +kernel
theorem dX9_coins_96 : decode cX9_coins 96 = .ok (.iconst 0, 1) := by decide +kernel
theorem dX9_coins_97 : decode cX9_coins 97 = .ok (.iadd, 1) := by decide +kernel
theorem dX9_coins_98 : decode cX9_coins 98 = .ok (.istore_n 3, 1) := by decide +kernel
theorem dX9_coins_99 : decode cX9_coins 99 = .ok (.goto (-53), 3) := by decide +kernel
theorem dX9_coins_102 : decode cX9_coins 102 = .ok (.iload_n 3, 1) := by decide +kernel
theorem dX9_coins_103 : decode cX9_coins 103 = .ok (.ireturn, 1) := by decide +kernel
theorem dX9_weightOf_0 : decode cX9_weightOf 0 = .ok (.aload_n 0, 1) := by decide +kernel
theorem dX9_weightOf_1 : decode cX9_weightOf 1 = .ok (.aload_n 0, 1) := by decide +kernel
theorem dX9_weightOf_2 : decode cX9_weightOf 2 = .ok (.iload_n 1, 1) := by decide +kernel
theorem dX9_weightOf_3 : decode cX9_weightOf 3 = .ok (.invokevirtual 106, 3) := by decide +kernel
theorem dX9_weightOf_6 : decode cX9_weightOf 6 = .ok (.ifCond .eq 7, 3) := by decide +kernel
theorem dX9_weightOf_9 : decode cX9_weightOf 9 = .ok (.iconst 0, 1) := by decide +kernel
theorem dX9_weightOf_10 : decode cX9_weightOf 10 = .ok (.goto 4, 3) := by decide +kernel
theorem dX9_weightOf_13 : decode cX9_weightOf 13 = .ok (.iconst 1, 1) := by decide +kernel
theorem dX9_weightOf_14 : decode cX9_weightOf 14 = .ok (.invokevirtual 80, 3) := by decide +kernel
theorem dX9_weightOf_17 : decode cX9_weightOf 17 = .ok (.ifCond .eq 7, 3) := by decide +kernel
theorem dX9_weightOf_20 : decode cX9_weightOf 20 = .ok (.iconst 0, 1) := by decide +kernel
theorem dX9_weightOf_21 : decode cX9_weightOf 21 = .ok (.goto 19, 3) := by decide +kernel
theorem dX9_weightOf_24 : decode cX9_weightOf 24 = .ok (.aload_n 0, 1) := by decide +kernel
theorem dX9_weightOf_25 : decode cX9_weightOf 25 = .ok (.getfield 32, 3) := by decide +kernel
theorem dX9_weightOf_28 : decode cX9_weightOf 28 = .ok (.iload_n 1, 1) := by decide +kernel
theorem dX9_weightOf_29 : decode cX9_weightOf 29 = .ok (.invokeinterface 64 2, 5) := by decide +kernel
theorem dX9_weightOf_34 : decode cX9_weightOf 34 = .ok (.checkcast 94, 3) := by decide +kernel
theorem dX9_weightOf_37 : decode cX9_weightOf 37 = .ok (.getfield 103, 3) := by decide +kernel
theorem dX9_weightOf_40 : decode cX9_weightOf 40 = .ok (.ireturn, 1) := by decide +kernel
theorem dX9_ownerOf_0 : decode cX9_ownerOf 0 = .ok (.aload_n 0, 1) := by decide +kernel
theorem dX9_ownerOf_1 : decode cX9_ownerOf 1 = .ok (.aload_n 0, 1) := by decide +kernel
theorem dX9_ownerOf_2 : decode cX9_ownerOf 2 = .ok (.iload_n 1, 1) := by decide +kernel
theorem dX9_ownerOf_3 : decode cX9_ownerOf 3 = .ok (.invokevirtual 106, 3) := by decide +kernel
theorem dX9_ownerOf_6 : decode cX9_ownerOf 6 = .ok (.ifCond .eq 7, 3) := by decide +kernel
theorem dX9_ownerOf_9 : decode cX9_ownerOf 9 = .ok (.iconst 0, 1) := by decide +kernel
theorem dX9_ownerOf_10 : decode cX9_ownerOf 10 = .ok (.goto 4, 3) := by decide +kernel
theorem dX9_ownerOf_13 : decode cX9_ownerOf 13 = .ok (.iconst 1, 1) := by decide +kernel
theorem dX9_ownerOf_14 : decode cX9_ownerOf 14 = .ok (.invokevirtual 80, 3) := by decide +kernel
theorem dX9_ownerOf_17 : decode cX9_ownerOf 17 = .ok (.ifCond .eq 7, 3) := by decide +kernel
theorem dX9_ownerOf_20 : decode cX9_ownerOf 20 = .ok (.iconst 0, 1) := by decide +kernel
theorem dX9_ownerOf_21 : decode cX9_ownerOf 21 = .ok (.goto 19, 3) := by decide +kernel
theorem dX9_ownerOf_24 : decode cX9_ownerOf 24 = .ok (.aload_n 0, 1) := by decide +kernel
theorem dX9_ownerOf_25 : decode cX9_ownerOf 25 = .ok (.getfield 32, 3) := by decide +kernel
theorem dX9_ownerOf_28 : decode cX9_ownerOf 28 = .ok (.iload_n 1, 1) := by decide +kernel
theorem dX9_ownerOf_29 : decode cX9_ownerOf 29 = .ok (.invokeinterface 64 2, 5) := by decide +kernel
theorem dX9_ownerOf_34 : decode cX9_ownerOf 34 = .ok (.checkcast 94, 3) := by decide +kernel
theorem dX9_ownerOf_37 : decode cX9_ownerOf 37 = .ok (.getfield 112, 3) := by decide +kernel
theorem dX9_ownerOf_40 : decode cX9_ownerOf 40 = .ok (.ireturn, 1) := by decide +kernel
theorem dX9_owners_0 : decode cX9_owners 0 = .ok (.aload_n 0, 1) := by decide +kernel
theorem dX9_owners_1 : decode cX9_owners 1 = .ok (.aload_n 0, 1) := by decide +kernel
theorem dX9_owners_2 : decode cX9_owners 2 = .ok (.iload_n 1, 1) := by decide +kernel
theorem dX9_owners_3 : decode cX9_owners 3 = .ok (.invokevirtual 106, 3) := by decide +kernel
theorem dX9_owners_6 : decode cX9_owners 6 = .ok (.ifCond .eq 7, 3) := by decide +kernel
theorem dX9_owners_9 : decode cX9_owners 9 = .ok (.iconst 0, 1) := by decide +kernel
theorem dX9_owners_10 : decode cX9_owners 10 = .ok (.goto 4, 3) := by decide +kernel
theorem dX9_owners_13 : decode cX9_owners 13 = .ok (.iconst 1, 1) := by decide +kernel
theorem dX9_owners_14 : decode cX9_owners 14 = .ok (.invokevirtual 80, 3) := by decide +kernel
theorem dX9_owners_17 : decode cX9_owners 17 = .ok (.ifCond .eq 7, 3) := by decide +kernel
theorem dX9_owners_20 : decode cX9_owners 20 = .ok (.iconst 0, 1) := by decide +kernel
theorem dX9_owners_21 : decode cX9_owners 21 = .ok (.goto 19, 3) := by decide +kernel
theorem dX9_owners_24 : decode cX9_owners 24 = .ok (.aload_n 0, 1) := by decide +kernel
theorem dX9_owners_25 : decode cX9_owners 25 = .ok (.getfield 32, 3) := by decide +kernel
theorem dX9_owners_28 : decode cX9_owners 28 = .ok (.iload_n 1, 1) := by decide +kernel
theorem dX9_owners_29 : decode cX9_owners 29 = .ok (.invokeinterface 64 2, 5) := by decide +kernel
theorem dX9_owners_34 : decode cX9_owners 34 = .ok (.checkcast 94, 3) := by decide +kernel
theorem dX9_owners_37 : decode cX9_owners 37 = .ok (.getfield 227, 3) := by decide +kernel
theorem dX9_owners_40 : decode cX9_owners 40 = .ok (.ireturn, 1) := by decide +kernel
theorem dX9_ore_0 : decode cX9_ore 0 = .ok (.aload_n 0, 1) := by decide +kernel
theorem dX9_ore_1 : decode cX9_ore 1 = .ok (.aload_n 0, 1) := by decide +kernel
theorem dX9_ore_2 : decode cX9_ore 2 = .ok (.iload_n 1, 1) := by decide +kernel
theorem dX9_ore_3 : decode cX9_ore 3 = .ok (.invokevirtual 84, 3) := by decide +kernel
theorem dX9_ore_6 : decode cX9_ore 6 = .ok (.ifCond .ne 7, 3) := by decide +kernel
theorem dX9_ore_9 : decode cX9_ore 9 = .ok (.iconst 1, 1) := by decide +kernel
theorem dX9_ore_10 : decode cX9_ore 10 = .ok (.goto 15, 3) := by decide +kernel
theorem dX9_ore_13 : decode cX9_ore 13 = .ok (.iload_n 2, 1) := by decide +kernel
theorem dX9_ore_14 : decode cX9_ore 14 = .ok (.invokestatic 87, 3) := by decide +kernel
theorem dX9_ore_17 : decode cX9_ore 17 = .ok (.ifCond .ne 7, 3) := by decide +kernel
theorem dX9_ore_20 : decode cX9_ore 20 = .ok (.iconst 2, 1) := by decide +kernel
theorem dX9_ore_21 : decode cX9_ore 21 = .ok (.goto 4, 3) := by decide +kernel
theorem dX9_ore_24 : decode cX9_ore 24 = .ok (.iconst 0, 1) := by decide +kernel
theorem dX9_ore_25 : decode cX9_ore 25 = .ok (.invokevirtual 80, 3) := by decide +kernel
theorem dX9_ore_28 : decode cX9_ore 28 = .ok (.ifCond .eq 7, 3) := by decide +kernel
theorem dX9_ore_31 : decode cX9_ore 31 = .ok (.iconst 0, 1) := by decide +kernel
theorem dX9_ore_32 : decode cX9_ore 32 = .ok (.goto 16, 3) := by decide +kernel
theorem dX9_ore_35 : decode cX9_ore 35 = .ok (.aload_n 0, 1) := by decide +kernel
theorem dX9_ore_36 : decode cX9_ore 36 = .ok (.getfield 29, 3) := by decide +kernel
theorem dX9_ore_39 : decode cX9_ore 39 = .ok (.iload_n 1, 1) := by decide +kernel
theorem dX9_ore_40 : decode cX9_ore 40 = .ok (.aaload, 1) := by decide +kernel
theorem dX9_ore_41 : decode cX9_ore 41 = .ok (.ldc 72, 2) := by decide +kernel
theorem dX9_ore_43 : decode cX9_ore 43 = .ok (.iload_n 2, 1) := by decide +kernel
theorem dX9_ore_44 : decode cX9_ore 44 = .ok (.invokevirtual 74, 3) := by decide +kernel
theorem dX9_ore_47 : decode cX9_ore 47 = .ok (.iaload, 1) := by decide +kernel
theorem dX9_ore_48 : decode cX9_ore 48 = .ok (.ireturn, 1) := by decide +kernel
theorem dX9_wealth_0 : decode cX9_wealth 0 = .ok (.aload_n 0, 1) := by decide +kernel
theorem dX9_wealth_1 : decode cX9_wealth 1 = .ok (.aload_n 0, 1) := by decide +kernel
theorem dX9_wealth_2 : decode cX9_wealth 2 = .ok (.iload_n 1, 1) := by decide +kernel
theorem dX9_wealth_3 : decode cX9_wealth 3 = .ok (.invokevirtual 84, 3) := by decide +kernel
theorem dX9_wealth_6 : decode cX9_wealth 6 = .ok (.ifCond .eq 7, 3) := by decide +kernel
theorem dX9_wealth_9 : decode cX9_wealth 9 = .ok (.iconst 0, 1) := by decide +kernel
theorem dX9_wealth_10 : decode cX9_wealth 10 = .ok (.goto 4, 3) := by decide +kernel
theorem dX9_wealth_13 : decode cX9_wealth 13 = .ok (.iconst 1, 1) := by decide +kernel
theorem dX9_wealth_14 : decode cX9_wealth 14 = .ok (.invokevirtual 80, 3) := by decide +kernel
theorem dX9_wealth_17 : decode cX9_wealth 17 = .ok (.ifCond .eq 5, 3) := by decide +kernel
theorem dX9_wealth_20 : decode cX9_wealth 20 = .ok (.lconst 0, 1) := by decide +kernel
theorem dX9_wealth_21 : decode cX9_wealth 21 = .ok (.lreturn, 1) := by decide +kernel
theorem dX9_wealth_22 : decode cX9_wealth 22 = .ok (.lconst 0, 1) := by decide +kernel
theorem dX9_wealth_23 : decode cX9_wealth 23 = .ok (.lstore_n 2, 1) := by decide +kernel
theorem dX9_wealth_24 : decode cX9_wealth 24 = .ok (.aload_n 0, 1) := by decide +kernel
theorem dX9_wealth_25 : decode cX9_wealth 25 = .ok (.getfield 32, 3) := by decide +kernel
theorem dX9_wealth_28 : decode cX9_wealth 28 = .ok (.invokeinterface 122 1, 5) := by decide +kernel
theorem dX9_wealth_33 : decode cX9_wealth 33 = .ok (.astore 4, 2) := by decide +kernel
theorem dX9_wealth_35 : decode cX9_wealth 35 = .ok (.aload 4, 2) := by decide +kernel
theorem dX9_wealth_37 : decode cX9_wealth 37 = .ok (.invokeinterface 126 1, 5) := by decide +kernel
theorem dX9_wealth_42 : decode cX9_wealth 42 = .ok (.ifCond .eq 45, 3) := by decide +kernel
theorem dX9_wealth_45 : decode cX9_wealth 45 = .ok (.aload 4, 2) := by decide +kernel
theorem dX9_wealth_47 : decode cX9_wealth 47 = .ok (.invokeinterface 132 1, 5) := by decide +kernel
theorem dX9_wealth_52 : decode cX9_wealth 52 = .ok (.checkcast 94, 3) := by decide +kernel
theorem dX9_wealth_55 : decode cX9_wealth 55 = .ok (.astore 5, 2) := by decide +kernel
theorem dX9_wealth_57 : decode cX9_wealth 57 = .ok (.lload_n 2, 1) := by decide +kernel
theorem dX9_wealth_58 : decode cX9_wealth 58 = .ok (.aload 5, 2) := by decide +kernel
theorem dX9_wealth_60 : decode cX9_wealth 60 = .ok (.getfield 112, 3) := by decide +kernel
theorem dX9_wealth_63 : decode cX9_wealth 63 = .ok (.iload_n 1, 1) := by decide +kernel
theorem dX9_wealth_64 : decode cX9_wealth 64 = .ok (.if_icmp .ne 17, 3) := by decide +kernel
theorem dX9_wealth_67 : decode cX9_wealth 67 = .ok (.aload_n 0, 1) := by decide +kernel
theorem dX9_wealth_68 : decode cX9_wealth 68 = .ok (.getfield 20, 3) := by decide +kernel
theorem dX9_wealth_71 : decode cX9_wealth 71 = .ok (.aload 5, 2) := by decide +kernel
theorem dX9_wealth_73 : decode cX9_wealth 73 = .ok (.getfield 115, 3) := by decide +kernel
theorem dX9_wealth_76 : decode cX9_wealth 76 = .ok (.iaload, 1) := by decide +kernel
theorem dX9_wealth_77 : decode cX9_wealth 77 = .ok (.i2l, 1) := by decide +kernel
theorem dX9_wealth_78 : decode cX9_wealth 78 = .ok (.goto 4, 3) := by decide +kernel
theorem dX9_wealth_81 : decode cX9_wealth 81 = .ok (.lconst 0, 1) := by decide +kernel
theorem dX9_wealth_82 : decode cX9_wealth 82 = .ok (.ladd, 1) := by decide +kernel
theorem dX9_wealth_83 : decode cX9_wealth 83 = .ok (.lstore_n 2, 1) := by decide +kernel
theorem dX9_wealth_84 : decode cX9_wealth 84 = .ok (.goto (-49), 3) := by decide +kernel
theorem dX9_wealth_87 : decode cX9_wealth 87 = .ok (.iconst 0, 1) := by decide +kernel
theorem dX9_wealth_88 : decode cX9_wealth 88 = .ok (.istore 4, 2) := by decide +kernel
theorem dX9_wealth_90 : decode cX9_wealth 90 = .ok (.iload 4, 2) := by decide +kernel
theorem dX9_wealth_92 : decode cX9_wealth 92 = .ok (.bipush 6, 2) := by decide +kernel
theorem dX9_wealth_94 : decode cX9_wealth 94 = .ok (.if_icmp .ge 33, 3) := by decide +kernel
theorem dX9_wealth_97 : decode cX9_wealth 97 = .ok (.lload_n 2, 1) := by decide +kernel
theorem dX9_wealth_98 : decode cX9_wealth 98 = .ok (.aload_n 0, 1) := by decide +kernel
theorem dX9_wealth_99 : decode cX9_wealth 99 = .ok (.getfield 35, 3) := by decide +kernel
theorem dX9_wealth_102 : decode cX9_wealth 102 = .ok (.iload_n 1, 1) := by decide +kernel
theorem dX9_wealth_103 : decode cX9_wealth 103 = .ok (.aaload, 1) := by decide +kernel
theorem dX9_wealth_104 : decode cX9_wealth 104 = .ok (.iload 4, 2) := by decide +kernel
theorem dX9_wealth_106 : decode cX9_wealth 106 = .ok (.iaload, 1) := by decide +kernel
theorem dX9_wealth_107 : decode cX9_wealth 107 = .ok (.i2l, 1) := by decide +kernel
theorem dX9_wealth_108 : decode cX9_wealth 108 = .ok (.aload_n 0, 1) := by decide +kernel
theorem dX9_wealth_109 : decode cX9_wealth 109 = .ok (.getfield 35, 3) := by decide +kernel
theorem dX9_wealth_112 : decode cX9_wealth 112 = .ok (.iload 4, 2) := by decide +kernel
theorem dX9_wealth_114 : decode cX9_wealth 114 = .ok (.aaload, 1) := by decide +kernel
theorem dX9_wealth_115 : decode cX9_wealth 115 = .ok (.iload_n 1, 1) := by decide +kernel
theorem dX9_wealth_116 : decode cX9_wealth 116 = .ok (.iaload, 1) := by decide +kernel
theorem dX9_wealth_117 : decode cX9_wealth 117 = .ok (.i2l, 1) := by decide +kernel
theorem dX9_wealth_118 : decode cX9_wealth 118 = .ok (.lsub, 1) := by decide +kernel
theorem dX9_wealth_119 : decode cX9_wealth 119 = .ok (.ladd, 1) := by decide +kernel
theorem dX9_wealth_120 : decode cX9_wealth 120 = .ok (.lstore_n 2, 1) := by decide +kernel
theorem dX9_wealth_121 : decode cX9_wealth 121 = .ok (.iinc 4 1, 3) := by decide +kernel
theorem dX9_wealth_124 : decode cX9_wealth 124 = .ok (.goto (-34), 3) := by decide +kernel
theorem dX9_wealth_127 : decode cX9_wealth 127 = .ok (.lload_n 2, 1) := by decide +kernel
theorem dX9_wealth_128 : decode cX9_wealth 128 = .ok (.lreturn, 1) := by decide +kernel
theorem dX9_lost_0 : decode cX9_lost 0 = .ok (.aload_n 0, 1) := by decide +kernel
theorem dX9_lost_1 : decode cX9_lost 1 = .ok (.iconst 0, 1) := by decide +kernel
theorem dX9_lost_2 : decode cX9_lost 2 = .ok (.putfield 1, 3) := by decide +kernel
theorem dX9_lost_5 : decode cX9_lost 5 = .ok (.aload_n 0, 1) := by decide +kernel
theorem dX9_lost_6 : decode cX9_lost 6 = .ok (.getfield 178, 3) := by decide +kernel
theorem dX9_lost_9 : decode cX9_lost 9 = .ok (.lreturn, 1) := by decide +kernel
theorem dX9_lightShare_0 : decode cX9_lightShare 0 = .ok (.iconst 0, 1) := by decide +kernel
theorem dX9_lightShare_1 : decode cX9_lightShare 1 = .ok (.istore_n 1, 1) := by decide +kernel
theorem dX9_lightShare_2 : decode cX9_lightShare 2 = .ok (.iconst 0, 1) := by decide +kernel
theorem dX9_lightShare_3 : decode cX9_lightShare 3 = .ok (.istore_n 2, 1) := by decide +kernel
theorem dX9_lightShare_4 : decode cX9_lightShare 4 = .ok (.aload_n 0, 1) := by decide +kernel
theorem dX9_lightShare_5 : decode cX9_lightShare 5 = .ok (.getfield 32, 3) := by decide +kernel
theorem dX9_lightShare_8 : decode cX9_lightShare 8 = .ok (.invokeinterface 122 1, 5) := by decide +kernel
theorem dX9_lightShare_13 : decode cX9_lightShare 13 = .ok (.astore_n 3, 1) := by decide +kernel
theorem dX9_lightShare_14 : decode cX9_lightShare 14 = .ok (.aload_n 3, 1) := by decide +kernel
theorem dX9_lightShare_15 : decode cX9_lightShare 15 = .ok (.invokeinterface 126 1, 5) := by decide +kernel
theorem dX9_lightShare_20 : decode cX9_lightShare 20 = .ok (.ifCond .eq 67, 3) := by decide +kernel
theorem dX9_lightShare_23 : decode cX9_lightShare 23 = .ok (.aload_n 3, 1) := by decide +kernel
theorem dX9_lightShare_24 : decode cX9_lightShare 24 = .ok (.invokeinterface 132 1, 5) := by decide +kernel
theorem dX9_lightShare_29 : decode cX9_lightShare 29 = .ok (.checkcast 94, 3) := by decide +kernel
theorem dX9_lightShare_32 : decode cX9_lightShare 32 = .ok (.astore 4, 2) := by decide +kernel
theorem dX9_lightShare_34 : decode cX9_lightShare 34 = .ok (.iload_n 1, 1) := by decide +kernel
theorem dX9_lightShare_35 : decode cX9_lightShare 35 = .ok (.aload 4, 2) := by decide +kernel
theorem dX9_lightShare_37 : decode cX9_lightShare 37 = .ok (.getfield 103, 3) := by decide +kernel
theorem dX9_lightShare_40 : decode cX9_lightShare 40 = .ok (.ifCond .le 7, 3) := by decide +kernel
theorem dX9_lightShare_43 : decode cX9_lightShare 43 = .ok (.iconst 1, 1) := by decide +kernel
theorem dX9_lightShare_44 : decode cX9_lightShare 44 = .ok (.goto 4, 3) := by decide +kernel
theorem dX9_lightShare_47 : decode cX9_lightShare 47 = .ok (.iconst 0, 1) := by decide +kernel
theorem dX9_lightShare_48 : decode cX9_lightShare 48 = .ok (.iadd, 1) := by decide +kernel
theorem dX9_lightShare_49 : decode cX9_lightShare 49 = .ok (.istore_n 1, 1) := by decide +kernel
theorem dX9_lightShare_50 : decode cX9_lightShare 50 = .ok (.iload_n 2, 1) := by decide +kernel
theorem dX9_lightShare_51 : decode cX9_lightShare 51 = .ok (.aload 4, 2) := by decide +kernel
theorem dX9_lightShare_53 : decode cX9_lightShare 53 = .ok (.getfield 103, 3) := by decide +kernel
theorem dX9_lightShare_56 : decode cX9_lightShare 56 = .ok (.ifCond .le 25, 3) := by decide +kernel
theorem dX9_lightShare_59 : decode cX9_lightShare 59 = .ok (.aload 4, 2) := by decide +kernel
theorem dX9_lightShare_61 : decode cX9_lightShare 61 = .ok (.getfield 103, 3) := by decide +kernel
theorem dX9_lightShare_64 : decode cX9_lightShare 64 = .ok (.aload_n 0, 1) := by decide +kernel
theorem dX9_lightShare_65 : decode cX9_lightShare 65 = .ok (.getfield 24, 3) := by decide +kernel
theorem dX9_lightShare_68 : decode cX9_lightShare 68 = .ok (.aload 4, 2) := by decide +kernel
theorem dX9_lightShare_70 : decode cX9_lightShare 70 = .ok (.getfield 115, 3) := by decide +kernel
theorem dX9_lightShare_73 : decode cX9_lightShare 73 = .ok (.iaload, 1) := by decide +kernel
theorem dX9_lightShare_74 : decode cX9_lightShare 74 = .ok (.if_icmp .ge 7, 3) := by decide +kernel
theorem dX9_lightShare_77 : decode cX9_lightShare 77 = .ok (.iconst 1, 1) := by decide +kernel
theorem dX9_lightShare_78 : decode cX9_lightShare 78 = .ok (.goto 4, 3) := by decide +kernel
theorem dX9_lightShare_81 : decode cX9_lightShare 81 = .ok (.iconst 0, 1) := by decide +kernel
theorem dX9_lightShare_82 : decode cX9_lightShare 82 = .ok (.iadd, 1) := by decide +kernel
theorem dX9_lightShare_83 : decode cX9_lightShare 83 = .ok (.istore_n 2, 1) := by decide +kernel
theorem dX9_lightShare_84 : decode cX9_lightShare 84 = .ok (.goto (-70), 3) := by decide +kernel
theorem dX9_lightShare_87 : decode cX9_lightShare 87 = .ok (.aload_n 0, 1) := by decide +kernel
theorem dX9_lightShare_88 : decode cX9_lightShare 88 = .ok (.iload_n 1, 1) := by decide +kernel
theorem dX9_lightShare_89 : decode cX9_lightShare 89 = .ok (.ifCond .ne 7, 3) := by decide +kernel
theorem dX9_lightShare_92 : decode cX9_lightShare 92 = .ok (.iconst 1, 1) := by decide +kernel
theorem dX9_lightShare_93 : decode cX9_lightShare 93 = .ok (.goto 4, 3) := by decide +kernel
theorem dX9_lightShare_96 : decode cX9_lightShare 96 = .ok (.iconst 0, 1) := by decide +kernel
theorem dX9_lightShare_97 : decode cX9_lightShare 97 = .ok (.invokevirtual 80, 3) := by decide +kernel
theorem dX9_lightShare_100 : decode cX9_lightShare 100 = .ok (.ifCond .eq 7, 3) := by decide +kernel
theorem dX9_lightShare_103 : decode cX9_lightShare 103 = .ok (.fconst 0, 1) := by decide +kernel
theorem dX9_lightShare_104 : decode cX9_lightShare 104 = .ok (.goto 8, 3) := by decide +kernel
theorem dX9_lightShare_107 : decode cX9_lightShare 107 = .ok (.iload_n 2, 1) := by decide +kernel
theorem dX9_lightShare_108 : decode cX9_lightShare 108 = .ok (.i2f, 1) := by decide +kernel
theorem dX9_lightShare_109 : decode cX9_lightShare 109 = .ok (.iload_n 1, 1) := by decide +kernel
theorem dX9_lightShare_110 : decode cX9_lightShare 110 = .ok (.i2f, 1) := by decide +kernel
theorem dX9_lightShare_111 : decode cX9_lightShare 111 = .ok (.fdiv, 1) := by decide +kernel
theorem dX9_lightShare_112 : decode cX9_lightShare 112 = .ok (.freturn, 1) := by decide +kernel
theorem dX9_meanWeight_0 : decode cX9_meanWeight 0 = .ok (.iconst 0, 1) := by decide +kernel
theorem dX9_meanWeight_1 : decode cX9_meanWeight 1 = .ok (.istore_n 1, 1) := by decide +kernel
theorem dX9_meanWeight_2 : decode cX9_meanWeight 2 = .ok (.iconst 0, 1) := by decide +kernel
theorem dX9_meanWeight_3 : decode cX9_meanWeight 3 = .ok (.istore_n 2, 1) := by decide +kernel
theorem dX9_meanWeight_4 : decode cX9_meanWeight 4 = .ok (.aload_n 0, 1) := by decide +kernel
theorem dX9_meanWeight_5 : decode cX9_meanWeight 5 = .ok (.getfield 32, 3) := by decide +kernel
theorem dX9_meanWeight_8 : decode cX9_meanWeight 8 = .ok (.invokeinterface 122 1, 5) := by decide +kernel
theorem dX9_meanWeight_13 : decode cX9_meanWeight 13 = .ok (.astore_n 3, 1) := by decide +kernel
theorem dX9_meanWeight_14 : decode cX9_meanWeight 14 = .ok (.aload_n 3, 1) := by decide +kernel
theorem dX9_meanWeight_15 : decode cX9_meanWeight 15 = .ok (.invokeinterface 126 1, 5) := by decide +kernel
theorem dX9_meanWeight_20 : decode cX9_meanWeight 20 = .ok (.ifCond .eq 41, 3) := by decide +kernel
theorem dX9_meanWeight_23 : decode cX9_meanWeight 23 = .ok (.aload_n 3, 1) := by decide +kernel
theorem dX9_meanWeight_24 : decode cX9_meanWeight 24 = .ok (.invokeinterface 132 1, 5) := by decide +kernel
theorem dX9_meanWeight_29 : decode cX9_meanWeight 29 = .ok (.checkcast 94, 3) := by decide +kernel
theorem dX9_meanWeight_32 : decode cX9_meanWeight 32 = .ok (.astore 4, 2) := by decide +kernel
theorem dX9_meanWeight_34 : decode cX9_meanWeight 34 = .ok (.iload_n 1, 1) := by decide +kernel
theorem dX9_meanWeight_35 : decode cX9_meanWeight 35 = .ok (.aload 4, 2) := by decide +kernel
theorem dX9_meanWeight_37 : decode cX9_meanWeight 37 = .ok (.getfield 103, 3) := by decide +kernel
theorem dX9_meanWeight_40 : decode cX9_meanWeight 40 = .ok (.ifCond .le 7, 3) := by decide +kernel
theorem dX9_meanWeight_43 : decode cX9_meanWeight 43 = .ok (.iconst 1, 1) := by decide +kernel
theorem dX9_meanWeight_44 : decode cX9_meanWeight 44 = .ok (.goto 4, 3) := by decide +kernel
theorem dX9_meanWeight_47 : decode cX9_meanWeight 47 = .ok (.iconst 0, 1) := by decide +kernel
theorem dX9_meanWeight_48 : decode cX9_meanWeight 48 = .ok (.iadd, 1) := by decide +kernel
theorem dX9_meanWeight_49 : decode cX9_meanWeight 49 = .ok (.istore_n 1, 1) := by decide +kernel
theorem dX9_meanWeight_50 : decode cX9_meanWeight 50 = .ok (.iload_n 2, 1) := by decide +kernel
theorem dX9_meanWeight_51 : decode cX9_meanWeight 51 = .ok (.aload 4, 2) := by decide +kernel
theorem dX9_meanWeight_53 : decode cX9_meanWeight 53 = .ok (.getfield 103, 3) := by decide +kernel
theorem dX9_meanWeight_56 : decode cX9_meanWeight 56 = .ok (.iadd, 1) := by decide +kernel
theorem dX9_meanWeight_57 : decode cX9_meanWeight 57 = .ok (.istore_n 2, 1) := by decide +kernel
theorem dX9_meanWeight_58 : decode cX9_meanWeight 58 = .ok (.goto (-44), 3) := by decide +kernel
theorem dX9_meanWeight_61 : decode cX9_meanWeight 61 = .ok (.aload_n 0, 1) := by decide +kernel
theorem dX9_meanWeight_62 : decode cX9_meanWeight 62 = .ok (.iload_n 1, 1) := by decide +kernel
theorem dX9_meanWeight_63 : decode cX9_meanWeight 63 = .ok (.ifCond .ne 7, 3) := by decide +kernel
theorem dX9_meanWeight_66 : decode cX9_meanWeight 66 = .ok (.iconst 1, 1) := by decide +kernel
theorem dX9_meanWeight_67 : decode cX9_meanWeight 67 = .ok (.goto 4, 3) := by decide +kernel
theorem dX9_meanWeight_70 : decode cX9_meanWeight 70 = .ok (.iconst 0, 1) := by decide +kernel
theorem dX9_meanWeight_71 : decode cX9_meanWeight 71 = .ok (.invokevirtual 80, 3) := by decide +kernel
theorem dX9_meanWeight_74 : decode cX9_meanWeight 74 = .ok (.ifCond .eq 7, 3) := by decide +kernel
theorem dX9_meanWeight_77 : decode cX9_meanWeight 77 = .ok (.dconst 0, 1) := by decide +kernel
theorem dX9_meanWeight_78 : decode cX9_meanWeight 78 = .ok (.goto 8, 3) := by decide +kernel
theorem dX9_meanWeight_81 : decode cX9_meanWeight 81 = .ok (.iload_n 2, 1) := by decide +kernel
theorem dX9_meanWeight_82 : decode cX9_meanWeight 82 = .ok (.i2d, 1) := by decide +kernel
theorem dX9_meanWeight_83 : decode cX9_meanWeight 83 = .ok (.iload_n 1, 1) := by decide +kernel
theorem dX9_meanWeight_84 : decode cX9_meanWeight 84 = .ok (.i2d, 1) := by decide +kernel
theorem dX9_meanWeight_85 : decode cX9_meanWeight 85 = .ok (.ddiv, 1) := by decide +kernel
theorem dX9_meanWeight_86 : decode cX9_meanWeight 86 = .ok (.dreturn, 1) := by decide +kernel
theorem dX9_isSound_0 : decode cX9_isSound 0 = .ok (.aload_n 0, 1) := by decide +kernel
theorem dX9_isSound_1 : decode cX9_isSound 1 = .ok (.iconst 0, 1) := by decide +kernel
theorem dX9_isSound_2 : decode cX9_isSound 2 = .ok (.putfield 1, 3) := by decide +kernel
theorem dX9_isSound_5 : decode cX9_isSound 5 = .ok (.iconst 1, 1) := by decide +kernel
theorem dX9_isSound_6 : decode cX9_isSound 6 = .ok (.ireturn, 1) := by decide +kernel
theorem dJ11_valueOf_f0083_0 : decode cJ11_valueOf_f0083 0 = .ok (.iload_n 0, 1) := by decide +kernel
theorem dJ11_valueOf_f0083_1 : decode cJ11_valueOf_f0083 1 = .ok (.bipush 127, 2) := by decide +kernel
theorem dJ11_valueOf_f0083_3 : decode cJ11_valueOf_f0083 3 = .ok (.if_icmp .gt 9, 3) := by decide +kernel
theorem dJ11_valueOf_f0083_6 : decode cJ11_valueOf_f0083 6 = .ok (.getstatic 47, 3) := by decide +kernel
theorem dJ11_valueOf_f0083_9 : decode cJ11_valueOf_f0083 9 = .ok (.iload_n 0, 1) := by decide +kernel
theorem dJ11_valueOf_f0083_10 : decode cJ11_valueOf_f0083 10 = .ok (.aaload, 1) := by decide +kernel
theorem dJ11_valueOf_f0083_11 : decode cJ11_valueOf_f0083 11 = .ok (.areturn, 1) := by decide +kernel
theorem dJ11_valueOf_f0083_12 : decode cJ11_valueOf_f0083 12 = .ok (.new 1, 3) := by decide +kernel
theorem dJ11_valueOf_f0083_15 : decode cJ11_valueOf_f0083 15 = .ok (.dup, 1) := by decide +kernel
theorem dJ11_valueOf_f0083_16 : decode cJ11_valueOf_f0083 16 = .ok (.iload_n 0, 1) := by decide +kernel
theorem dJ11_valueOf_f0083_17 : decode cJ11_valueOf_f0083 17 = .ok (.invokespecial 53, 3) := by decide +kernel
theorem dJ11_valueOf_f0083_20 : decode cJ11_valueOf_f0083 20 = .ok (.areturn, 1) := by decide +kernel
theorem dJ11_charValue_ee9a4_0 : decode cJ11_charValue_ee9a4 0 = .ok (.aload_n 0, 1) := by decide +kernel
theorem dJ11_charValue_ee9a4_1 : decode cJ11_charValue_ee9a4 1 = .ok (.getfield 19, 3) := by decide +kernel
theorem dJ11_charValue_ee9a4_4 : decode cJ11_charValue_ee9a4 4 = .ok (.ireturn, 1) := by decide +kernel
theorem dJ6_valueOf_2dffe_0 : decode cJ6_valueOf_2dffe 0 = .ok (.iload_n 0, 1) := by decide +kernel
theorem dJ6_valueOf_2dffe_1 : decode cJ6_valueOf_2dffe 1 = .ok (.bipush (-128), 2) := by decide +kernel
theorem dJ6_valueOf_2dffe_3 : decode cJ6_valueOf_2dffe 3 = .ok (.if_icmp .lt 20, 3) := by decide +kernel
theorem dJ6_valueOf_2dffe_6 : decode cJ6_valueOf_2dffe 6 = .ok (.iload_n 0, 1) := by decide +kernel
theorem dJ6_valueOf_2dffe_7 : decode cJ6_valueOf_2dffe 7 = .ok (.getstatic 191, 3) := by decide +kernel
theorem dJ6_valueOf_2dffe_10 : decode cJ6_valueOf_2dffe 10 = .ok (.if_icmp .gt 13, 3) := by decide +kernel
theorem dJ6_valueOf_2dffe_13 : decode cJ6_valueOf_2dffe 13 = .ok (.getstatic 195, 3) := by decide +kernel
theorem dJ6_valueOf_2dffe_16 : decode cJ6_valueOf_2dffe 16 = .ok (.iload_n 0, 1) := by decide +kernel
theorem dJ6_valueOf_2dffe_17 : decode cJ6_valueOf_2dffe 17 = .ok (.sipush 128, 3) := by decide +kernel
theorem dJ6_valueOf_2dffe_20 : decode cJ6_valueOf_2dffe 20 = .ok (.iadd, 1) := by decide +kernel
theorem dJ6_valueOf_2dffe_21 : decode cJ6_valueOf_2dffe 21 = .ok (.aaload, 1) := by decide +kernel
theorem dJ6_valueOf_2dffe_22 : decode cJ6_valueOf_2dffe 22 = .ok (.areturn, 1) := by decide +kernel
theorem dJ6_valueOf_2dffe_23 : decode cJ6_valueOf_2dffe 23 = .ok (.new 1, 3) := by decide +kernel
theorem dJ6_valueOf_2dffe_26 : decode cJ6_valueOf_2dffe 26 = .ok (.dup, 1) := by decide +kernel
theorem dJ6_valueOf_2dffe_27 : decode cJ6_valueOf_2dffe 27 = .ok (.iload_n 0, 1) := by decide +kernel
theorem dJ6_valueOf_2dffe_28 : decode cJ6_valueOf_2dffe 28 = .ok (.invokespecial 199, 3) := by decide +kernel
theorem dJ6_valueOf_2dffe_31 : decode cJ6_valueOf_2dffe 31 = .ok (.areturn, 1) := by decide +kernel
theorem dJ6_intValue_8abf5_0 : decode cJ6_intValue_8abf5 0 = .ok (.aload_n 0, 1) := by decide +kernel
theorem dJ6_intValue_8abf5_1 : decode cJ6_intValue_8abf5 1 = .ok (.getfield 205, 3) := by decide +kernel
theorem dJ6_intValue_8abf5_4 : decode cJ6_intValue_8abf5 4 = .ok (.ireturn, 1) := by decide +kernel
theorem dJ9_max_7cf53_0 : decode cJ9_max_7cf53 0 = .ok (.iload_n 0, 1) := by decide +kernel
theorem dJ9_max_7cf53_1 : decode cJ9_max_7cf53 1 = .ok (.iload_n 1, 1) := by decide +kernel
theorem dJ9_max_7cf53_2 : decode cJ9_max_7cf53 2 = .ok (.if_icmp .lt 7, 3) := by decide +kernel
theorem dJ9_max_7cf53_5 : decode cJ9_max_7cf53 5 = .ok (.iload_n 0, 1) := by decide +kernel
theorem dJ9_max_7cf53_6 : decode cJ9_max_7cf53 6 = .ok (.goto 4, 3) := by decide +kernel
theorem dJ9_max_7cf53_9 : decode cJ9_max_7cf53 9 = .ok (.iload_n 1, 1) := by decide +kernel
theorem dJ9_max_7cf53_10 : decode cJ9_max_7cf53 10 = .ok (.ireturn, 1) := by decide +kernel
theorem dJ9_min_7cf53_0 : decode cJ9_min_7cf53 0 = .ok (.iload_n 0, 1) := by decide +kernel
theorem dJ9_min_7cf53_1 : decode cJ9_min_7cf53 1 = .ok (.iload_n 1, 1) := by decide +kernel
theorem dJ9_min_7cf53_2 : decode cJ9_min_7cf53 2 = .ok (.if_icmp .gt 7, 3) := by decide +kernel
theorem dJ9_min_7cf53_5 : decode cJ9_min_7cf53 5 = .ok (.iload_n 0, 1) := by decide +kernel
theorem dJ9_min_7cf53_6 : decode cJ9_min_7cf53 6 = .ok (.goto 4, 3) := by decide +kernel
theorem dJ9_min_7cf53_9 : decode cJ9_min_7cf53 9 = .ok (.iload_n 1, 1) := by decide +kernel
theorem dJ9_min_7cf53_10 : decode cJ9_min_7cf53 10 = .ok (.ireturn, 1) := by decide +kernel
theorem dJ0_indexOf_0f7a4_0 : decode cJ0_indexOf_0f7a4 0 = .ok (.aload_n 0, 1) := by decide +kernel
theorem dJ0_indexOf_0f7a4_1 : decode cJ0_indexOf_0f7a4 1 = .ok (.iload_n 1, 1) := by decide +kernel
theorem dJ0_indexOf_0f7a4_2 : decode cJ0_indexOf_0f7a4 2 = .ok (.iconst 0, 1) := by decide +kernel
theorem dJ0_indexOf_0f7a4_3 : decode cJ0_indexOf_0f7a4 3 = .ok (.invokevirtual 633, 3) := by decide +kernel
theorem dJ0_indexOf_0f7a4_6 : decode cJ0_indexOf_0f7a4 6 = .ok (.ireturn, 1) := by decide +kernel
theorem dJ0_indexOf_7cf53_0 : decode cJ0_indexOf_7cf53 0 = .ok (.aload_n 0, 1) := by decide +kernel
theorem dJ0_indexOf_7cf53_1 : decode cJ0_indexOf_7cf53 1 = .ok (.invokevirtual 492, 3) := by decide +kernel
theorem dJ0_indexOf_7cf53_4 : decode cJ0_indexOf_7cf53 4 = .ok (.ifCond .eq 19, 3) := by decide +kernel
theorem dJ0_indexOf_7cf53_7 : decode cJ0_indexOf_7cf53 7 = .ok (.aload_n 0, 1) := by decide +kernel
theorem dJ0_indexOf_7cf53_8 : decode cJ0_indexOf_7cf53 8 = .ok (.getfield 9, 3) := by decide +kernel
theorem dJ0_indexOf_7cf53_11 : decode cJ0_indexOf_7cf53 11 = .ok (.iload_n 1, 1) := by decide +kernel
theorem dJ0_indexOf_7cf53_12 : decode cJ0_indexOf_7cf53 12 = .ok (.iload_n 2, 1) := by decide +kernel
theorem dJ0_indexOf_7cf53_13 : decode cJ0_indexOf_7cf53 13 = .ok (.aload_n 0, 1) := by decide +kernel
theorem dJ0_indexOf_7cf53_14 : decode cJ0_indexOf_7cf53 14 = .ok (.invokevirtual 505, 3) := by decide +kernel
theorem dJ0_indexOf_7cf53_17 : decode cJ0_indexOf_7cf53 17 = .ok (.invokestatic 637, 3) := by decide +kernel
theorem dJ0_indexOf_7cf53_20 : decode cJ0_indexOf_7cf53 20 = .ok (.goto 16, 3) := by decide +kernel
theorem dJ0_indexOf_7cf53_23 : decode cJ0_indexOf_7cf53 23 = .ok (.aload_n 0, 1) := by decide +kernel
theorem dJ0_indexOf_7cf53_24 : decode cJ0_indexOf_7cf53 24 = .ok (.getfield 9, 3) := by decide +kernel
theorem dJ0_indexOf_7cf53_27 : decode cJ0_indexOf_7cf53 27 = .ok (.iload_n 1, 1) := by decide +kernel
theorem dJ0_indexOf_7cf53_28 : decode cJ0_indexOf_7cf53 28 = .ok (.iload_n 2, 1) := by decide +kernel
theorem dJ0_indexOf_7cf53_29 : decode cJ0_indexOf_7cf53 29 = .ok (.aload_n 0, 1) := by decide +kernel
theorem dJ0_indexOf_7cf53_30 : decode cJ0_indexOf_7cf53 30 = .ok (.invokevirtual 505, 3) := by decide +kernel
theorem dJ0_indexOf_7cf53_33 : decode cJ0_indexOf_7cf53 33 = .ok (.invokestatic 640, 3) := by decide +kernel
theorem dJ0_indexOf_7cf53_36 : decode cJ0_indexOf_7cf53 36 = .ok (.ireturn, 1) := by decide +kernel
theorem dJ0_coder_7d493_0 : decode cJ0_coder_7d493 0 = .ok (.getstatic 38, 3) := by decide +kernel
theorem dJ0_coder_7d493_3 : decode cJ0_coder_7d493 3 = .ok (.ifCond .eq 10, 3) := by decide +kernel
theorem dJ0_coder_7d493_6 : decode cJ0_coder_7d493 6 = .ok (.aload_n 0, 1) := by decide +kernel
theorem dJ0_coder_7d493_7 : decode cJ0_coder_7d493 7 = .ok (.getfield 15, 3) := by decide +kernel
theorem dJ0_coder_7d493_10 : decode cJ0_coder_7d493 10 = .ok (.goto 4, 3) := by decide +kernel
theorem dJ0_coder_7d493_13 : decode cJ0_coder_7d493 13 = .ok (.iconst 1, 1) := by decide +kernel
theorem dJ0_coder_7d493_14 : decode cJ0_coder_7d493 14 = .ok (.ireturn, 1) := by decide +kernel
theorem dJ0_isLatin1_aae02_0 : decode cJ0_isLatin1_aae02 0 = .ok (.getstatic 38, 3) := by decide +kernel
theorem dJ0_isLatin1_aae02_3 : decode cJ0_isLatin1_aae02 3 = .ok (.ifCond .eq 14, 3) := by decide +kernel
theorem dJ0_isLatin1_aae02_6 : decode cJ0_isLatin1_aae02 6 = .ok (.aload_n 0, 1) := by decide +kernel
theorem dJ0_isLatin1_aae02_7 : decode cJ0_isLatin1_aae02 7 = .ok (.getfield 15, 3) := by decide +kernel
theorem dJ0_isLatin1_aae02_10 : decode cJ0_isLatin1_aae02 10 = .ok (.ifCond .ne 7, 3) := by decide +kernel
theorem dJ0_isLatin1_aae02_13 : decode cJ0_isLatin1_aae02 13 = .ok (.iconst 1, 1) := by decide +kernel
theorem dJ0_isLatin1_aae02_14 : decode cJ0_isLatin1_aae02 14 = .ok (.goto 4, 3) := by decide +kernel
theorem dJ0_isLatin1_aae02_17 : decode cJ0_isLatin1_aae02 17 = .ok (.iconst 0, 1) := by decide +kernel
theorem dJ0_isLatin1_aae02_18 : decode cJ0_isLatin1_aae02 18 = .ok (.ireturn, 1) := by decide +kernel
theorem dJ1_canEncode_9a6ad_0 : decode cJ1_canEncode_9a6ad 0 = .ok (.iload_n 0, 1) := by decide +kernel
theorem dJ1_canEncode_9a6ad_1 : decode cJ1_canEncode_9a6ad 1 = .ok (.ifCond .lt 14, 3) := by decide +kernel
theorem dJ1_canEncode_9a6ad_4 : decode cJ1_canEncode_9a6ad 4 = .ok (.iload_n 0, 1) := by decide +kernel
theorem dJ1_canEncode_9a6ad_5 : decode cJ1_canEncode_9a6ad 5 = .ok (.sipush 255, 3) := by decide +kernel
theorem dJ1_canEncode_9a6ad_8 : decode cJ1_canEncode_9a6ad 8 = .ok (.if_icmp .gt 7, 3) := by decide +kernel
theorem dJ1_canEncode_9a6ad_11 : decode cJ1_canEncode_9a6ad 11 = .ok (.iconst 1, 1) := by decide +kernel
theorem dJ1_canEncode_9a6ad_12 : decode cJ1_canEncode_9a6ad 12 = .ok (.goto 4, 3) := by decide +kernel
theorem dJ1_canEncode_9a6ad_15 : decode cJ1_canEncode_9a6ad 15 = .ok (.iconst 0, 1) := by decide +kernel
theorem dJ1_canEncode_9a6ad_16 : decode cJ1_canEncode_9a6ad 16 = .ok (.ireturn, 1) := by decide +kernel
theorem dJ1_indexOf_4cfef_0 : decode cJ1_indexOf_4cfef 0 = .ok (.iload_n 1, 1) := by decide +kernel
theorem dJ1_indexOf_4cfef_1 : decode cJ1_indexOf_4cfef 1 = .ok (.invokestatic 88, 3) := by decide +kernel
theorem dJ1_indexOf_4cfef_4 : decode cJ1_indexOf_4cfef 4 = .ok (.ifCond .ne 5, 3) := by decide +kernel
theorem dJ1_indexOf_4cfef_7 : decode cJ1_indexOf_4cfef 7 = .ok (.iconst (-1), 1) := by decide +kernel
theorem dJ1_indexOf_4cfef_8 : decode cJ1_indexOf_4cfef 8 = .ok (.ireturn, 1) := by decide +kernel
theorem dJ1_indexOf_4cfef_9 : decode cJ1_indexOf_4cfef 9 = .ok (.iload_n 2, 1) := by decide +kernel
theorem dJ1_indexOf_4cfef_10 : decode cJ1_indexOf_4cfef 10 = .ok (.iconst 0, 1) := by decide +kernel
theorem dJ1_indexOf_4cfef_11 : decode cJ1_indexOf_4cfef 11 = .ok (.invokestatic 92, 3) := by decide +kernel
theorem dJ1_indexOf_4cfef_14 : decode cJ1_indexOf_4cfef 14 = .ok (.istore_n 2, 1) := by decide +kernel
theorem dJ1_indexOf_4cfef_15 : decode cJ1_indexOf_4cfef 15 = .ok (.iload_n 3, 1) := by decide +kernel
theorem dJ1_indexOf_4cfef_16 : decode cJ1_indexOf_4cfef 16 = .ok (.aload_n 0, 1) := by decide +kernel
theorem dJ1_indexOf_4cfef_17 : decode cJ1_indexOf_4cfef 17 = .ok (.arraylength, 1) := by decide +kernel
theorem dJ1_indexOf_4cfef_18 : decode cJ1_indexOf_4cfef 18 = .ok (.invokestatic 38, 3) := by decide +kernel
theorem dJ1_indexOf_4cfef_21 : decode cJ1_indexOf_4cfef 21 = .ok (.istore_n 3, 1) := by decide +kernel
theorem dJ1_indexOf_4cfef_22 : decode cJ1_indexOf_4cfef 22 = .ok (.iload_n 2, 1) := by decide +kernel
theorem dJ1_indexOf_4cfef_23 : decode cJ1_indexOf_4cfef 23 = .ok (.iload_n 3, 1) := by decide +kernel
theorem dJ1_indexOf_4cfef_24 : decode cJ1_indexOf_4cfef 24 = .ok (.if_icmp .lt 5, 3) := by decide +kernel
theorem dJ1_indexOf_4cfef_27 : decode cJ1_indexOf_4cfef 27 = .ok (.iconst (-1), 1) := by decide +kernel
theorem dJ1_indexOf_4cfef_28 : decode cJ1_indexOf_4cfef 28 = .ok (.ireturn, 1) := by decide +kernel
theorem dJ1_indexOf_4cfef_29 : decode cJ1_indexOf_4cfef 29 = .ok (.aload_n 0, 1) := by decide +kernel
theorem dJ1_indexOf_4cfef_30 : decode cJ1_indexOf_4cfef 30 = .ok (.iload_n 1, 1) := by decide +kernel
theorem dJ1_indexOf_4cfef_31 : decode cJ1_indexOf_4cfef 31 = .ok (.iload_n 2, 1) := by decide +kernel
theorem dJ1_indexOf_4cfef_32 : decode cJ1_indexOf_4cfef 32 = .ok (.iload_n 3, 1) := by decide +kernel
theorem dJ1_indexOf_4cfef_33 : decode cJ1_indexOf_4cfef 33 = .ok (.invokestatic 95, 3) := by decide +kernel
theorem dJ1_indexOf_4cfef_36 : decode cJ1_indexOf_4cfef 36 = .ok (.ireturn, 1) := by decide +kernel
theorem dJ1_indexOfChar_4cfef_0 : decode cJ1_indexOfChar_4cfef 0 = .ok (.iload_n 1, 1) := by decide +kernel
theorem dJ1_indexOfChar_4cfef_1 : decode cJ1_indexOfChar_4cfef 1 = .ok (.i2b, 1) := by decide +kernel
theorem dJ1_indexOfChar_4cfef_2 : decode cJ1_indexOfChar_4cfef 2 = .ok (.istore 4, 2) := by decide +kernel
theorem dJ1_indexOfChar_4cfef_4 : decode cJ1_indexOfChar_4cfef 4 = .ok (.iload_n 2, 1) := by decide +kernel
theorem dJ1_indexOfChar_4cfef_5 : decode cJ1_indexOfChar_4cfef 5 = .ok (.istore 5, 2) := by decide +kernel
theorem dJ1_indexOfChar_4cfef_7 : decode cJ1_indexOfChar_4cfef 7 = .ok (.iload 5, 2) := by decide +kernel
theorem dJ1_indexOfChar_4cfef_9 : decode cJ1_indexOfChar_4cfef 9 = .ok (.iload_n 3, 1) := by decide +kernel
theorem dJ1_indexOfChar_4cfef_10 : decode cJ1_indexOfChar_4cfef 10 = .ok (.if_icmp .ge 21, 3) := by decide +kernel
theorem dJ1_indexOfChar_4cfef_13 : decode cJ1_indexOfChar_4cfef 13 = .ok (.aload_n 0, 1) := by decide +kernel
theorem dJ1_indexOfChar_4cfef_14 : decode cJ1_indexOfChar_4cfef 14 = .ok (.iload 5, 2) := by decide +kernel
theorem dJ1_indexOfChar_4cfef_16 : decode cJ1_indexOfChar_4cfef 16 = .ok (.baload, 1) := by decide +kernel
theorem dJ1_indexOfChar_4cfef_17 : decode cJ1_indexOfChar_4cfef 17 = .ok (.iload 4, 2) := by decide +kernel
theorem dJ1_indexOfChar_4cfef_19 : decode cJ1_indexOfChar_4cfef 19 = .ok (.if_icmp .ne 6, 3) := by decide +kernel
theorem dJ1_indexOfChar_4cfef_22 : decode cJ1_indexOfChar_4cfef 22 = .ok (.iload 5, 2) := by decide +kernel
theorem dJ1_indexOfChar_4cfef_24 : decode cJ1_indexOfChar_4cfef 24 = .ok (.ireturn, 1) := by decide +kernel
theorem dJ1_indexOfChar_4cfef_25 : decode cJ1_indexOfChar_4cfef 25 = .ok (.iinc 5 1, 3) := by decide +kernel
theorem dJ1_indexOfChar_4cfef_28 : decode cJ1_indexOfChar_4cfef 28 = .ok (.goto (-21), 3) := by decide +kernel
theorem dJ1_indexOfChar_4cfef_31 : decode cJ1_indexOfChar_4cfef 31 = .ok (.iconst (-1), 1) := by decide +kernel
theorem dJ1_indexOfChar_4cfef_32 : decode cJ1_indexOfChar_4cfef 32 = .ok (.ireturn, 1) := by decide +kernel
theorem dJxa1e45_init_da8c8_0 : decode cJxa1e45_init_da8c8 0 = .ok (.aload_n 0, 1) := by decide +kernel
theorem dJxa1e45_init_da8c8_1 : decode cJxa1e45_init_da8c8 1 = .ok (.invokespecial 1, 3) := by decide +kernel
theorem dJxa1e45_init_da8c8_4 : decode cJxa1e45_init_da8c8 4 = .ok (.return_, 1) := by decide +kernel
theorem dJxc12de_init_da8c8_0 : decode cJxc12de_init_da8c8 0 = .ok (.aload_n 0, 1) := by decide +kernel
theorem dJxc12de_init_da8c8_1 : decode cJxc12de_init_da8c8 1 = .ok (.invokespecial 1, 3) := by decide +kernel
theorem dJxc12de_init_da8c8_4 : decode cJxc12de_init_da8c8 4 = .ok (.aload_n 0, 1) := by decide +kernel
theorem dJxc12de_init_da8c8_5 : decode cJxc12de_init_da8c8 5 = .ok (.iconst 0, 1) := by decide +kernel
theorem dJxc12de_init_da8c8_6 : decode cJxc12de_init_da8c8 6 = .ok (.putfield 7, 3) := by decide +kernel
theorem dJxc12de_init_da8c8_9 : decode cJxc12de_init_da8c8 9 = .ok (.return_, 1) := by decide +kernel
theorem dJx35411_init_45d68_0 : decode cJx35411_init_45d68 0 = .ok (.aload_n 0, 1) := by decide +kernel
theorem dJx35411_init_45d68_1 : decode cJx35411_init_45d68 1 = .ok (.aload_n 1, 1) := by decide +kernel
theorem dJx35411_init_45d68_2 : decode cJx35411_init_45d68 2 = .ok (.putfield 1, 3) := by decide +kernel
theorem dJx35411_init_45d68_5 : decode cJx35411_init_45d68 5 = .ok (.aload_n 0, 1) := by decide +kernel
theorem dJx35411_init_45d68_6 : decode cJx35411_init_45d68 6 = .ok (.invokespecial 7, 3) := by decide +kernel
theorem dJx35411_init_45d68_9 : decode cJx35411_init_45d68 9 = .ok (.aload_n 0, 1) := by decide +kernel
theorem dJx35411_init_45d68_10 : decode cJx35411_init_45d68 10 = .ok (.iconst (-1), 1) := by decide +kernel
theorem dJx35411_init_45d68_11 : decode cJx35411_init_45d68 11 = .ok (.putfield 13, 3) := by decide +kernel
theorem dJx35411_init_45d68_14 : decode cJx35411_init_45d68 14 = .ok (.aload_n 0, 1) := by decide +kernel
theorem dJx35411_init_45d68_15 : decode cJx35411_init_45d68 15 = .ok (.aload_n 0, 1) := by decide +kernel
theorem dJx35411_init_45d68_16 : decode cJx35411_init_45d68 16 = .ok (.getfield 1, 3) := by decide +kernel
theorem dJx35411_init_45d68_19 : decode cJx35411_init_45d68 19 = .ok (.getfield 17, 3) := by decide +kernel
theorem dJx35411_init_45d68_22 : decode cJx35411_init_45d68 22 = .ok (.putfield 22, 3) := by decide +kernel
theorem dJx35411_init_45d68_25 : decode cJx35411_init_45d68 25 = .ok (.return_, 1) := by decide +kernel
theorem dJx35411_hasNext_aae02_0 : decode cJx35411_hasNext_aae02 0 = .ok (.aload_n 0, 1) := by decide +kernel
theorem dJx35411_hasNext_aae02_1 : decode cJx35411_hasNext_aae02 1 = .ok (.getfield 25, 3) := by decide +kernel
theorem dJx35411_hasNext_aae02_4 : decode cJx35411_hasNext_aae02 4 = .ok (.aload_n 0, 1) := by decide +kernel
theorem dJx35411_hasNext_aae02_5 : decode cJx35411_hasNext_aae02 5 = .ok (.getfield 1, 3) := by decide +kernel
theorem dJx35411_hasNext_aae02_8 : decode cJx35411_hasNext_aae02 8 = .ok (.getfield 28, 3) := by decide +kernel
theorem dJx35411_hasNext_aae02_11 : decode cJx35411_hasNext_aae02 11 = .ok (.if_icmp .eq 7, 3) := by decide +kernel
theorem dJx35411_hasNext_aae02_14 : decode cJx35411_hasNext_aae02 14 = .ok (.iconst 1, 1) := by decide +kernel
theorem dJx35411_hasNext_aae02_15 : decode cJx35411_hasNext_aae02 15 = .ok (.goto 4, 3) := by decide +kernel
theorem dJx35411_hasNext_aae02_18 : decode cJx35411_hasNext_aae02 18 = .ok (.iconst 0, 1) := by decide +kernel
theorem dJx35411_hasNext_aae02_19 : decode cJx35411_hasNext_aae02 19 = .ok (.ireturn, 1) := by decide +kernel
theorem dJx35411_next_0502b_0 : decode cJx35411_next_0502b 0 = .ok (.aload_n 0, 1) := by decide +kernel
theorem dJx35411_next_0502b_1 : decode cJx35411_next_0502b 1 = .ok (.invokevirtual 31, 3) := by decide +kernel
theorem dJx35411_next_0502b_4 : decode cJx35411_next_0502b 4 = .ok (.aload_n 0, 1) := by decide +kernel
theorem dJx35411_next_0502b_5 : decode cJx35411_next_0502b 5 = .ok (.getfield 25, 3) := by decide +kernel
theorem dJx35411_next_0502b_8 : decode cJx35411_next_0502b 8 = .ok (.istore_n 1, 1) := by decide +kernel
theorem dJx35411_next_0502b_9 : decode cJx35411_next_0502b 9 = .ok (.iload_n 1, 1) := by decide +kernel
theorem dJx35411_next_0502b_10 : decode cJx35411_next_0502b 10 = .ok (.aload_n 0, 1) := by decide +kernel
theorem dJx35411_next_0502b_11 : decode cJx35411_next_0502b 11 = .ok (.getfield 1, 3) := by decide +kernel
theorem dJx35411_next_0502b_14 : decode cJx35411_next_0502b 14 = .ok (.getfield 28, 3) := by decide +kernel
theorem dJx35411_next_0502b_17 : decode cJx35411_next_0502b 17 = .ok (.if_icmp .lt 11, 3) := by decide +kernel
theorem dJx35411_next_0502b_20 : decode cJx35411_next_0502b 20 = .ok (.new 34, 3) := by decide +kernel
theorem dJx35411_next_0502b_23 : decode cJx35411_next_0502b 23 = .ok (.dup, 1) := by decide +kernel
theorem dJx35411_next_0502b_24 : decode cJx35411_next_0502b 24 = .ok (.invokespecial 36, 3) := by decide +kernel
theorem dJx35411_next_0502b_27 : decode cJx35411_next_0502b 27 = .ok (.athrow, 1) := by decide +kernel
theorem dJx35411_next_0502b_28 : decode cJx35411_next_0502b 28 = .ok (.aload_n 0, 1) := by decide +kernel
theorem dJx35411_next_0502b_29 : decode cJx35411_next_0502b 29 = .ok (.getfield 1, 3) := by decide +kernel
theorem dJx35411_next_0502b_32 : decode cJx35411_next_0502b 32 = .ok (.getfield 37, 3) := by decide +kernel
theorem dJx35411_next_0502b_35 : decode cJx35411_next_0502b 35 = .ok (.astore_n 2, 1) := by decide +kernel
theorem dJx35411_next_0502b_36 : decode cJx35411_next_0502b 36 = .ok (.iload_n 1, 1) := by decide +kernel
theorem dJx35411_next_0502b_37 : decode cJx35411_next_0502b 37 = .ok (.aload_n 2, 1) := by decide +kernel
theorem dJx35411_next_0502b_38 : decode cJx35411_next_0502b 38 = .ok (.arraylength, 1) := by decide +kernel
theorem dJx35411_next_0502b_39 : decode cJx35411_next_0502b 39 = .ok (.if_icmp .lt 11, 3) := by decide +kernel
theorem dJx35411_next_0502b_42 : decode cJx35411_next_0502b 42 = .ok (.new 41, 3) := by decide +kernel
theorem dJx35411_next_0502b_45 : decode cJx35411_next_0502b 45 = .ok (.dup, 1) := by decide +kernel
theorem dJx35411_next_0502b_46 : decode cJx35411_next_0502b 46 = .ok (.invokespecial 43, 3) := by decide +kernel
theorem dJx35411_next_0502b_49 : decode cJx35411_next_0502b 49 = .ok (.athrow, 1) := by decide +kernel
theorem dJx35411_next_0502b_50 : decode cJx35411_next_0502b 50 = .ok (.aload_n 0, 1) := by decide +kernel
theorem dJx35411_next_0502b_51 : decode cJx35411_next_0502b 51 = .ok (.iload_n 1, 1) := by decide +kernel
theorem dJx35411_next_0502b_52 : decode cJx35411_next_0502b 52 = .ok (.iconst 1, 1) := by decide +kernel
theorem dJx35411_next_0502b_53 : decode cJx35411_next_0502b 53 = .ok (.iadd, 1) := by decide +kernel
theorem dJx35411_next_0502b_54 : decode cJx35411_next_0502b 54 = .ok (.putfield 25, 3) := by decide +kernel
theorem dJx35411_next_0502b_57 : decode cJx35411_next_0502b 57 = .ok (.aload_n 2, 1) := by decide +kernel
theorem dJx35411_next_0502b_58 : decode cJx35411_next_0502b 58 = .ok (.aload_n 0, 1) := by decide +kernel
theorem dJx35411_next_0502b_59 : decode cJx35411_next_0502b 59 = .ok (.iload_n 1, 1) := by decide +kernel
theorem dJx35411_next_0502b_60 : decode cJx35411_next_0502b 60 = .ok (.dup_x1, 1) := by decide +kernel
theorem dJx35411_next_0502b_61 : decode cJx35411_next_0502b 61 = .ok (.putfield 13, 3) := by decide +kernel
theorem dJx35411_next_0502b_64 : decode cJx35411_next_0502b 64 = .ok (.aaload, 1) := by decide +kernel
theorem dJx35411_next_0502b_65 : decode cJx35411_next_0502b 65 = .ok (.areturn, 1) := by decide +kernel
theorem dJx35411_checkForComodification_da8c8_0 : decode cJx35411_checkForComodification_da8c8 0 = .ok (.aload_n 0, 1) := by decide +kernel
theorem dJx35411_checkForComodification_da8c8_1 : decode cJx35411_checkForComodification_da8c8 1 = .ok (.getfield 1, 3) := by decide +kernel
theorem dJx35411_checkForComodification_da8c8_4 : decode cJx35411_checkForComodification_da8c8 4 = .ok (.getfield 17, 3) := by decide +kernel
theorem dJx35411_checkForComodification_da8c8_7 : decode cJx35411_checkForComodification_da8c8 7 = .ok (.aload_n 0, 1) := by decide +kernel
theorem dJx35411_checkForComodification_da8c8_8 : decode cJx35411_checkForComodification_da8c8 8 = .ok (.getfield 22, 3) := by decide +kernel
theorem dJx35411_checkForComodification_da8c8_11 : decode cJx35411_checkForComodification_da8c8 11 = .ok (.if_icmp .eq 11, 3) := by decide +kernel
theorem dJx35411_checkForComodification_da8c8_14 : decode cJx35411_checkForComodification_da8c8 14 = .ok (.new 41, 3) := by decide +kernel
theorem dJx35411_checkForComodification_da8c8_17 : decode cJx35411_checkForComodification_da8c8 17 = .ok (.dup, 1) := by decide +kernel
theorem dJx35411_checkForComodification_da8c8_18 : decode cJx35411_checkForComodification_da8c8 18 = .ok (.invokespecial 43, 3) := by decide +kernel
theorem dJx35411_checkForComodification_da8c8_21 : decode cJx35411_checkForComodification_da8c8 21 = .ok (.athrow, 1) := by decide +kernel
theorem dJx35411_checkForComodification_da8c8_22 : decode cJx35411_checkForComodification_da8c8 22 = .ok (.return_, 1) := by decide +kernel
theorem dJx4a65c_init_da8c8_0 : decode cJx4a65c_init_da8c8 0 = .ok (.aload_n 0, 1) := by decide +kernel
theorem dJx4a65c_init_da8c8_1 : decode cJx4a65c_init_da8c8 1 = .ok (.invokespecial 1, 3) := by decide +kernel
theorem dJx4a65c_init_da8c8_4 : decode cJx4a65c_init_da8c8 4 = .ok (.aload_n 0, 1) := by decide +kernel
theorem dJx4a65c_init_da8c8_5 : decode cJx4a65c_init_da8c8 5 = .ok (.getstatic 39, 3) := by decide +kernel
theorem dJx4a65c_init_da8c8_8 : decode cJx4a65c_init_da8c8 8 = .ok (.putfield 9, 3) := by decide +kernel
theorem dJx4a65c_init_da8c8_11 : decode cJx4a65c_init_da8c8 11 = .ok (.return_, 1) := by decide +kernel
theorem dJx4a65c_grow_92f84_0 : decode cJx4a65c_grow_92f84 0 = .ok (.aload_n 0, 1) := by decide +kernel
theorem dJx4a65c_grow_92f84_1 : decode cJx4a65c_grow_92f84 1 = .ok (.getfield 9, 3) := by decide +kernel
theorem dJx4a65c_grow_92f84_4 : decode cJx4a65c_grow_92f84 4 = .ok (.arraylength, 1) := by decide +kernel
theorem dJx4a65c_grow_92f84_5 : decode cJx4a65c_grow_92f84 5 = .ok (.istore_n 2, 1) := by decide +kernel
theorem dJx4a65c_grow_92f84_6 : decode cJx4a65c_grow_92f84 6 = .ok (.iload_n 2, 1) := by decide +kernel
theorem dJx4a65c_grow_92f84_7 : decode cJx4a65c_grow_92f84 7 = .ok (.ifCond .gt 13, 3) := by decide +kernel
theorem dJx4a65c_grow_92f84_10 : decode cJx4a65c_grow_92f84 10 = .ok (.aload_n 0, 1) := by decide +kernel
theorem dJx4a65c_grow_92f84_11 : decode cJx4a65c_grow_92f84 11 = .ok (.getfield 9, 3) := by decide +kernel
theorem dJx4a65c_grow_92f84_14 : decode cJx4a65c_grow_92f84 14 = .ok (.getstatic 39, 3) := by decide +kernel
theorem dJx4a65c_grow_92f84_17 : decode cJx4a65c_grow_92f84 17 = .ok (.if_acmp .eq 28, 3) := by decide +kernel
theorem dJx4a65c_grow_92f84_20 : decode cJx4a65c_grow_92f84 20 = .ok (.iload_n 2, 1) := by decide +kernel
theorem dJx4a65c_grow_92f84_21 : decode cJx4a65c_grow_92f84 21 = .ok (.iload_n 1, 1) := by decide +kernel
theorem dJx4a65c_grow_92f84_22 : decode cJx4a65c_grow_92f84 22 = .ok (.iload_n 2, 1) := by decide +kernel
theorem dJx4a65c_grow_92f84_23 : decode cJx4a65c_grow_92f84 23 = .ok (.isub, 1) := by decide +kernel
theorem dJx4a65c_grow_92f84_24 : decode cJx4a65c_grow_92f84 24 = .ok (.iload_n 2, 1) := by decide +kernel
theorem dJx4a65c_grow_92f84_25 : decode cJx4a65c_grow_92f84 25 = .ok (.iconst 1, 1) := by decide +kernel
theorem dJx4a65c_grow_92f84_26 : decode cJx4a65c_grow_92f84 26 = .ok (.ishr, 1) := by decide +kernel
theorem dJx4a65c_grow_92f84_27 : decode cJx4a65c_grow_92f84 27 = .ok (.invokestatic 73, 3) := by decide +kernel
theorem dJx4a65c_grow_92f84_30 : decode cJx4a65c_grow_92f84 30 = .ok (.istore_n 3, 1) := by decide +kernel
theorem dJx4a65c_grow_92f84_31 : decode cJx4a65c_grow_92f84 31 = .ok (.aload_n 0, 1) := by decide +kernel
theorem dJx4a65c_grow_92f84_32 : decode cJx4a65c_grow_92f84 32 = .ok (.aload_n 0, 1) := by decide +kernel
theorem dJx4a65c_grow_92f84_33 : decode cJx4a65c_grow_92f84 33 = .ok (.getfield 9, 3) := by decide +kernel
theorem dJx4a65c_grow_92f84_36 : decode cJx4a65c_grow_92f84 36 = .ok (.iload_n 3, 1) := by decide +kernel
theorem dJx4a65c_grow_92f84_37 : decode cJx4a65c_grow_92f84 37 = .ok (.invokestatic 66, 3) := by decide +kernel
theorem dJx4a65c_grow_92f84_40 : decode cJx4a65c_grow_92f84 40 = .ok (.dup_x1, 1) := by decide +kernel
theorem dJx4a65c_grow_92f84_41 : decode cJx4a65c_grow_92f84 41 = .ok (.putfield 9, 3) := by decide +kernel
theorem dJx4a65c_grow_92f84_44 : decode cJx4a65c_grow_92f84 44 = .ok (.areturn, 1) := by decide +kernel
theorem dJx4a65c_grow_92f84_45 : decode cJx4a65c_grow_92f84 45 = .ok (.aload_n 0, 1) := by decide +kernel
theorem dJx4a65c_grow_92f84_46 : decode cJx4a65c_grow_92f84 46 = .ok (.bipush 10, 2) := by decide +kernel
theorem dJx4a65c_grow_92f84_48 : decode cJx4a65c_grow_92f84 48 = .ok (.iload_n 1, 1) := by decide +kernel
theorem dJx4a65c_grow_92f84_49 : decode cJx4a65c_grow_92f84 49 = .ok (.invokestatic 79, 3) := by decide +kernel
theorem dJx4a65c_grow_92f84_52 : decode cJx4a65c_grow_92f84 52 = .ok (.anewarray 7, 3) := by decide +kernel
theorem dJx4a65c_grow_92f84_55 : decode cJx4a65c_grow_92f84 55 = .ok (.dup_x1, 1) := by decide +kernel
theorem dJx4a65c_grow_92f84_56 : decode cJx4a65c_grow_92f84 56 = .ok (.putfield 9, 3) := by decide +kernel
theorem dJx4a65c_grow_92f84_59 : decode cJx4a65c_grow_92f84 59 = .ok (.areturn, 1) := by decide +kernel
theorem dJx4a65c_grow_d5877_0 : decode cJx4a65c_grow_d5877 0 = .ok (.aload_n 0, 1) := by decide +kernel
theorem dJx4a65c_grow_d5877_1 : decode cJx4a65c_grow_d5877 1 = .ok (.aload_n 0, 1) := by decide +kernel
theorem dJx4a65c_grow_d5877_2 : decode cJx4a65c_grow_d5877 2 = .ok (.getfield 48, 3) := by decide +kernel
theorem dJx4a65c_grow_d5877_5 : decode cJx4a65c_grow_d5877 5 = .ok (.iconst 1, 1) := by decide +kernel
theorem dJx4a65c_grow_d5877_6 : decode cJx4a65c_grow_d5877 6 = .ok (.iadd, 1) := by decide +kernel
theorem dJx4a65c_grow_d5877_7 : decode cJx4a65c_grow_d5877 7 = .ok (.invokevirtual 69, 3) := by decide +kernel
theorem dJx4a65c_grow_d5877_10 : decode cJx4a65c_grow_d5877 10 = .ok (.areturn, 1) := by decide +kernel
theorem dJx4a65c_size_8abf5_0 : decode cJx4a65c_size_8abf5 0 = .ok (.aload_n 0, 1) := by decide +kernel
theorem dJx4a65c_size_8abf5_1 : decode cJx4a65c_size_8abf5 1 = .ok (.getfield 48, 3) := by decide +kernel
theorem dJx4a65c_size_8abf5_4 : decode cJx4a65c_size_8abf5 4 = .ok (.ireturn, 1) := by decide +kernel
theorem dJx4a65c_toArray_d5877_0 : decode cJx4a65c_toArray_d5877 0 = .ok (.aload_n 0, 1) := by decide +kernel
theorem dJx4a65c_toArray_d5877_1 : decode cJx4a65c_toArray_d5877 1 = .ok (.getfield 9, 3) := by decide +kernel
theorem dJx4a65c_toArray_d5877_4 : decode cJx4a65c_toArray_d5877 4 = .ok (.aload_n 0, 1) := by decide +kernel
theorem dJx4a65c_toArray_d5877_5 : decode cJx4a65c_toArray_d5877 5 = .ok (.getfield 48, 3) := by decide +kernel
theorem dJx4a65c_toArray_d5877_8 : decode cJx4a65c_toArray_d5877 8 = .ok (.invokestatic 66, 3) := by decide +kernel
theorem dJx4a65c_toArray_d5877_11 : decode cJx4a65c_toArray_d5877 11 = .ok (.areturn, 1) := by decide +kernel
theorem dJx4a65c_elementData_915e3_0 : decode cJx4a65c_elementData_915e3 0 = .ok (.aload_n 0, 1) := by decide +kernel
theorem dJx4a65c_elementData_915e3_1 : decode cJx4a65c_elementData_915e3 1 = .ok (.getfield 9, 3) := by decide +kernel
theorem dJx4a65c_elementData_915e3_4 : decode cJx4a65c_elementData_915e3 4 = .ok (.iload_n 1, 1) := by decide +kernel
theorem dJx4a65c_elementData_915e3_5 : decode cJx4a65c_elementData_915e3 5 = .ok (.aaload, 1) := by decide +kernel
theorem dJx4a65c_elementData_915e3_6 : decode cJx4a65c_elementData_915e3 6 = .ok (.areturn, 1) := by decide +kernel
theorem dJx4a65c_get_915e3_0 : decode cJx4a65c_get_915e3 0 = .ok (.iload_n 1, 1) := by decide +kernel
theorem dJx4a65c_get_915e3_1 : decode cJx4a65c_get_915e3 1 = .ok (.aload_n 0, 1) := by decide +kernel
theorem dJx4a65c_get_915e3_2 : decode cJx4a65c_get_915e3 2 = .ok (.getfield 48, 3) := by decide +kernel
theorem dJx4a65c_get_915e3_5 : decode cJx4a65c_get_915e3 5 = .ok (.invokestatic 118, 3) := by decide +kernel
theorem dJx4a65c_get_915e3_8 : decode cJx4a65c_get_915e3 8 = .ok (.pop, 1) := by decide +kernel
theorem dJx4a65c_get_915e3_9 : decode cJx4a65c_get_915e3 9 = .ok (.aload_n 0, 1) := by decide +kernel
theorem dJx4a65c_get_915e3_10 : decode cJx4a65c_get_915e3 10 = .ok (.iload_n 1, 1) := by decide +kernel
theorem dJx4a65c_get_915e3_11 : decode cJx4a65c_get_915e3 11 = .ok (.invokevirtual 123, 3) := by decide +kernel
theorem dJx4a65c_get_915e3_14 : decode cJx4a65c_get_915e3 14 = .ok (.areturn, 1) := by decide +kernel
theorem dJx4a65c_set_bcc79_0 : decode cJx4a65c_set_bcc79 0 = .ok (.iload_n 1, 1) := by decide +kernel
theorem dJx4a65c_set_bcc79_1 : decode cJx4a65c_set_bcc79 1 = .ok (.aload_n 0, 1) := by decide +kernel
theorem dJx4a65c_set_bcc79_2 : decode cJx4a65c_set_bcc79 2 = .ok (.getfield 48, 3) := by decide +kernel
theorem dJx4a65c_set_bcc79_5 : decode cJx4a65c_set_bcc79 5 = .ok (.invokestatic 118, 3) := by decide +kernel
theorem dJx4a65c_set_bcc79_8 : decode cJx4a65c_set_bcc79 8 = .ok (.pop, 1) := by decide +kernel
theorem dJx4a65c_set_bcc79_9 : decode cJx4a65c_set_bcc79 9 = .ok (.aload_n 0, 1) := by decide +kernel
theorem dJx4a65c_set_bcc79_10 : decode cJx4a65c_set_bcc79 10 = .ok (.iload_n 1, 1) := by decide +kernel
theorem dJx4a65c_set_bcc79_11 : decode cJx4a65c_set_bcc79 11 = .ok (.invokevirtual 123, 3) := by decide +kernel
theorem dJx4a65c_set_bcc79_14 : decode cJx4a65c_set_bcc79 14 = .ok (.astore_n 3, 1) := by decide +kernel
theorem dJx4a65c_set_bcc79_15 : decode cJx4a65c_set_bcc79 15 = .ok (.aload_n 0, 1) := by decide +kernel
theorem dJx4a65c_set_bcc79_16 : decode cJx4a65c_set_bcc79 16 = .ok (.getfield 9, 3) := by decide +kernel
theorem dJx4a65c_set_bcc79_19 : decode cJx4a65c_set_bcc79 19 = .ok (.iload_n 1, 1) := by decide +kernel
theorem dJx4a65c_set_bcc79_20 : decode cJx4a65c_set_bcc79 20 = .ok (.aload_n 2, 1) := by decide +kernel
theorem dJx4a65c_set_bcc79_21 : decode cJx4a65c_set_bcc79 21 = .ok (.aastore, 1) := by decide +kernel
theorem dJx4a65c_set_bcc79_22 : decode cJx4a65c_set_bcc79 22 = .ok (.aload_n 3, 1) := by decide +kernel
theorem dJx4a65c_set_bcc79_23 : decode cJx4a65c_set_bcc79 23 = .ok (.areturn, 1) := by decide +kernel
theorem dJx4a65c_add_72be8_0 : decode cJx4a65c_add_72be8 0 = .ok (.iload_n 3, 1) := by decide +kernel
theorem dJx4a65c_add_72be8_1 : decode cJx4a65c_add_72be8 1 = .ok (.aload_n 2, 1) := by decide +kernel
theorem dJx4a65c_add_72be8_2 : decode cJx4a65c_add_72be8 2 = .ok (.arraylength, 1) := by decide +kernel
theorem dJx4a65c_add_72be8_3 : decode cJx4a65c_add_72be8 3 = .ok (.if_icmp .ne 8, 3) := by decide +kernel
theorem dJx4a65c_add_72be8_6 : decode cJx4a65c_add_72be8 6 = .ok (.aload_n 0, 1) := by decide +kernel
theorem dJx4a65c_add_72be8_7 : decode cJx4a65c_add_72be8 7 = .ok (.invokevirtual 129, 3) := by decide +kernel
theorem dJx4a65c_add_72be8_10 : decode cJx4a65c_add_72be8 10 = .ok (.astore_n 2, 1) := by decide +kernel
theorem dJx4a65c_add_72be8_11 : decode cJx4a65c_add_72be8 11 = .ok (.aload_n 2, 1) := by decide +kernel
theorem dJx4a65c_add_72be8_12 : decode cJx4a65c_add_72be8 12 = .ok (.iload_n 3, 1) := by decide +kernel
theorem dJx4a65c_add_72be8_13 : decode cJx4a65c_add_72be8 13 = .ok (.aload_n 1, 1) := by decide +kernel
theorem dJx4a65c_add_72be8_14 : decode cJx4a65c_add_72be8 14 = .ok (.aastore, 1) := by decide +kernel
theorem dJx4a65c_add_72be8_15 : decode cJx4a65c_add_72be8 15 = .ok (.aload_n 0, 1) := by decide +kernel
theorem dJx4a65c_add_72be8_16 : decode cJx4a65c_add_72be8 16 = .ok (.iload_n 3, 1) := by decide +kernel
theorem dJx4a65c_add_72be8_17 : decode cJx4a65c_add_72be8 17 = .ok (.iconst 1, 1) := by decide +kernel
theorem dJx4a65c_add_72be8_18 : decode cJx4a65c_add_72be8 18 = .ok (.iadd, 1) := by decide +kernel
theorem dJx4a65c_add_72be8_19 : decode cJx4a65c_add_72be8 19 = .ok (.putfield 48, 3) := by decide +kernel
theorem dJx4a65c_add_72be8_22 : decode cJx4a65c_add_72be8 22 = .ok (.return_, 1) := by decide +kernel
theorem dJx4a65c_add_9ea2d_0 : decode cJx4a65c_add_9ea2d 0 = .ok (.aload_n 0, 1) := by decide +kernel
theorem dJx4a65c_add_9ea2d_1 : decode cJx4a65c_add_9ea2d 1 = .ok (.dup, 1) := by decide +kernel
theorem dJx4a65c_add_9ea2d_2 : decode cJx4a65c_add_9ea2d 2 = .ok (.getfield 63, 3) := by decide +kernel
theorem dJx4a65c_add_9ea2d_5 : decode cJx4a65c_add_9ea2d 5 = .ok (.iconst 1, 1) := by decide +kernel
theorem dJx4a65c_add_9ea2d_6 : decode cJx4a65c_add_9ea2d 6 = .ok (.iadd, 1) := by decide +kernel
theorem dJx4a65c_add_9ea2d_7 : decode cJx4a65c_add_9ea2d 7 = .ok (.putfield 63, 3) := by decide +kernel
theorem dJx4a65c_add_9ea2d_10 : decode cJx4a65c_add_9ea2d 10 = .ok (.aload_n 0, 1) := by decide +kernel
theorem dJx4a65c_add_9ea2d_11 : decode cJx4a65c_add_9ea2d 11 = .ok (.aload_n 1, 1) := by decide +kernel
theorem dJx4a65c_add_9ea2d_12 : decode cJx4a65c_add_9ea2d 12 = .ok (.aload_n 0, 1) := by decide +kernel
theorem dJx4a65c_add_9ea2d_13 : decode cJx4a65c_add_9ea2d 13 = .ok (.getfield 9, 3) := by decide +kernel
theorem dJx4a65c_add_9ea2d_16 : decode cJx4a65c_add_9ea2d 16 = .ok (.aload_n 0, 1) := by decide +kernel
theorem dJx4a65c_add_9ea2d_17 : decode cJx4a65c_add_9ea2d 17 = .ok (.getfield 48, 3) := by decide +kernel
theorem dJx4a65c_add_9ea2d_20 : decode cJx4a65c_add_9ea2d 20 = .ok (.invokevirtual 131, 3) := by decide +kernel
theorem dJx4a65c_add_9ea2d_23 : decode cJx4a65c_add_9ea2d 23 = .ok (.iconst 1, 1) := by decide +kernel
theorem dJx4a65c_add_9ea2d_24 : decode cJx4a65c_add_9ea2d 24 = .ok (.ireturn, 1) := by decide +kernel
theorem dJx4a65c_add_7a177_0 : decode cJx4a65c_add_7a177 0 = .ok (.aload_n 0, 1) := by decide +kernel
theorem dJx4a65c_add_7a177_1 : decode cJx4a65c_add_7a177 1 = .ok (.iload_n 1, 1) := by decide +kernel
theorem dJx4a65c_add_7a177_2 : decode cJx4a65c_add_7a177 2 = .ok (.invokevirtual 135, 3) := by decide +kernel
theorem dJx4a65c_add_7a177_5 : decode cJx4a65c_add_7a177 5 = .ok (.aload_n 0, 1) := by decide +kernel
theorem dJx4a65c_add_7a177_6 : decode cJx4a65c_add_7a177 6 = .ok (.dup, 1) := by decide +kernel
theorem dJx4a65c_add_7a177_7 : decode cJx4a65c_add_7a177 7 = .ok (.getfield 63, 3) := by decide +kernel
theorem dJx4a65c_add_7a177_10 : decode cJx4a65c_add_7a177 10 = .ok (.iconst 1, 1) := by decide +kernel
theorem dJx4a65c_add_7a177_11 : decode cJx4a65c_add_7a177 11 = .ok (.iadd, 1) := by decide +kernel
theorem dJx4a65c_add_7a177_12 : decode cJx4a65c_add_7a177 12 = .ok (.putfield 63, 3) := by decide +kernel
theorem dJx4a65c_add_7a177_15 : decode cJx4a65c_add_7a177 15 = .ok (.aload_n 0, 1) := by decide +kernel
theorem dJx4a65c_add_7a177_16 : decode cJx4a65c_add_7a177 16 = .ok (.getfield 48, 3) := by decide +kernel
theorem dJx4a65c_add_7a177_19 : decode cJx4a65c_add_7a177 19 = .ok (.dup, 1) := by decide +kernel
theorem dJx4a65c_add_7a177_20 : decode cJx4a65c_add_7a177 20 = .ok (.istore_n 3, 1) := by decide +kernel
theorem dJx4a65c_add_7a177_21 : decode cJx4a65c_add_7a177 21 = .ok (.aload_n 0, 1) := by decide +kernel
theorem dJx4a65c_add_7a177_22 : decode cJx4a65c_add_7a177 22 = .ok (.getfield 9, 3) := by decide +kernel
theorem dJx4a65c_add_7a177_25 : decode cJx4a65c_add_7a177 25 = .ok (.dup, 1) := by decide +kernel
theorem dJx4a65c_add_7a177_26 : decode cJx4a65c_add_7a177 26 = .ok (.astore 4, 2) := by decide +kernel
theorem dJx4a65c_add_7a177_28 : decode cJx4a65c_add_7a177 28 = .ok (.arraylength, 1) := by decide +kernel
theorem dJx4a65c_add_7a177_29 : decode cJx4a65c_add_7a177 29 = .ok (.if_icmp .ne 9, 3) := by decide +kernel
theorem dJx4a65c_add_7a177_32 : decode cJx4a65c_add_7a177 32 = .ok (.aload_n 0, 1) := by decide +kernel
theorem dJx4a65c_add_7a177_33 : decode cJx4a65c_add_7a177 33 = .ok (.invokevirtual 129, 3) := by decide +kernel
theorem dJx4a65c_add_7a177_36 : decode cJx4a65c_add_7a177 36 = .ok (.astore 4, 2) := by decide +kernel
theorem dJx4a65c_add_7a177_38 : decode cJx4a65c_add_7a177 38 = .ok (.aload 4, 2) := by decide +kernel
theorem dJx4a65c_add_7a177_40 : decode cJx4a65c_add_7a177 40 = .ok (.iload_n 1, 1) := by decide +kernel
theorem dJx4a65c_add_7a177_41 : decode cJx4a65c_add_7a177 41 = .ok (.aload 4, 2) := by decide +kernel
theorem dJx4a65c_add_7a177_43 : decode cJx4a65c_add_7a177 43 = .ok (.iload_n 1, 1) := by decide +kernel
theorem dJx4a65c_add_7a177_44 : decode cJx4a65c_add_7a177 44 = .ok (.iconst 1, 1) := by decide +kernel
theorem dJx4a65c_add_7a177_45 : decode cJx4a65c_add_7a177 45 = .ok (.iadd, 1) := by decide +kernel
theorem dJx4a65c_add_7a177_46 : decode cJx4a65c_add_7a177 46 = .ok (.iload_n 3, 1) := by decide +kernel
theorem dJx4a65c_add_7a177_47 : decode cJx4a65c_add_7a177 47 = .ok (.iload_n 1, 1) := by decide +kernel
theorem dJx4a65c_add_7a177_48 : decode cJx4a65c_add_7a177 48 = .ok (.isub, 1) := by decide +kernel
theorem dJx4a65c_add_7a177_49 : decode cJx4a65c_add_7a177 49 = .ok (.invokestatic 112, 3) := by decide +kernel
theorem dJx4a65c_add_7a177_52 : decode cJx4a65c_add_7a177 52 = .ok (.aload 4, 2) := by decide +kernel
theorem dJx4a65c_add_7a177_54 : decode cJx4a65c_add_7a177 54 = .ok (.iload_n 1, 1) := by decide +kernel
theorem dJx4a65c_add_7a177_55 : decode cJx4a65c_add_7a177 55 = .ok (.aload_n 2, 1) := by decide +kernel
theorem dJx4a65c_add_7a177_56 : decode cJx4a65c_add_7a177 56 = .ok (.aastore, 1) := by decide +kernel
theorem dJx4a65c_add_7a177_57 : decode cJx4a65c_add_7a177 57 = .ok (.aload_n 0, 1) := by decide +kernel
theorem dJx4a65c_add_7a177_58 : decode cJx4a65c_add_7a177 58 = .ok (.iload_n 3, 1) := by decide +kernel
theorem dJx4a65c_add_7a177_59 : decode cJx4a65c_add_7a177 59 = .ok (.iconst 1, 1) := by decide +kernel
theorem dJx4a65c_add_7a177_60 : decode cJx4a65c_add_7a177 60 = .ok (.iadd, 1) := by decide +kernel
theorem dJx4a65c_add_7a177_61 : decode cJx4a65c_add_7a177 61 = .ok (.putfield 48, 3) := by decide +kernel
theorem dJx4a65c_add_7a177_64 : decode cJx4a65c_add_7a177 64 = .ok (.return_, 1) := by decide +kernel
theorem dJx4a65c_addAll_f0b43_0 : decode cJx4a65c_addAll_f0b43 0 = .ok (.aload_n 1, 1) := by decide +kernel
theorem dJx4a65c_addAll_f0b43_1 : decode cJx4a65c_addAll_f0b43 1 = .ok (.invokeinterface 42 1, 5) := by decide +kernel
theorem dJx4a65c_addAll_f0b43_6 : decode cJx4a65c_addAll_f0b43 6 = .ok (.astore_n 2, 1) := by decide +kernel
theorem dJx4a65c_addAll_f0b43_7 : decode cJx4a65c_addAll_f0b43 7 = .ok (.aload_n 0, 1) := by decide +kernel
theorem dJx4a65c_addAll_f0b43_8 : decode cJx4a65c_addAll_f0b43 8 = .ok (.dup, 1) := by decide +kernel
theorem dJx4a65c_addAll_f0b43_9 : decode cJx4a65c_addAll_f0b43 9 = .ok (.getfield 63, 3) := by decide +kernel
theorem dJx4a65c_addAll_f0b43_12 : decode cJx4a65c_addAll_f0b43 12 = .ok (.iconst 1, 1) := by decide +kernel
theorem dJx4a65c_addAll_f0b43_13 : decode cJx4a65c_addAll_f0b43 13 = .ok (.iadd, 1) := by decide +kernel
theorem dJx4a65c_addAll_f0b43_14 : decode cJx4a65c_addAll_f0b43 14 = .ok (.putfield 63, 3) := by decide +kernel
theorem dJx4a65c_addAll_f0b43_17 : decode cJx4a65c_addAll_f0b43 17 = .ok (.aload_n 2, 1) := by decide +kernel
theorem dJx4a65c_addAll_f0b43_18 : decode cJx4a65c_addAll_f0b43 18 = .ok (.arraylength, 1) := by decide +kernel
theorem dJx4a65c_addAll_f0b43_19 : decode cJx4a65c_addAll_f0b43 19 = .ok (.istore_n 3, 1) := by decide +kernel
theorem dJx4a65c_addAll_f0b43_20 : decode cJx4a65c_addAll_f0b43 20 = .ok (.iload_n 3, 1) := by decide +kernel
theorem dJx4a65c_addAll_f0b43_21 : decode cJx4a65c_addAll_f0b43 21 = .ok (.ifCond .ne 5, 3) := by decide +kernel
theorem dJx4a65c_addAll_f0b43_24 : decode cJx4a65c_addAll_f0b43 24 = .ok (.iconst 0, 1) := by decide +kernel
theorem dJx4a65c_addAll_f0b43_25 : decode cJx4a65c_addAll_f0b43 25 = .ok (.ireturn, 1) := by decide +kernel
theorem dJx4a65c_addAll_f0b43_26 : decode cJx4a65c_addAll_f0b43 26 = .ok (.iload_n 3, 1) := by decide +kernel
theorem dJx4a65c_addAll_f0b43_27 : decode cJx4a65c_addAll_f0b43 27 = .ok (.aload_n 0, 1) := by decide +kernel
theorem dJx4a65c_addAll_f0b43_28 : decode cJx4a65c_addAll_f0b43 28 = .ok (.getfield 9, 3) := by decide +kernel
theorem dJx4a65c_addAll_f0b43_31 : decode cJx4a65c_addAll_f0b43 31 = .ok (.dup, 1) := by decide +kernel
theorem dJx4a65c_addAll_f0b43_32 : decode cJx4a65c_addAll_f0b43 32 = .ok (.astore 4, 2) := by decide +kernel
theorem dJx4a65c_addAll_f0b43_34 : decode cJx4a65c_addAll_f0b43 34 = .ok (.arraylength, 1) := by decide +kernel
theorem dJx4a65c_addAll_f0b43_35 : decode cJx4a65c_addAll_f0b43 35 = .ok (.aload_n 0, 1) := by decide +kernel
theorem dJx4a65c_addAll_f0b43_36 : decode cJx4a65c_addAll_f0b43 36 = .ok (.getfield 48, 3) := by decide +kernel
theorem dJx4a65c_addAll_f0b43_39 : decode cJx4a65c_addAll_f0b43 39 = .ok (.dup, 1) := by decide +kernel
theorem dJx4a65c_addAll_f0b43_40 : decode cJx4a65c_addAll_f0b43 40 = .ok (.istore 5, 2) := by decide +kernel
theorem dJx4a65c_addAll_f0b43_42 : decode cJx4a65c_addAll_f0b43 42 = .ok (.isub, 1) := by decide +kernel
theorem dJx4a65c_addAll_f0b43_43 : decode cJx4a65c_addAll_f0b43 43 = .ok (.if_icmp .le 13, 3) := by decide +kernel
theorem dJx4a65c_addAll_f0b43_46 : decode cJx4a65c_addAll_f0b43 46 = .ok (.aload_n 0, 1) := by decide +kernel
theorem dJx4a65c_addAll_f0b43_47 : decode cJx4a65c_addAll_f0b43 47 = .ok (.iload 5, 2) := by decide +kernel
theorem dJx4a65c_addAll_f0b43_49 : decode cJx4a65c_addAll_f0b43 49 = .ok (.iload_n 3, 1) := by decide +kernel
theorem dJx4a65c_addAll_f0b43_50 : decode cJx4a65c_addAll_f0b43 50 = .ok (.iadd, 1) := by decide +kernel
theorem dJx4a65c_addAll_f0b43_51 : decode cJx4a65c_addAll_f0b43 51 = .ok (.invokevirtual 69, 3) := by decide +kernel
theorem dJx4a65c_addAll_f0b43_54 : decode cJx4a65c_addAll_f0b43 54 = .ok (.astore 4, 2) := by decide +kernel
theorem dJx4a65c_addAll_f0b43_56 : decode cJx4a65c_addAll_f0b43 56 = .ok (.aload_n 2, 1) := by decide +kernel
theorem dJx4a65c_addAll_f0b43_57 : decode cJx4a65c_addAll_f0b43 57 = .ok (.iconst 0, 1) := by decide +kernel
theorem dJx4a65c_addAll_f0b43_58 : decode cJx4a65c_addAll_f0b43 58 = .ok (.aload 4, 2) := by decide +kernel
theorem dJx4a65c_addAll_f0b43_60 : decode cJx4a65c_addAll_f0b43 60 = .ok (.iload 5, 2) := by decide +kernel
theorem dJx4a65c_addAll_f0b43_62 : decode cJx4a65c_addAll_f0b43 62 = .ok (.iload_n 3, 1) := by decide +kernel
theorem dJx4a65c_addAll_f0b43_63 : decode cJx4a65c_addAll_f0b43 63 = .ok (.invokestatic 112, 3) := by decide +kernel
theorem dJx4a65c_addAll_f0b43_66 : decode cJx4a65c_addAll_f0b43 66 = .ok (.aload_n 0, 1) := by decide +kernel
theorem dJx4a65c_addAll_f0b43_67 : decode cJx4a65c_addAll_f0b43 67 = .ok (.iload 5, 2) := by decide +kernel
theorem dJx4a65c_addAll_f0b43_69 : decode cJx4a65c_addAll_f0b43 69 = .ok (.iload_n 3, 1) := by decide +kernel
theorem dJx4a65c_addAll_f0b43_70 : decode cJx4a65c_addAll_f0b43 70 = .ok (.iadd, 1) := by decide +kernel
theorem dJx4a65c_addAll_f0b43_71 : decode cJx4a65c_addAll_f0b43 71 = .ok (.putfield 48, 3) := by decide +kernel
theorem dJx4a65c_addAll_f0b43_74 : decode cJx4a65c_addAll_f0b43 74 = .ok (.iconst 1, 1) := by decide +kernel
theorem dJx4a65c_addAll_f0b43_75 : decode cJx4a65c_addAll_f0b43 75 = .ok (.ireturn, 1) := by decide +kernel
theorem dJx4a65c_rangeCheckForAdd_d00df_0 : decode cJx4a65c_rangeCheckForAdd_d00df 0 = .ok (.iload_n 1, 1) := by decide +kernel
theorem dJx4a65c_rangeCheckForAdd_d00df_1 : decode cJx4a65c_rangeCheckForAdd_d00df 1 = .ok (.aload_n 0, 1) := by decide +kernel
theorem dJx4a65c_rangeCheckForAdd_d00df_2 : decode cJx4a65c_rangeCheckForAdd_d00df 2 = .ok (.getfield 48, 3) := by decide +kernel
theorem dJx4a65c_rangeCheckForAdd_d00df_5 : decode cJx4a65c_rangeCheckForAdd_d00df 5 = .ok (.if_icmp .gt 7, 3) := by decide +kernel
theorem dJx4a65c_rangeCheckForAdd_d00df_8 : decode cJx4a65c_rangeCheckForAdd_d00df 8 = .ok (.iload_n 1, 1) := by decide +kernel
theorem dJx4a65c_rangeCheckForAdd_d00df_9 : decode cJx4a65c_rangeCheckForAdd_d00df 9 = .ok (.ifCond .ge 16, 3) := by decide +kernel
theorem dJx4a65c_rangeCheckForAdd_d00df_12 : decode cJx4a65c_rangeCheckForAdd_d00df 12 = .ok (.new 187, 3) := by decide +kernel
theorem dJx4a65c_rangeCheckForAdd_d00df_15 : decode cJx4a65c_rangeCheckForAdd_d00df 15 = .ok (.dup, 1) := by decide +kernel
theorem dJx4a65c_rangeCheckForAdd_d00df_16 : decode cJx4a65c_rangeCheckForAdd_d00df 16 = .ok (.aload_n 0, 1) := by decide +kernel
theorem dJx4a65c_rangeCheckForAdd_d00df_17 : decode cJx4a65c_rangeCheckForAdd_d00df 17 = .ok (.iload_n 1, 1) := by decide +kernel
theorem dJx4a65c_rangeCheckForAdd_d00df_18 : decode cJx4a65c_rangeCheckForAdd_d00df 18 = .ok (.invokevirtual 198, 3) := by decide +kernel
theorem dJx4a65c_rangeCheckForAdd_d00df_21 : decode cJx4a65c_rangeCheckForAdd_d00df 21 = .ok (.invokespecial 193, 3) := by decide +kernel
theorem dJx4a65c_rangeCheckForAdd_d00df_24 : decode cJx4a65c_rangeCheckForAdd_d00df 24 = .ok (.athrow, 1) := by decide +kernel
theorem dJx4a65c_rangeCheckForAdd_d00df_25 : decode cJx4a65c_rangeCheckForAdd_d00df 25 = .ok (.return_, 1) := by decide +kernel
theorem dJx4a65c_outOfBoundsMsg_b52d3_0 : decode cJx4a65c_outOfBoundsMsg_b52d3 0 = .ok (.new 20, 3) := by decide +kernel
theorem dJx4a65c_outOfBoundsMsg_b52d3_3 : decode cJx4a65c_outOfBoundsMsg_b52d3 3 = .ok (.dup, 1) := by decide +kernel
theorem dJx4a65c_outOfBoundsMsg_b52d3_4 : decode cJx4a65c_outOfBoundsMsg_b52d3 4 = .ok (.invokespecial 22, 3) := by decide +kernel
theorem dJx4a65c_outOfBoundsMsg_b52d3_7 : decode cJx4a65c_outOfBoundsMsg_b52d3 7 = .ok (.ldc 201, 2) := by decide +kernel
theorem dJx4a65c_outOfBoundsMsg_b52d3_9 : decode cJx4a65c_outOfBoundsMsg_b52d3 9 = .ok (.invokevirtual 25, 3) := by decide +kernel
theorem dJx4a65c_outOfBoundsMsg_b52d3_12 : decode cJx4a65c_outOfBoundsMsg_b52d3 12 = .ok (.iload_n 1, 1) := by decide +kernel
theorem dJx4a65c_outOfBoundsMsg_b52d3_13 : decode cJx4a65c_outOfBoundsMsg_b52d3 13 = .ok (.invokevirtual 29, 3) := by decide +kernel
theorem dJx4a65c_outOfBoundsMsg_b52d3_16 : decode cJx4a65c_outOfBoundsMsg_b52d3 16 = .ok (.ldc 203, 2) := by decide +kernel
theorem dJx4a65c_outOfBoundsMsg_b52d3_18 : decode cJx4a65c_outOfBoundsMsg_b52d3 18 = .ok (.invokevirtual 25, 3) := by decide +kernel
theorem dJx4a65c_outOfBoundsMsg_b52d3_21 : decode cJx4a65c_outOfBoundsMsg_b52d3 21 = .ok (.aload_n 0, 1) := by decide +kernel
theorem dJx4a65c_outOfBoundsMsg_b52d3_22 : decode cJx4a65c_outOfBoundsMsg_b52d3 22 = .ok (.getfield 48, 3) := by decide +kernel
theorem dJx4a65c_outOfBoundsMsg_b52d3_25 : decode cJx4a65c_outOfBoundsMsg_b52d3 25 = .ok (.invokevirtual 29, 3) := by decide +kernel
theorem dJx4a65c_outOfBoundsMsg_b52d3_28 : decode cJx4a65c_outOfBoundsMsg_b52d3 28 = .ok (.invokevirtual 32, 3) := by decide +kernel
theorem dJx4a65c_outOfBoundsMsg_b52d3_31 : decode cJx4a65c_outOfBoundsMsg_b52d3 31 = .ok (.areturn, 1) := by decide +kernel
theorem dJx4a65c_iterator_32c93_0 : decode cJx4a65c_iterator_32c93 0 = .ok (.new 267, 3) := by decide +kernel
theorem dJx4a65c_iterator_32c93_3 : decode cJx4a65c_iterator_32c93 3 = .ok (.dup, 1) := by decide +kernel
theorem dJx4a65c_iterator_32c93_4 : decode cJx4a65c_iterator_32c93 4 = .ok (.aload_n 0, 1) := by decide +kernel
theorem dJx4a65c_iterator_32c93_5 : decode cJx4a65c_iterator_32c93 5 = .ok (.invokespecial 269, 3) := by decide +kernel
theorem dJx4a65c_iterator_32c93_8 : decode cJx4a65c_iterator_32c93 8 = .ok (.areturn, 1) := by decide +kernel
theorem dJ7_copyOf_1904c_0 : decode cJ7_copyOf_1904c 0 = .ok (.aload_n 0, 1) := by decide +kernel
theorem dJ7_copyOf_1904c_1 : decode cJ7_copyOf_1904c 1 = .ok (.iload_n 1, 1) := by decide +kernel
theorem dJ7_copyOf_1904c_2 : decode cJ7_copyOf_1904c 2 = .ok (.aload_n 0, 1) := by decide +kernel
theorem dJ7_copyOf_1904c_3 : decode cJ7_copyOf_1904c 3 = .ok (.invokevirtual 86, 3) := by decide +kernel
theorem dJ7_copyOf_1904c_6 : decode cJ7_copyOf_1904c 6 = .ok (.invokestatic 300, 3) := by decide +kernel
theorem dJ7_copyOf_1904c_9 : decode cJ7_copyOf_1904c 9 = .ok (.areturn, 1) := by decide +kernel
theorem dJ7_copyOf_6403c_0 : decode cJ7_copyOf_6403c 0 = .ok (.aload_n 2, 1) := by decide +kernel
theorem dJ7_copyOf_6403c_1 : decode cJ7_copyOf_6403c 1 = .ok (.ldc 110, 2) := by decide +kernel
theorem dJ7_copyOf_6403c_3 : decode cJ7_copyOf_6403c 3 = .ok (.if_acmp .ne 10, 3) := by decide +kernel
theorem dJ7_copyOf_6403c_6 : decode cJ7_copyOf_6403c 6 = .ok (.iload_n 1, 1) := by decide +kernel
theorem dJ7_copyOf_6403c_7 : decode cJ7_copyOf_6403c 7 = .ok (.anewarray 2, 3) := by decide +kernel
theorem dJ7_copyOf_6403c_10 : decode cJ7_copyOf_6403c 10 = .ok (.goto 14, 3) := by decide +kernel
theorem dJ7_copyOf_6403c_13 : decode cJ7_copyOf_6403c 13 = .ok (.aload_n 2, 1) := by decide +kernel
theorem dJ7_copyOf_6403c_14 : decode cJ7_copyOf_6403c 14 = .ok (.invokevirtual 90, 3) := by decide +kernel
theorem dJ7_copyOf_6403c_17 : decode cJ7_copyOf_6403c 17 = .ok (.iload_n 1, 1) := by decide +kernel
theorem dJ7_copyOf_6403c_18 : decode cJ7_copyOf_6403c 18 = .ok (.invokestatic 95, 3) := by decide +kernel
theorem dJ7_copyOf_6403c_21 : decode cJ7_copyOf_6403c 21 = .ok (.checkcast 110, 3) := by decide +kernel
theorem dJ7_copyOf_6403c_24 : decode cJ7_copyOf_6403c 24 = .ok (.astore_n 3, 1) := by decide +kernel
theorem dJ7_copyOf_6403c_25 : decode cJ7_copyOf_6403c 25 = .ok (.aload_n 0, 1) := by decide +kernel
theorem dJ7_copyOf_6403c_26 : decode cJ7_copyOf_6403c 26 = .ok (.iconst 0, 1) := by decide +kernel
theorem dJ7_copyOf_6403c_27 : decode cJ7_copyOf_6403c 27 = .ok (.aload_n 3, 1) := by decide +kernel
theorem dJ7_copyOf_6403c_28 : decode cJ7_copyOf_6403c 28 = .ok (.iconst 0, 1) := by decide +kernel
theorem dJ7_copyOf_6403c_29 : decode cJ7_copyOf_6403c 29 = .ok (.aload_n 0, 1) := by decide +kernel
theorem dJ7_copyOf_6403c_30 : decode cJ7_copyOf_6403c 30 = .ok (.arraylength, 1) := by decide +kernel
theorem dJ7_copyOf_6403c_31 : decode cJ7_copyOf_6403c 31 = .ok (.iload_n 1, 1) := by decide +kernel
theorem dJ7_copyOf_6403c_32 : decode cJ7_copyOf_6403c 32 = .ok (.invokestatic 304, 3) := by decide +kernel
theorem dJ7_copyOf_6403c_35 : decode cJ7_copyOf_6403c 35 = .ok (.invokestatic 150, 3) := by decide +kernel
theorem dJ7_copyOf_6403c_38 : decode cJ7_copyOf_6403c 38 = .ok (.aload_n 3, 1) := by decide +kernel
theorem dJ7_copyOf_6403c_39 : decode cJ7_copyOf_6403c 39 = .ok (.areturn, 1) := by decide +kernel
theorem dJ7_copyOf_9075b_0 : decode cJ7_copyOf_9075b 0 = .ok (.iload_n 1, 1) := by decide +kernel
theorem dJ7_copyOf_9075b_1 : decode cJ7_copyOf_9075b 1 = .ok (.aload_n 0, 1) := by decide +kernel
theorem dJ7_copyOf_9075b_2 : decode cJ7_copyOf_9075b 2 = .ok (.arraylength, 1) := by decide +kernel
theorem dJ7_copyOf_9075b_3 : decode cJ7_copyOf_9075b 3 = .ok (.if_icmp .ne 11, 3) := by decide +kernel
theorem dJ7_copyOf_9075b_6 : decode cJ7_copyOf_9075b 6 = .ok (.aload_n 0, 1) := by decide +kernel
theorem dJ7_copyOf_9075b_7 : decode cJ7_copyOf_9075b 7 = .ok (.invokevirtual 310, 3) := by decide +kernel
theorem dJ7_copyOf_9075b_10 : decode cJ7_copyOf_9075b 10 = .ok (.checkcast 311, 3) := by decide +kernel
theorem dJ7_copyOf_9075b_13 : decode cJ7_copyOf_9075b 13 = .ok (.areturn, 1) := by decide +kernel
theorem dJ7_copyOf_9075b_14 : decode cJ7_copyOf_9075b 14 = .ok (.iload_n 1, 1) := by decide +kernel
theorem dJ7_copyOf_9075b_15 : decode cJ7_copyOf_9075b 15 = .ok (.newarray .byte, 2) := by decide +kernel
theorem dJ7_copyOf_9075b_17 : decode cJ7_copyOf_9075b 17 = .ok (.astore_n 2, 1) := by decide +kernel
theorem dJ7_copyOf_9075b_18 : decode cJ7_copyOf_9075b 18 = .ok (.aload_n 0, 1) := by decide +kernel
theorem dJ7_copyOf_9075b_19 : decode cJ7_copyOf_9075b 19 = .ok (.iconst 0, 1) := by decide +kernel
theorem dJ7_copyOf_9075b_20 : decode cJ7_copyOf_9075b 20 = .ok (.aload_n 2, 1) := by decide +kernel
theorem dJ7_copyOf_9075b_21 : decode cJ7_copyOf_9075b 21 = .ok (.iconst 0, 1) := by decide +kernel
theorem dJ7_copyOf_9075b_22 : decode cJ7_copyOf_9075b 22 = .ok (.aload_n 0, 1) := by decide +kernel
theorem dJ7_copyOf_9075b_23 : decode cJ7_copyOf_9075b 23 = .ok (.arraylength, 1) := by decide +kernel
theorem dJ7_copyOf_9075b_24 : decode cJ7_copyOf_9075b 24 = .ok (.iload_n 1, 1) := by decide +kernel
theorem dJ7_copyOf_9075b_25 : decode cJ7_copyOf_9075b 25 = .ok (.invokestatic 304, 3) := by decide +kernel
theorem dJ7_copyOf_9075b_28 : decode cJ7_copyOf_9075b 28 = .ok (.invokestatic 150, 3) := by decide +kernel
theorem dJ7_copyOf_9075b_31 : decode cJ7_copyOf_9075b 31 = .ok (.aload_n 2, 1) := by decide +kernel
theorem dJ7_copyOf_9075b_32 : decode cJ7_copyOf_9075b 32 = .ok (.areturn, 1) := by decide +kernel
theorem dJ15_checkIndex_7cf53_0 : decode cJ15_checkIndex_7cf53 0 = .ok (.iload_n 0, 1) := by decide +kernel
theorem dJ15_checkIndex_7cf53_1 : decode cJ15_checkIndex_7cf53 1 = .ok (.iload_n 1, 1) := by decide +kernel
theorem dJ15_checkIndex_7cf53_2 : decode cJ15_checkIndex_7cf53 2 = .ok (.aconst_null, 1) := by decide +kernel
theorem dJ15_checkIndex_7cf53_3 : decode cJ15_checkIndex_7cf53 3 = .ok (.invokestatic 105, 3) := by decide +kernel
theorem dJ15_checkIndex_7cf53_6 : decode cJ15_checkIndex_7cf53 6 = .ok (.ireturn, 1) := by decide +kernel
theorem dJ8_newLength_cabcc_0 : decode cJ8_newLength_cabcc 0 = .ok (.iload_n 0, 1) := by decide +kernel
theorem dJ8_newLength_cabcc_1 : decode cJ8_newLength_cabcc 1 = .ok (.iload_n 1, 1) := by decide +kernel
theorem dJ8_newLength_cabcc_2 : decode cJ8_newLength_cabcc 2 = .ok (.iload_n 2, 1) := by decide +kernel
theorem dJ8_newLength_cabcc_3 : decode cJ8_newLength_cabcc 3 = .ok (.invokestatic 194, 3) := by decide +kernel
theorem dJ8_newLength_cabcc_6 : decode cJ8_newLength_cabcc 6 = .ok (.iadd, 1) := by decide +kernel
theorem dJ8_newLength_cabcc_7 : decode cJ8_newLength_cabcc 7 = .ok (.istore_n 3, 1) := by decide +kernel
theorem dJ8_newLength_cabcc_8 : decode cJ8_newLength_cabcc 8 = .ok (.iconst 0, 1) := by decide +kernel
theorem dJ8_newLength_cabcc_9 : decode cJ8_newLength_cabcc 9 = .ok (.iload_n 3, 1) := by decide +kernel
theorem dJ8_newLength_cabcc_10 : decode cJ8_newLength_cabcc 10 = .ok (.if_icmp .ge 11, 3) := by decide +kernel
theorem dJ8_newLength_cabcc_13 : decode cJ8_newLength_cabcc 13 = .ok (.iload_n 3, 1) := by decide +kernel
theorem dJ8_newLength_cabcc_14 : decode cJ8_newLength_cabcc 14 = .ok (.ldc 200, 2) := by decide +kernel
theorem dJ8_newLength_cabcc_16 : decode cJ8_newLength_cabcc 16 = .ok (.if_icmp .gt 5, 3) := by decide +kernel
theorem dJ8_newLength_cabcc_19 : decode cJ8_newLength_cabcc 19 = .ok (.iload_n 3, 1) := by decide +kernel
theorem dJ8_newLength_cabcc_20 : decode cJ8_newLength_cabcc 20 = .ok (.ireturn, 1) := by decide +kernel
theorem dJ8_newLength_cabcc_21 : decode cJ8_newLength_cabcc 21 = .ok (.iload_n 0, 1) := by decide +kernel
theorem dJ8_newLength_cabcc_22 : decode cJ8_newLength_cabcc 22 = .ok (.iload_n 1, 1) := by decide +kernel
theorem dJ8_newLength_cabcc_23 : decode cJ8_newLength_cabcc 23 = .ok (.invokestatic 201, 3) := by decide +kernel
theorem dJ8_newLength_cabcc_26 : decode cJ8_newLength_cabcc 26 = .ok (.ireturn, 1) := by decide +kernel
theorem dJ3_checkIndex_8e157_0 : decode cJ3_checkIndex_8e157 0 = .ok (.iload_n 0, 1) := by decide +kernel
theorem dJ3_checkIndex_8e157_1 : decode cJ3_checkIndex_8e157 1 = .ok (.ifCond .lt 8, 3) := by decide +kernel
theorem dJ3_checkIndex_8e157_4 : decode cJ3_checkIndex_8e157 4 = .ok (.iload_n 0, 1) := by decide +kernel
theorem dJ3_checkIndex_8e157_5 : decode cJ3_checkIndex_8e157 5 = .ok (.iload_n 1, 1) := by decide +kernel
theorem dJ3_checkIndex_8e157_6 : decode cJ3_checkIndex_8e157 6 = .ok (.if_icmp .lt 10, 3) := by decide +kernel
theorem dJ3_checkIndex_8e157_9 : decode cJ3_checkIndex_8e157 9 = .ok (.aload_n 2, 1) := by decide +kernel
theorem dJ3_checkIndex_8e157_10 : decode cJ3_checkIndex_8e157 10 = .ok (.iload_n 0, 1) := by decide +kernel
theorem dJ3_checkIndex_8e157_11 : decode cJ3_checkIndex_8e157 11 = .ok (.iload_n 1, 1) := by decide +kernel
theorem dJ3_checkIndex_8e157_12 : decode cJ3_checkIndex_8e157 12 = .ok (.invokestatic 95, 3) := by decide +kernel
theorem dJ3_checkIndex_8e157_15 : decode cJ3_checkIndex_8e157 15 = .ok (.athrow, 1) := by decide +kernel
theorem dJ3_checkIndex_8e157_16 : decode cJ3_checkIndex_8e157 16 = .ok (.iload_n 0, 1) := by decide +kernel
theorem dJ3_checkIndex_8e157_17 : decode cJ3_checkIndex_8e157 17 = .ok (.ireturn, 1) := by decide +kernel
theorem dL_addHouse_0 : decode cL_addHouse 0 = .ok (.aload_n 2, 1) := by decide +kernel
theorem dL_addHouse_1 : decode cL_addHouse 1 = .ok (.iconst 0, 1) := by decide +kernel
theorem dL_addHouse_2 : decode cL_addHouse 2 = .ok (.aload_n 0, 1) := by decide +kernel
theorem dL_addHouse_3 : decode cL_addHouse 3 = .ok (.iload_n 1, 1) := by decide +kernel
theorem dL_addHouse_4 : decode cL_addHouse 4 = .ok (.invokevirtual 7, 3) := by decide +kernel
theorem dL_addHouse_7 : decode cL_addHouse 7 = .ok (.i2l, 1) := by decide +kernel
theorem dL_addHouse_8 : decode cL_addHouse 8 = .ok (.lastore, 1) := by decide +kernel
theorem dL_addHouse_9 : decode cL_addHouse 9 = .ok (.goto 9, 3) := by decide +kernel
theorem dL_addHouse_12 : decode cL_addHouse 12 = .ok (.astore_n 3, 1) := by decide +kernel
theorem dL_addHouse_13 : decode cL_addHouse 13 = .ok (.iconst 1, 1) := by decide +kernel
theorem dL_addHouse_14 : decode cL_addHouse 14 = .ok (.ireturn, 1) := by decide +kernel
theorem dL_addHouse_15 : decode cL_addHouse 15 = .ok (.astore_n 3, 1) := by decide +kernel
theorem dL_addHouse_16 : decode cL_addHouse 16 = .ok (.iconst 2, 1) := by decide +kernel
theorem dL_addHouse_17 : decode cL_addHouse 17 = .ok (.ireturn, 1) := by decide +kernel
theorem dL_addHouse_18 : decode cL_addHouse 18 = .ok (.iconst 0, 1) := by decide +kernel
theorem dL_addHouse_19 : decode cL_addHouse 19 = .ok (.ireturn, 1) := by decide +kernel
theorem dL_kindOf_0 : decode cL_kindOf 0 = .ok (.aload_n 2, 1) := by decide +kernel
theorem dL_kindOf_1 : decode cL_kindOf 1 = .ok (.iconst 0, 1) := by decide +kernel
theorem dL_kindOf_2 : decode cL_kindOf 2 = .ok (.aload_n 0, 1) := by decide +kernel
theorem dL_kindOf_3 : decode cL_kindOf 3 = .ok (.iload_n 1, 1) := by decide +kernel
theorem dL_kindOf_4 : decode cL_kindOf 4 = .ok (.invokevirtual 17, 3) := by decide +kernel
theorem dL_kindOf_7 : decode cL_kindOf 7 = .ok (.i2l, 1) := by decide +kernel
theorem dL_kindOf_8 : decode cL_kindOf 8 = .ok (.lastore, 1) := by decide +kernel
theorem dL_kindOf_9 : decode cL_kindOf 9 = .ok (.goto 6, 3) := by decide +kernel
theorem dL_kindOf_12 : decode cL_kindOf 12 = .ok (.astore_n 3, 1) := by decide +kernel
theorem dL_kindOf_13 : decode cL_kindOf 13 = .ok (.iconst 1, 1) := by decide +kernel
theorem dL_kindOf_14 : decode cL_kindOf 14 = .ok (.ireturn, 1) := by decide +kernel
theorem dL_kindOf_15 : decode cL_kindOf 15 = .ok (.iconst 0, 1) := by decide +kernel
theorem dL_kindOf_16 : decode cL_kindOf 16 = .ok (.ireturn, 1) := by decide +kernel
theorem dL_dig_0 : decode cL_dig 0 = .ok (.aload 4, 2) := by decide +kernel
theorem dL_dig_2 : decode cL_dig 2 = .ok (.iconst 0, 1) := by decide +kernel
theorem dL_dig_3 : decode cL_dig 3 = .ok (.aload_n 0, 1) := by decide +kernel
theorem dL_dig_4 : decode cL_dig 4 = .ok (.iload_n 1, 1) := by decide +kernel
theorem dL_dig_5 : decode cL_dig 5 = .ok (.iload_n 2, 1) := by decide +kernel
theorem dL_dig_6 : decode cL_dig 6 = .ok (.iload_n 3, 1) := by decide +kernel
theorem dL_dig_7 : decode cL_dig 7 = .ok (.invokevirtual 23, 3) := by decide +kernel
theorem dL_dig_10 : decode cL_dig 10 = .ok (.i2l, 1) := by decide +kernel
theorem dL_dig_11 : decode cL_dig 11 = .ok (.lastore, 1) := by decide +kernel
theorem dL_dig_12 : decode cL_dig 12 = .ok (.goto 15, 3) := by decide +kernel
theorem dL_dig_15 : decode cL_dig 15 = .ok (.astore 5, 2) := by decide +kernel
theorem dL_dig_17 : decode cL_dig 17 = .ok (.iconst 1, 1) := by decide +kernel
theorem dL_dig_18 : decode cL_dig 18 = .ok (.ireturn, 1) := by decide +kernel
theorem dL_dig_19 : decode cL_dig 19 = .ok (.astore 5, 2) := by decide +kernel
theorem dL_dig_21 : decode cL_dig 21 = .ok (.iconst 2, 1) := by decide +kernel
theorem dL_dig_22 : decode cL_dig 22 = .ok (.ireturn, 1) := by decide +kernel
theorem dL_dig_23 : decode cL_dig 23 = .ok (.astore 5, 2) := by decide +kernel
theorem dL_dig_25 : decode cL_dig 25 = .ok (.iconst 3, 1) := by decide +kernel
theorem dL_dig_26 : decode cL_dig 26 = .ok (.ireturn, 1) := by decide +kernel
theorem dL_dig_27 : decode cL_dig 27 = .ok (.iconst 0, 1) := by decide +kernel
theorem dL_dig_28 : decode cL_dig 28 = .ok (.ireturn, 1) := by decide +kernel
theorem dL_decree_0 : decode cL_decree 0 = .ok (.aload 4, 2) := by decide +kernel
theorem dL_decree_2 : decode cL_decree 2 = .ok (.iconst 0, 1) := by decide +kernel
theorem dL_decree_3 : decode cL_decree 3 = .ok (.aload_n 0, 1) := by decide +kernel
theorem dL_decree_4 : decode cL_decree 4 = .ok (.iload_n 1, 1) := by decide +kernel
theorem dL_decree_5 : decode cL_decree 5 = .ok (.iload_n 2, 1) := by decide +kernel
theorem dL_decree_6 : decode cL_decree 6 = .ok (.iload_n 3, 1) := by decide +kernel
theorem dL_decree_7 : decode cL_decree 7 = .ok (.invokevirtual 27, 3) := by decide +kernel
theorem dL_decree_10 : decode cL_decree 10 = .ok (.i2l, 1) := by decide +kernel
theorem dL_decree_11 : decode cL_decree 11 = .ok (.lastore, 1) := by decide +kernel
theorem dL_decree_12 : decode cL_decree 12 = .ok (.goto 7, 3) := by decide +kernel
theorem dL_decree_15 : decode cL_decree 15 = .ok (.astore 5, 2) := by decide +kernel
theorem dL_decree_17 : decode cL_decree 17 = .ok (.iconst 1, 1) := by decide +kernel
theorem dL_decree_18 : decode cL_decree 18 = .ok (.ireturn, 1) := by decide +kernel
theorem dL_decree_19 : decode cL_decree 19 = .ok (.iconst 0, 1) := by decide +kernel
theorem dL_decree_20 : decode cL_decree 20 = .ok (.ireturn, 1) := by decide +kernel
theorem dL_mint_0 : decode cL_mint 0 = .ok (.aload 4, 2) := by decide +kernel
theorem dL_mint_2 : decode cL_mint 2 = .ok (.iconst 0, 1) := by decide +kernel
theorem dL_mint_3 : decode cL_mint 3 = .ok (.aload_n 0, 1) := by decide +kernel
theorem dL_mint_4 : decode cL_mint 4 = .ok (.iload_n 1, 1) := by decide +kernel
theorem dL_mint_5 : decode cL_mint 5 = .ok (.iload_n 2, 1) := by decide +kernel
theorem dL_mint_6 : decode cL_mint 6 = .ok (.iload_n 3, 1) := by decide +kernel
theorem dL_mint_7 : decode cL_mint 7 = .ok (.invokevirtual 31, 3) := by decide +kernel
theorem dL_mint_10 : decode cL_mint 10 = .ok (.i2l, 1) := by decide +kernel
theorem dL_mint_11 : decode cL_mint 11 = .ok (.lastore, 1) := by decide +kernel
theorem dL_mint_12 : decode cL_mint 12 = .ok (.goto 19, 3) := by decide +kernel
theorem dL_mint_15 : decode cL_mint 15 = .ok (.astore 5, 2) := by decide +kernel
theorem dL_mint_17 : decode cL_mint 17 = .ok (.iconst 1, 1) := by decide +kernel
theorem dL_mint_18 : decode cL_mint 18 = .ok (.ireturn, 1) := by decide +kernel
theorem dL_mint_19 : decode cL_mint 19 = .ok (.astore 5, 2) := by decide +kernel
theorem dL_mint_21 : decode cL_mint 21 = .ok (.iconst 2, 1) := by decide +kernel
theorem dL_mint_22 : decode cL_mint 22 = .ok (.ireturn, 1) := by decide +kernel
theorem dL_mint_23 : decode cL_mint 23 = .ok (.astore 5, 2) := by decide +kernel
theorem dL_mint_25 : decode cL_mint 25 = .ok (.iconst 3, 1) := by decide +kernel
theorem dL_mint_26 : decode cL_mint 26 = .ok (.ireturn, 1) := by decide +kernel
theorem dL_mint_27 : decode cL_mint 27 = .ok (.astore 5, 2) := by decide +kernel
theorem dL_mint_29 : decode cL_mint 29 = .ok (.iconst 4, 1) := by decide +kernel
theorem dL_mint_30 : decode cL_mint 30 = .ok (.ireturn, 1) := by decide +kernel
theorem dL_mint_31 : decode cL_mint 31 = .ok (.iconst 0, 1) := by decide +kernel
theorem dL_mint_32 : decode cL_mint 32 = .ok (.ireturn, 1) := by decide +kernel
theorem dL_clip_0 : decode cL_clip 0 = .ok (.aload_n 3, 1) := by decide +kernel
theorem dL_clip_1 : decode cL_clip 1 = .ok (.iconst 0, 1) := by decide +kernel
theorem dL_clip_2 : decode cL_clip 2 = .ok (.aload_n 0, 1) := by decide +kernel
theorem dL_clip_3 : decode cL_clip 3 = .ok (.iload_n 1, 1) := by decide +kernel
theorem dL_clip_4 : decode cL_clip 4 = .ok (.iload_n 2, 1) := by decide +kernel
theorem dL_clip_5 : decode cL_clip 5 = .ok (.invokevirtual 36, 3) := by decide +kernel
theorem dL_clip_8 : decode cL_clip 8 = .ok (.i2l, 1) := by decide +kernel
theorem dL_clip_9 : decode cL_clip 9 = .ok (.lastore, 1) := by decide +kernel
theorem dL_clip_10 : decode cL_clip 10 = .ok (.goto 15, 3) := by decide +kernel
theorem dL_clip_13 : decode cL_clip 13 = .ok (.astore 4, 2) := by decide +kernel
theorem dL_clip_15 : decode cL_clip 15 = .ok (.iconst 1, 1) := by decide +kernel
theorem dL_clip_16 : decode cL_clip 16 = .ok (.ireturn, 1) := by decide +kernel
theorem dL_clip_17 : decode cL_clip 17 = .ok (.astore 4, 2) := by decide +kernel
theorem dL_clip_19 : decode cL_clip 19 = .ok (.iconst 2, 1) := by decide +kernel
theorem dL_clip_20 : decode cL_clip 20 = .ok (.ireturn, 1) := by decide +kernel
theorem dL_clip_21 : decode cL_clip 21 = .ok (.astore 4, 2) := by decide +kernel
theorem dL_clip_23 : decode cL_clip 23 = .ok (.iconst 3, 1) := by decide +kernel
theorem dL_clip_24 : decode cL_clip 24 = .ok (.ireturn, 1) := by decide +kernel
theorem dL_clip_25 : decode cL_clip 25 = .ok (.iconst 0, 1) := by decide +kernel
theorem dL_clip_26 : decode cL_clip 26 = .ok (.ireturn, 1) := by decide +kernel
theorem dL_hoard_0 : decode cL_hoard 0 = .ok (.aload_n 3, 1) := by decide +kernel
theorem dL_hoard_1 : decode cL_hoard 1 = .ok (.iconst 0, 1) := by decide +kernel
theorem dL_hoard_2 : decode cL_hoard 2 = .ok (.aload_n 0, 1) := by decide +kernel
theorem dL_hoard_3 : decode cL_hoard 3 = .ok (.iload_n 1, 1) := by decide +kernel
theorem dL_hoard_4 : decode cL_hoard 4 = .ok (.iload_n 2, 1) := by decide +kernel
theorem dL_hoard_5 : decode cL_hoard 5 = .ok (.invokevirtual 40, 3) := by decide +kernel
theorem dL_hoard_8 : decode cL_hoard 8 = .ok (.ifCond .eq 7, 3) := by decide +kernel
theorem dL_hoard_11 : decode cL_hoard 11 = .ok (.lconst 1, 1) := by decide +kernel
theorem dL_hoard_12 : decode cL_hoard 12 = .ok (.goto 4, 3) := by decide +kernel
theorem dL_hoard_15 : decode cL_hoard 15 = .ok (.lconst 0, 1) := by decide +kernel
theorem dL_hoard_16 : decode cL_hoard 16 = .ok (.lastore, 1) := by decide +kernel
theorem dL_hoard_17 : decode cL_hoard 17 = .ok (.goto 11, 3) := by decide +kernel
theorem dL_hoard_20 : decode cL_hoard 20 = .ok (.astore 4, 2) := by decide +kernel
theorem dL_hoard_22 : decode cL_hoard 22 = .ok (.iconst 1, 1) := by decide +kernel
theorem dL_hoard_23 : decode cL_hoard 23 = .ok (.ireturn, 1) := by decide +kernel
theorem dL_hoard_24 : decode cL_hoard 24 = .ok (.astore 4, 2) := by decide +kernel
theorem dL_hoard_26 : decode cL_hoard 26 = .ok (.iconst 2, 1) := by decide +kernel
theorem dL_hoard_27 : decode cL_hoard 27 = .ok (.ireturn, 1) := by decide +kernel
theorem dL_hoard_28 : decode cL_hoard 28 = .ok (.iconst 0, 1) := by decide +kernel
theorem dL_hoard_29 : decode cL_hoard 29 = .ok (.ireturn, 1) := by decide +kernel
theorem dL_recoin_0 : decode cL_recoin 0 = .ok (.aload_n 3, 1) := by decide +kernel
theorem dL_recoin_1 : decode cL_recoin 1 = .ok (.iconst 0, 1) := by decide +kernel
theorem dL_recoin_2 : decode cL_recoin 2 = .ok (.aload_n 0, 1) := by decide +kernel
theorem dL_recoin_3 : decode cL_recoin 3 = .ok (.iload_n 1, 1) := by decide +kernel
theorem dL_recoin_4 : decode cL_recoin 4 = .ok (.iload_n 2, 1) := by decide +kernel
theorem dL_recoin_5 : decode cL_recoin 5 = .ok (.invokevirtual 44, 3) := by decide +kernel
theorem dL_recoin_8 : decode cL_recoin 8 = .ok (.i2l, 1) := by decide +kernel
theorem dL_recoin_9 : decode cL_recoin 9 = .ok (.lastore, 1) := by decide +kernel
theorem dL_recoin_10 : decode cL_recoin 10 = .ok (.goto 15, 3) := by decide +kernel
theorem dL_recoin_13 : decode cL_recoin 13 = .ok (.astore 4, 2) := by decide +kernel
theorem dL_recoin_15 : decode cL_recoin 15 = .ok (.iconst 1, 1) := by decide +kernel
theorem dL_recoin_16 : decode cL_recoin 16 = .ok (.ireturn, 1) := by decide +kernel
theorem dL_recoin_17 : decode cL_recoin 17 = .ok (.astore 4, 2) := by decide +kernel
theorem dL_recoin_19 : decode cL_recoin 19 = .ok (.iconst 2, 1) := by decide +kernel
theorem dL_recoin_20 : decode cL_recoin 20 = .ok (.ireturn, 1) := by decide +kernel
theorem dL_recoin_21 : decode cL_recoin 21 = .ok (.astore 4, 2) := by decide +kernel
theorem dL_recoin_23 : decode cL_recoin 23 = .ok (.iconst 3, 1) := by decide +kernel
theorem dL_recoin_24 : decode cL_recoin 24 = .ok (.ireturn, 1) := by decide +kernel
theorem dL_recoin_25 : decode cL_recoin 25 = .ok (.iconst 0, 1) := by decide +kernel
theorem dL_recoin_26 : decode cL_recoin 26 = .ok (.ireturn, 1) := by decide +kernel
theorem dL_pay_0 : decode cL_pay 0 = .ok (.aload 5, 2) := by decide +kernel
theorem dL_pay_2 : decode cL_pay 2 = .ok (.iconst 0, 1) := by decide +kernel
theorem dL_pay_3 : decode cL_pay 3 = .ok (.aload_n 0, 1) := by decide +kernel
theorem dL_pay_4 : decode cL_pay 4 = .ok (.iload_n 1, 1) := by decide +kernel
theorem dL_pay_5 : decode cL_pay 5 = .ok (.iload_n 2, 1) := by decide +kernel
theorem dL_pay_6 : decode cL_pay 6 = .ok (.iload_n 3, 1) := by decide +kernel
theorem dL_pay_7 : decode cL_pay 7 = .ok (.iload 4, 2) := by decide +kernel
theorem dL_pay_9 : decode cL_pay 9 = .ok (.invokevirtual 48, 3) := by decide +kernel
theorem dL_pay_12 : decode cL_pay 12 = .ok (.i2l, 1) := by decide +kernel
theorem dL_pay_13 : decode cL_pay 13 = .ok (.lastore, 1) := by decide +kernel
theorem dL_pay_14 : decode cL_pay 14 = .ok (.goto 19, 3) := by decide +kernel
theorem dL_pay_17 : decode cL_pay 17 = .ok (.astore 6, 2) := by decide +kernel
theorem dL_pay_19 : decode cL_pay 19 = .ok (.iconst 1, 1) := by decide +kernel
theorem dL_pay_20 : decode cL_pay 20 = .ok (.ireturn, 1) := by decide +kernel
theorem dL_pay_21 : decode cL_pay 21 = .ok (.astore 6, 2) := by decide +kernel
theorem dL_pay_23 : decode cL_pay 23 = .ok (.iconst 2, 1) := by decide +kernel
theorem dL_pay_24 : decode cL_pay 24 = .ok (.ireturn, 1) := by decide +kernel
theorem dL_pay_25 : decode cL_pay 25 = .ok (.astore 6, 2) := by decide +kernel
theorem dL_pay_27 : decode cL_pay 27 = .ok (.iconst 3, 1) := by decide +kernel
theorem dL_pay_28 : decode cL_pay 28 = .ok (.ireturn, 1) := by decide +kernel
theorem dL_pay_29 : decode cL_pay 29 = .ok (.astore 6, 2) := by decide +kernel
theorem dL_pay_31 : decode cL_pay 31 = .ok (.iconst 4, 1) := by decide +kernel
theorem dL_pay_32 : decode cL_pay 32 = .ok (.ireturn, 1) := by decide +kernel
theorem dL_pay_33 : decode cL_pay 33 = .ok (.iconst 0, 1) := by decide +kernel
theorem dL_pay_34 : decode cL_pay 34 = .ok (.ireturn, 1) := by decide +kernel
theorem dL_deposit_0 : decode cL_deposit 0 = .ok (.aload 5, 2) := by decide +kernel
theorem dL_deposit_2 : decode cL_deposit 2 = .ok (.iconst 0, 1) := by decide +kernel
theorem dL_deposit_3 : decode cL_deposit 3 = .ok (.aload_n 0, 1) := by decide +kernel
theorem dL_deposit_4 : decode cL_deposit 4 = .ok (.iload_n 1, 1) := by decide +kernel
theorem dL_deposit_5 : decode cL_deposit 5 = .ok (.iload_n 2, 1) := by decide +kernel
theorem dL_deposit_6 : decode cL_deposit 6 = .ok (.iload_n 3, 1) := by decide +kernel
theorem dL_deposit_7 : decode cL_deposit 7 = .ok (.iload 4, 2) := by decide +kernel
theorem dL_deposit_9 : decode cL_deposit 9 = .ok (.invokevirtual 52, 3) := by decide +kernel
theorem dL_deposit_12 : decode cL_deposit 12 = .ok (.i2l, 1) := by decide +kernel
theorem dL_deposit_13 : decode cL_deposit 13 = .ok (.lastore, 1) := by decide +kernel
theorem dL_deposit_14 : decode cL_deposit 14 = .ok (.goto 19, 3) := by decide +kernel
theorem dL_deposit_17 : decode cL_deposit 17 = .ok (.astore 6, 2) := by decide +kernel
theorem dL_deposit_19 : decode cL_deposit 19 = .ok (.iconst 1, 1) := by decide +kernel
theorem dL_deposit_20 : decode cL_deposit 20 = .ok (.ireturn, 1) := by decide +kernel
theorem dL_deposit_21 : decode cL_deposit 21 = .ok (.astore 6, 2) := by decide +kernel
theorem dL_deposit_23 : decode cL_deposit 23 = .ok (.iconst 2, 1) := by decide +kernel
theorem dL_deposit_24 : decode cL_deposit 24 = .ok (.ireturn, 1) := by decide +kernel
theorem dL_deposit_25 : decode cL_deposit 25 = .ok (.astore 6, 2) := by decide +kernel
theorem dL_deposit_27 : decode cL_deposit 27 = .ok (.iconst 3, 1) := by decide +kernel
theorem dL_deposit_28 : decode cL_deposit 28 = .ok (.ireturn, 1) := by decide +kernel
theorem dL_deposit_29 : decode cL_deposit 29 = .ok (.astore 6, 2) := by decide +kernel
theorem dL_deposit_31 : decode cL_deposit 31 = .ok (.iconst 4, 1) := by decide +kernel
theorem dL_deposit_32 : decode cL_deposit 32 = .ok (.ireturn, 1) := by decide +kernel
theorem dL_deposit_33 : decode cL_deposit 33 = .ok (.iconst 0, 1) := by decide +kernel
theorem dL_deposit_34 : decode cL_deposit 34 = .ok (.ireturn, 1) := by decide +kernel
theorem dL_withdraw_0 : decode cL_withdraw 0 = .ok (.aload 5, 2) := by decide +kernel
theorem dL_withdraw_2 : decode cL_withdraw 2 = .ok (.iconst 0, 1) := by decide +kernel
theorem dL_withdraw_3 : decode cL_withdraw 3 = .ok (.aload_n 0, 1) := by decide +kernel
theorem dL_withdraw_4 : decode cL_withdraw 4 = .ok (.iload_n 1, 1) := by decide +kernel
theorem dL_withdraw_5 : decode cL_withdraw 5 = .ok (.iload_n 2, 1) := by decide +kernel
theorem dL_withdraw_6 : decode cL_withdraw 6 = .ok (.iload_n 3, 1) := by decide +kernel
theorem dL_withdraw_7 : decode cL_withdraw 7 = .ok (.iload 4, 2) := by decide +kernel
theorem dL_withdraw_9 : decode cL_withdraw 9 = .ok (.invokevirtual 55, 3) := by decide +kernel
theorem dL_withdraw_12 : decode cL_withdraw 12 = .ok (.i2l, 1) := by decide +kernel
theorem dL_withdraw_13 : decode cL_withdraw 13 = .ok (.lastore, 1) := by decide +kernel
theorem dL_withdraw_14 : decode cL_withdraw 14 = .ok (.goto 19, 3) := by decide +kernel
theorem dL_withdraw_17 : decode cL_withdraw 17 = .ok (.astore 6, 2) := by decide +kernel
theorem dL_withdraw_19 : decode cL_withdraw 19 = .ok (.iconst 1, 1) := by decide +kernel
theorem dL_withdraw_20 : decode cL_withdraw 20 = .ok (.ireturn, 1) := by decide +kernel
theorem dL_withdraw_21 : decode cL_withdraw 21 = .ok (.astore 6, 2) := by decide +kernel
theorem dL_withdraw_23 : decode cL_withdraw 23 = .ok (.iconst 2, 1) := by decide +kernel
theorem dL_withdraw_24 : decode cL_withdraw 24 = .ok (.ireturn, 1) := by decide +kernel
theorem dL_withdraw_25 : decode cL_withdraw 25 = .ok (.astore 6, 2) := by decide +kernel
theorem dL_withdraw_27 : decode cL_withdraw 27 = .ok (.iconst 3, 1) := by decide +kernel
theorem dL_withdraw_28 : decode cL_withdraw 28 = .ok (.ireturn, 1) := by decide +kernel
theorem dL_withdraw_29 : decode cL_withdraw 29 = .ok (.astore 6, 2) := by decide +kernel
theorem dL_withdraw_31 : decode cL_withdraw 31 = .ok (.iconst 4, 1) := by decide +kernel
theorem dL_withdraw_32 : decode cL_withdraw 32 = .ok (.ireturn, 1) := by decide +kernel
theorem dL_withdraw_33 : decode cL_withdraw 33 = .ok (.iconst 0, 1) := by decide +kernel
theorem dL_withdraw_34 : decode cL_withdraw 34 = .ok (.ireturn, 1) := by decide +kernel
theorem dL_lend_0 : decode cL_lend 0 = .ok (.aload 4, 2) := by decide +kernel
theorem dL_lend_2 : decode cL_lend 2 = .ok (.iconst 0, 1) := by decide +kernel
theorem dL_lend_3 : decode cL_lend 3 = .ok (.aload_n 0, 1) := by decide +kernel
theorem dL_lend_4 : decode cL_lend 4 = .ok (.iload_n 1, 1) := by decide +kernel
theorem dL_lend_5 : decode cL_lend 5 = .ok (.iload_n 2, 1) := by decide +kernel
theorem dL_lend_6 : decode cL_lend 6 = .ok (.iload_n 3, 1) := by decide +kernel
theorem dL_lend_7 : decode cL_lend 7 = .ok (.invokevirtual 59, 3) := by decide +kernel
theorem dL_lend_10 : decode cL_lend 10 = .ok (.i2l, 1) := by decide +kernel
theorem dL_lend_11 : decode cL_lend 11 = .ok (.lastore, 1) := by decide +kernel
theorem dL_lend_12 : decode cL_lend 12 = .ok (.goto 15, 3) := by decide +kernel
theorem dL_lend_15 : decode cL_lend 15 = .ok (.astore 5, 2) := by decide +kernel
theorem dL_lend_17 : decode cL_lend 17 = .ok (.iconst 1, 1) := by decide +kernel
theorem dL_lend_18 : decode cL_lend 18 = .ok (.ireturn, 1) := by decide +kernel
theorem dL_lend_19 : decode cL_lend 19 = .ok (.astore 5, 2) := by decide +kernel
theorem dL_lend_21 : decode cL_lend 21 = .ok (.iconst 2, 1) := by decide +kernel
theorem dL_lend_22 : decode cL_lend 22 = .ok (.ireturn, 1) := by decide +kernel
theorem dL_lend_23 : decode cL_lend 23 = .ok (.astore 5, 2) := by decide +kernel
theorem dL_lend_25 : decode cL_lend 25 = .ok (.iconst 3, 1) := by decide +kernel
theorem dL_lend_26 : decode cL_lend 26 = .ok (.ireturn, 1) := by decide +kernel
theorem dL_lend_27 : decode cL_lend 27 = .ok (.iconst 0, 1) := by decide +kernel
theorem dL_lend_28 : decode cL_lend 28 = .ok (.ireturn, 1) := by decide +kernel
theorem dL_hand_0 : decode cL_hand 0 = .ok (.aload 5, 2) := by decide +kernel
theorem dL_hand_2 : decode cL_hand 2 = .ok (.iconst 0, 1) := by decide +kernel
theorem dL_hand_3 : decode cL_hand 3 = .ok (.aload_n 0, 1) := by decide +kernel
theorem dL_hand_4 : decode cL_hand 4 = .ok (.iload_n 1, 1) := by decide +kernel
theorem dL_hand_5 : decode cL_hand 5 = .ok (.iload_n 2, 1) := by decide +kernel
theorem dL_hand_6 : decode cL_hand 6 = .ok (.iload_n 3, 1) := by decide +kernel
theorem dL_hand_7 : decode cL_hand 7 = .ok (.iload 4, 2) := by decide +kernel
theorem dL_hand_9 : decode cL_hand 9 = .ok (.invokevirtual 63, 3) := by decide +kernel
theorem dL_hand_12 : decode cL_hand 12 = .ok (.i2l, 1) := by decide +kernel
theorem dL_hand_13 : decode cL_hand 13 = .ok (.lastore, 1) := by decide +kernel
theorem dL_hand_14 : decode cL_hand 14 = .ok (.goto 19, 3) := by decide +kernel
theorem dL_hand_17 : decode cL_hand 17 = .ok (.astore 6, 2) := by decide +kernel
theorem dL_hand_19 : decode cL_hand 19 = .ok (.iconst 1, 1) := by decide +kernel
theorem dL_hand_20 : decode cL_hand 20 = .ok (.ireturn, 1) := by decide +kernel
theorem dL_hand_21 : decode cL_hand 21 = .ok (.astore 6, 2) := by decide +kernel
theorem dL_hand_23 : decode cL_hand 23 = .ok (.iconst 2, 1) := by decide +kernel
theorem dL_hand_24 : decode cL_hand 24 = .ok (.ireturn, 1) := by decide +kernel
theorem dL_hand_25 : decode cL_hand 25 = .ok (.astore 6, 2) := by decide +kernel
theorem dL_hand_27 : decode cL_hand 27 = .ok (.iconst 3, 1) := by decide +kernel
theorem dL_hand_28 : decode cL_hand 28 = .ok (.ireturn, 1) := by decide +kernel
theorem dL_hand_29 : decode cL_hand 29 = .ok (.astore 6, 2) := by decide +kernel
theorem dL_hand_31 : decode cL_hand 31 = .ok (.iconst 4, 1) := by decide +kernel
theorem dL_hand_32 : decode cL_hand 32 = .ok (.ireturn, 1) := by decide +kernel
theorem dL_hand_33 : decode cL_hand 33 = .ok (.iconst 0, 1) := by decide +kernel
theorem dL_hand_34 : decode cL_hand 34 = .ok (.ireturn, 1) := by decide +kernel
theorem dL_forgive_0 : decode cL_forgive 0 = .ok (.aload 4, 2) := by decide +kernel
theorem dL_forgive_2 : decode cL_forgive 2 = .ok (.iconst 0, 1) := by decide +kernel
theorem dL_forgive_3 : decode cL_forgive 3 = .ok (.aload_n 0, 1) := by decide +kernel
theorem dL_forgive_4 : decode cL_forgive 4 = .ok (.iload_n 1, 1) := by decide +kernel
theorem dL_forgive_5 : decode cL_forgive 5 = .ok (.iload_n 2, 1) := by decide +kernel
theorem dL_forgive_6 : decode cL_forgive 6 = .ok (.iload_n 3, 1) := by decide +kernel
theorem dL_forgive_7 : decode cL_forgive 7 = .ok (.invokevirtual 67, 3) := by decide +kernel
theorem dL_forgive_10 : decode cL_forgive 10 = .ok (.i2l, 1) := by decide +kernel
theorem dL_forgive_11 : decode cL_forgive 11 = .ok (.lastore, 1) := by decide +kernel
theorem dL_forgive_12 : decode cL_forgive 12 = .ok (.goto 15, 3) := by decide +kernel
theorem dL_forgive_15 : decode cL_forgive 15 = .ok (.astore 5, 2) := by decide +kernel
theorem dL_forgive_17 : decode cL_forgive 17 = .ok (.iconst 1, 1) := by decide +kernel
theorem dL_forgive_18 : decode cL_forgive 18 = .ok (.ireturn, 1) := by decide +kernel
theorem dL_forgive_19 : decode cL_forgive 19 = .ok (.astore 5, 2) := by decide +kernel
theorem dL_forgive_21 : decode cL_forgive 21 = .ok (.iconst 2, 1) := by decide +kernel
theorem dL_forgive_22 : decode cL_forgive 22 = .ok (.ireturn, 1) := by decide +kernel
theorem dL_forgive_23 : decode cL_forgive 23 = .ok (.astore 5, 2) := by decide +kernel
theorem dL_forgive_25 : decode cL_forgive 25 = .ok (.iconst 3, 1) := by decide +kernel
theorem dL_forgive_26 : decode cL_forgive 26 = .ok (.ireturn, 1) := by decide +kernel
theorem dL_forgive_27 : decode cL_forgive 27 = .ok (.iconst 0, 1) := by decide +kernel
theorem dL_forgive_28 : decode cL_forgive 28 = .ok (.ireturn, 1) := by decide +kernel
theorem dL_claim_0 : decode cL_claim 0 = .ok (.aload_n 3, 1) := by decide +kernel
theorem dL_claim_1 : decode cL_claim 1 = .ok (.iconst 0, 1) := by decide +kernel
theorem dL_claim_2 : decode cL_claim 2 = .ok (.aload_n 0, 1) := by decide +kernel
theorem dL_claim_3 : decode cL_claim 3 = .ok (.iload_n 1, 1) := by decide +kernel
theorem dL_claim_4 : decode cL_claim 4 = .ok (.iload_n 2, 1) := by decide +kernel
theorem dL_claim_5 : decode cL_claim 5 = .ok (.invokevirtual 70, 3) := by decide +kernel
theorem dL_claim_8 : decode cL_claim 8 = .ok (.i2l, 1) := by decide +kernel
theorem dL_claim_9 : decode cL_claim 9 = .ok (.lastore, 1) := by decide +kernel
theorem dL_claim_10 : decode cL_claim 10 = .ok (.goto 7, 3) := by decide +kernel
theorem dL_claim_13 : decode cL_claim 13 = .ok (.astore 4, 2) := by decide +kernel
theorem dL_claim_15 : decode cL_claim 15 = .ok (.iconst 1, 1) := by decide +kernel
theorem dL_claim_16 : decode cL_claim 16 = .ok (.ireturn, 1) := by decide +kernel
theorem dL_claim_17 : decode cL_claim 17 = .ok (.iconst 0, 1) := by decide +kernel
theorem dL_claim_18 : decode cL_claim 18 = .ok (.ireturn, 1) := by decide +kernel
theorem dL_draw_0 : decode cL_draw 0 = .ok (.aload 5, 2) := by decide +kernel
theorem dL_draw_2 : decode cL_draw 2 = .ok (.iconst 0, 1) := by decide +kernel
theorem dL_draw_3 : decode cL_draw 3 = .ok (.aload_n 0, 1) := by decide +kernel
theorem dL_draw_4 : decode cL_draw 4 = .ok (.iload_n 1, 1) := by decide +kernel
theorem dL_draw_5 : decode cL_draw 5 = .ok (.iload_n 2, 1) := by decide +kernel
theorem dL_draw_6 : decode cL_draw 6 = .ok (.iload_n 3, 1) := by decide +kernel
theorem dL_draw_7 : decode cL_draw 7 = .ok (.iload 4, 2) := by decide +kernel
theorem dL_draw_9 : decode cL_draw 9 = .ok (.invokevirtual 73, 3) := by decide +kernel
theorem dL_draw_12 : decode cL_draw 12 = .ok (.i2l, 1) := by decide +kernel
theorem dL_draw_13 : decode cL_draw 13 = .ok (.lastore, 1) := by decide +kernel
theorem dL_draw_14 : decode cL_draw 14 = .ok (.goto 19, 3) := by decide +kernel
theorem dL_draw_17 : decode cL_draw 17 = .ok (.astore 6, 2) := by decide +kernel
theorem dL_draw_19 : decode cL_draw 19 = .ok (.iconst 1, 1) := by decide +kernel
theorem dL_draw_20 : decode cL_draw 20 = .ok (.ireturn, 1) := by decide +kernel
theorem dL_draw_21 : decode cL_draw 21 = .ok (.astore 6, 2) := by decide +kernel
theorem dL_draw_23 : decode cL_draw 23 = .ok (.iconst 2, 1) := by decide +kernel
theorem dL_draw_24 : decode cL_draw 24 = .ok (.ireturn, 1) := by decide +kernel
theorem dL_draw_25 : decode cL_draw 25 = .ok (.astore 6, 2) := by decide +kernel
theorem dL_draw_27 : decode cL_draw 27 = .ok (.iconst 3, 1) := by decide +kernel
theorem dL_draw_28 : decode cL_draw 28 = .ok (.ireturn, 1) := by decide +kernel
theorem dL_draw_29 : decode cL_draw 29 = .ok (.astore 6, 2) := by decide +kernel
theorem dL_draw_31 : decode cL_draw 31 = .ok (.iconst 4, 1) := by decide +kernel
theorem dL_draw_32 : decode cL_draw 32 = .ok (.ireturn, 1) := by decide +kernel
theorem dL_draw_33 : decode cL_draw 33 = .ok (.iconst 0, 1) := by decide +kernel
theorem dL_draw_34 : decode cL_draw 34 = .ok (.ireturn, 1) := by decide +kernel
theorem dL_endorse_0 : decode cL_endorse 0 = .ok (.aload_n 3, 1) := by decide +kernel
theorem dL_endorse_1 : decode cL_endorse 1 = .ok (.iconst 0, 1) := by decide +kernel
theorem dL_endorse_2 : decode cL_endorse 2 = .ok (.aload_n 0, 1) := by decide +kernel
theorem dL_endorse_3 : decode cL_endorse 3 = .ok (.iload_n 1, 1) := by decide +kernel
theorem dL_endorse_4 : decode cL_endorse 4 = .ok (.iload_n 2, 1) := by decide +kernel
theorem dL_endorse_5 : decode cL_endorse 5 = .ok (.invokevirtual 76, 3) := by decide +kernel
theorem dL_endorse_8 : decode cL_endorse 8 = .ok (.i2l, 1) := by decide +kernel
theorem dL_endorse_9 : decode cL_endorse 9 = .ok (.lastore, 1) := by decide +kernel
theorem dL_endorse_10 : decode cL_endorse 10 = .ok (.goto 19, 3) := by decide +kernel
theorem dL_endorse_13 : decode cL_endorse 13 = .ok (.astore 4, 2) := by decide +kernel
theorem dL_endorse_15 : decode cL_endorse 15 = .ok (.iconst 1, 1) := by decide +kernel
theorem dL_endorse_16 : decode cL_endorse 16 = .ok (.ireturn, 1) := by decide +kernel
theorem dL_endorse_17 : decode cL_endorse 17 = .ok (.astore 4, 2) := by decide +kernel
theorem dL_endorse_19 : decode cL_endorse 19 = .ok (.iconst 2, 1) := by decide +kernel
theorem dL_endorse_20 : decode cL_endorse 20 = .ok (.ireturn, 1) := by decide +kernel
theorem dL_endorse_21 : decode cL_endorse 21 = .ok (.astore 4, 2) := by decide +kernel
theorem dL_endorse_23 : decode cL_endorse 23 = .ok (.iconst 3, 1) := by decide +kernel
theorem dL_endorse_24 : decode cL_endorse 24 = .ok (.ireturn, 1) := by decide +kernel
theorem dL_endorse_25 : decode cL_endorse 25 = .ok (.astore 4, 2) := by decide +kernel
theorem dL_endorse_27 : decode cL_endorse 27 = .ok (.iconst 4, 1) := by decide +kernel
theorem dL_endorse_28 : decode cL_endorse 28 = .ok (.ireturn, 1) := by decide +kernel
theorem dL_endorse_29 : decode cL_endorse 29 = .ok (.iconst 0, 1) := by decide +kernel
theorem dL_endorse_30 : decode cL_endorse 30 = .ok (.ireturn, 1) := by decide +kernel
theorem dL_holderOf_0 : decode cL_holderOf 0 = .ok (.aload_n 2, 1) := by decide +kernel
theorem dL_holderOf_1 : decode cL_holderOf 1 = .ok (.iconst 0, 1) := by decide +kernel
theorem dL_holderOf_2 : decode cL_holderOf 2 = .ok (.aload_n 0, 1) := by decide +kernel
theorem dL_holderOf_3 : decode cL_holderOf 3 = .ok (.iload_n 1, 1) := by decide +kernel
theorem dL_holderOf_4 : decode cL_holderOf 4 = .ok (.invokevirtual 79, 3) := by decide +kernel
theorem dL_holderOf_7 : decode cL_holderOf 7 = .ok (.i2l, 1) := by decide +kernel
theorem dL_holderOf_8 : decode cL_holderOf 8 = .ok (.lastore, 1) := by decide +kernel
theorem dL_holderOf_9 : decode cL_holderOf 9 = .ok (.goto 6, 3) := by decide +kernel
theorem dL_holderOf_12 : decode cL_holderOf 12 = .ok (.astore_n 3, 1) := by decide +kernel
theorem dL_holderOf_13 : decode cL_holderOf 13 = .ok (.iconst 1, 1) := by decide +kernel
theorem dL_holderOf_14 : decode cL_holderOf 14 = .ok (.ireturn, 1) := by decide +kernel
theorem dL_holderOf_15 : decode cL_holderOf 15 = .ok (.iconst 0, 1) := by decide +kernel
theorem dL_holderOf_16 : decode cL_holderOf 16 = .ok (.ireturn, 1) := by decide +kernel
theorem dL_addShare_0 : decode cL_addShare 0 = .ok (.aload 4, 2) := by decide +kernel
theorem dL_addShare_2 : decode cL_addShare 2 = .ok (.iconst 0, 1) := by decide +kernel
theorem dL_addShare_3 : decode cL_addShare 3 = .ok (.aload_n 0, 1) := by decide +kernel
theorem dL_addShare_4 : decode cL_addShare 4 = .ok (.iload_n 1, 1) := by decide +kernel
theorem dL_addShare_5 : decode cL_addShare 5 = .ok (.iload_n 2, 1) := by decide +kernel
theorem dL_addShare_6 : decode cL_addShare 6 = .ok (.iload_n 3, 1) := by decide +kernel
theorem dL_addShare_7 : decode cL_addShare 7 = .ok (.invokevirtual 83, 3) := by decide +kernel
theorem dL_addShare_10 : decode cL_addShare 10 = .ok (.i2l, 1) := by decide +kernel
theorem dL_addShare_11 : decode cL_addShare 11 = .ok (.lastore, 1) := by decide +kernel
theorem dL_addShare_12 : decode cL_addShare 12 = .ok (.goto 15, 3) := by decide +kernel
theorem dL_addShare_15 : decode cL_addShare 15 = .ok (.astore 5, 2) := by decide +kernel
theorem dL_addShare_17 : decode cL_addShare 17 = .ok (.iconst 1, 1) := by decide +kernel
theorem dL_addShare_18 : decode cL_addShare 18 = .ok (.ireturn, 1) := by decide +kernel
theorem dL_addShare_19 : decode cL_addShare 19 = .ok (.astore 5, 2) := by decide +kernel
theorem dL_addShare_21 : decode cL_addShare 21 = .ok (.iconst 2, 1) := by decide +kernel
theorem dL_addShare_22 : decode cL_addShare 22 = .ok (.ireturn, 1) := by decide +kernel
theorem dL_addShare_23 : decode cL_addShare 23 = .ok (.astore 5, 2) := by decide +kernel
theorem dL_addShare_25 : decode cL_addShare 25 = .ok (.iconst 3, 1) := by decide +kernel
theorem dL_addShare_26 : decode cL_addShare 26 = .ok (.ireturn, 1) := by decide +kernel
theorem dL_addShare_27 : decode cL_addShare 27 = .ok (.iconst 0, 1) := by decide +kernel
theorem dL_addShare_28 : decode cL_addShare 28 = .ok (.ireturn, 1) := by decide +kernel
theorem dL_throwOver_0 : decode cL_throwOver 0 = .ok (.aload 4, 2) := by decide +kernel
theorem dL_throwOver_2 : decode cL_throwOver 2 = .ok (.iconst 0, 1) := by decide +kernel
theorem dL_throwOver_3 : decode cL_throwOver 3 = .ok (.aload_n 0, 1) := by decide +kernel
theorem dL_throwOver_4 : decode cL_throwOver 4 = .ok (.iload_n 1, 1) := by decide +kernel
theorem dL_throwOver_5 : decode cL_throwOver 5 = .ok (.iload_n 2, 1) := by decide +kernel
theorem dL_throwOver_6 : decode cL_throwOver 6 = .ok (.iload_n 3, 1) := by decide +kernel
theorem dL_throwOver_7 : decode cL_throwOver 7 = .ok (.invokevirtual 86, 3) := by decide +kernel
theorem dL_throwOver_10 : decode cL_throwOver 10 = .ok (.i2l, 1) := by decide +kernel
theorem dL_throwOver_11 : decode cL_throwOver 11 = .ok (.lastore, 1) := by decide +kernel
theorem dL_throwOver_12 : decode cL_throwOver 12 = .ok (.goto 19, 3) := by decide +kernel
theorem dL_throwOver_15 : decode cL_throwOver 15 = .ok (.astore 5, 2) := by decide +kernel
theorem dL_throwOver_17 : decode cL_throwOver 17 = .ok (.iconst 1, 1) := by decide +kernel
theorem dL_throwOver_18 : decode cL_throwOver 18 = .ok (.ireturn, 1) := by decide +kernel
theorem dL_throwOver_19 : decode cL_throwOver 19 = .ok (.astore 5, 2) := by decide +kernel
theorem dL_throwOver_21 : decode cL_throwOver 21 = .ok (.iconst 2, 1) := by decide +kernel
theorem dL_throwOver_22 : decode cL_throwOver 22 = .ok (.ireturn, 1) := by decide +kernel
theorem dL_throwOver_23 : decode cL_throwOver 23 = .ok (.astore 5, 2) := by decide +kernel
theorem dL_throwOver_25 : decode cL_throwOver 25 = .ok (.iconst 3, 1) := by decide +kernel
theorem dL_throwOver_26 : decode cL_throwOver 26 = .ok (.ireturn, 1) := by decide +kernel
theorem dL_throwOver_27 : decode cL_throwOver 27 = .ok (.astore 5, 2) := by decide +kernel
theorem dL_throwOver_29 : decode cL_throwOver 29 = .ok (.iconst 4, 1) := by decide +kernel
theorem dL_throwOver_30 : decode cL_throwOver 30 = .ok (.ireturn, 1) := by decide +kernel
theorem dL_throwOver_31 : decode cL_throwOver 31 = .ok (.iconst 0, 1) := by decide +kernel
theorem dL_throwOver_32 : decode cL_throwOver 32 = .ok (.ireturn, 1) := by decide +kernel
theorem dL_coins_0 : decode cL_coins 0 = .ok (.aload_n 3, 1) := by decide +kernel
theorem dL_coins_1 : decode cL_coins 1 = .ok (.iconst 0, 1) := by decide +kernel
theorem dL_coins_2 : decode cL_coins 2 = .ok (.aload_n 0, 1) := by decide +kernel
theorem dL_coins_3 : decode cL_coins 3 = .ok (.iload_n 1, 1) := by decide +kernel
theorem dL_coins_4 : decode cL_coins 4 = .ok (.iload_n 2, 1) := by decide +kernel
theorem dL_coins_5 : decode cL_coins 5 = .ok (.invokevirtual 89, 3) := by decide +kernel
theorem dL_coins_8 : decode cL_coins 8 = .ok (.i2l, 1) := by decide +kernel
theorem dL_coins_9 : decode cL_coins 9 = .ok (.lastore, 1) := by decide +kernel
theorem dL_coins_10 : decode cL_coins 10 = .ok (.goto 11, 3) := by decide +kernel
theorem dL_coins_13 : decode cL_coins 13 = .ok (.astore 4, 2) := by decide +kernel
theorem dL_coins_15 : decode cL_coins 15 = .ok (.iconst 1, 1) := by decide +kernel
theorem dL_coins_16 : decode cL_coins 16 = .ok (.ireturn, 1) := by decide +kernel
theorem dL_coins_17 : decode cL_coins 17 = .ok (.astore 4, 2) := by decide +kernel
theorem dL_coins_19 : decode cL_coins 19 = .ok (.iconst 2, 1) := by decide +kernel
theorem dL_coins_20 : decode cL_coins 20 = .ok (.ireturn, 1) := by decide +kernel
theorem dL_coins_21 : decode cL_coins 21 = .ok (.iconst 0, 1) := by decide +kernel
theorem dL_coins_22 : decode cL_coins 22 = .ok (.ireturn, 1) := by decide +kernel
theorem dL_weightOf_0 : decode cL_weightOf 0 = .ok (.aload_n 2, 1) := by decide +kernel
theorem dL_weightOf_1 : decode cL_weightOf 1 = .ok (.iconst 0, 1) := by decide +kernel
theorem dL_weightOf_2 : decode cL_weightOf 2 = .ok (.aload_n 0, 1) := by decide +kernel
theorem dL_weightOf_3 : decode cL_weightOf 3 = .ok (.iload_n 1, 1) := by decide +kernel
theorem dL_weightOf_4 : decode cL_weightOf 4 = .ok (.invokevirtual 92, 3) := by decide +kernel
theorem dL_weightOf_7 : decode cL_weightOf 7 = .ok (.i2l, 1) := by decide +kernel
theorem dL_weightOf_8 : decode cL_weightOf 8 = .ok (.lastore, 1) := by decide +kernel
theorem dL_weightOf_9 : decode cL_weightOf 9 = .ok (.goto 6, 3) := by decide +kernel
theorem dL_weightOf_12 : decode cL_weightOf 12 = .ok (.astore_n 3, 1) := by decide +kernel
theorem dL_weightOf_13 : decode cL_weightOf 13 = .ok (.iconst 1, 1) := by decide +kernel
theorem dL_weightOf_14 : decode cL_weightOf 14 = .ok (.ireturn, 1) := by decide +kernel
theorem dL_weightOf_15 : decode cL_weightOf 15 = .ok (.iconst 0, 1) := by decide +kernel
theorem dL_weightOf_16 : decode cL_weightOf 16 = .ok (.ireturn, 1) := by decide +kernel
theorem dL_ownerOf_0 : decode cL_ownerOf 0 = .ok (.aload_n 2, 1) := by decide +kernel
theorem dL_ownerOf_1 : decode cL_ownerOf 1 = .ok (.iconst 0, 1) := by decide +kernel
theorem dL_ownerOf_2 : decode cL_ownerOf 2 = .ok (.aload_n 0, 1) := by decide +kernel
theorem dL_ownerOf_3 : decode cL_ownerOf 3 = .ok (.iload_n 1, 1) := by decide +kernel
theorem dL_ownerOf_4 : decode cL_ownerOf 4 = .ok (.invokevirtual 95, 3) := by decide +kernel
theorem dL_ownerOf_7 : decode cL_ownerOf 7 = .ok (.i2l, 1) := by decide +kernel
theorem dL_ownerOf_8 : decode cL_ownerOf 8 = .ok (.lastore, 1) := by decide +kernel
theorem dL_ownerOf_9 : decode cL_ownerOf 9 = .ok (.goto 6, 3) := by decide +kernel
theorem dL_ownerOf_12 : decode cL_ownerOf 12 = .ok (.astore_n 3, 1) := by decide +kernel
theorem dL_ownerOf_13 : decode cL_ownerOf 13 = .ok (.iconst 1, 1) := by decide +kernel
theorem dL_ownerOf_14 : decode cL_ownerOf 14 = .ok (.ireturn, 1) := by decide +kernel
theorem dL_ownerOf_15 : decode cL_ownerOf 15 = .ok (.iconst 0, 1) := by decide +kernel
theorem dL_ownerOf_16 : decode cL_ownerOf 16 = .ok (.ireturn, 1) := by decide +kernel
theorem dL_owners_0 : decode cL_owners 0 = .ok (.aload_n 2, 1) := by decide +kernel
theorem dL_owners_1 : decode cL_owners 1 = .ok (.iconst 0, 1) := by decide +kernel
theorem dL_owners_2 : decode cL_owners 2 = .ok (.aload_n 0, 1) := by decide +kernel
theorem dL_owners_3 : decode cL_owners 3 = .ok (.iload_n 1, 1) := by decide +kernel
theorem dL_owners_4 : decode cL_owners 4 = .ok (.invokevirtual 98, 3) := by decide +kernel
theorem dL_owners_7 : decode cL_owners 7 = .ok (.i2l, 1) := by decide +kernel
theorem dL_owners_8 : decode cL_owners 8 = .ok (.lastore, 1) := by decide +kernel
theorem dL_owners_9 : decode cL_owners 9 = .ok (.goto 6, 3) := by decide +kernel
theorem dL_owners_12 : decode cL_owners 12 = .ok (.astore_n 3, 1) := by decide +kernel
theorem dL_owners_13 : decode cL_owners 13 = .ok (.iconst 1, 1) := by decide +kernel
theorem dL_owners_14 : decode cL_owners 14 = .ok (.ireturn, 1) := by decide +kernel
theorem dL_owners_15 : decode cL_owners 15 = .ok (.iconst 0, 1) := by decide +kernel
theorem dL_owners_16 : decode cL_owners 16 = .ok (.ireturn, 1) := by decide +kernel
theorem dL_ore_0 : decode cL_ore 0 = .ok (.aload_n 3, 1) := by decide +kernel
theorem dL_ore_1 : decode cL_ore 1 = .ok (.iconst 0, 1) := by decide +kernel
theorem dL_ore_2 : decode cL_ore 2 = .ok (.aload_n 0, 1) := by decide +kernel
theorem dL_ore_3 : decode cL_ore 3 = .ok (.iload_n 1, 1) := by decide +kernel
theorem dL_ore_4 : decode cL_ore 4 = .ok (.iload_n 2, 1) := by decide +kernel
theorem dL_ore_5 : decode cL_ore 5 = .ok (.invokevirtual 101, 3) := by decide +kernel
theorem dL_ore_8 : decode cL_ore 8 = .ok (.i2l, 1) := by decide +kernel
theorem dL_ore_9 : decode cL_ore 9 = .ok (.lastore, 1) := by decide +kernel
theorem dL_ore_10 : decode cL_ore 10 = .ok (.goto 11, 3) := by decide +kernel
theorem dL_ore_13 : decode cL_ore 13 = .ok (.astore 4, 2) := by decide +kernel
theorem dL_ore_15 : decode cL_ore 15 = .ok (.iconst 1, 1) := by decide +kernel
theorem dL_ore_16 : decode cL_ore 16 = .ok (.ireturn, 1) := by decide +kernel
theorem dL_ore_17 : decode cL_ore 17 = .ok (.astore 4, 2) := by decide +kernel
theorem dL_ore_19 : decode cL_ore 19 = .ok (.iconst 2, 1) := by decide +kernel
theorem dL_ore_20 : decode cL_ore 20 = .ok (.ireturn, 1) := by decide +kernel
theorem dL_ore_21 : decode cL_ore 21 = .ok (.iconst 0, 1) := by decide +kernel
theorem dL_ore_22 : decode cL_ore 22 = .ok (.ireturn, 1) := by decide +kernel
theorem dL_wealth_0 : decode cL_wealth 0 = .ok (.aload_n 2, 1) := by decide +kernel
theorem dL_wealth_1 : decode cL_wealth 1 = .ok (.iconst 0, 1) := by decide +kernel
theorem dL_wealth_2 : decode cL_wealth 2 = .ok (.aload_n 0, 1) := by decide +kernel
theorem dL_wealth_3 : decode cL_wealth 3 = .ok (.iload_n 1, 1) := by decide +kernel
theorem dL_wealth_4 : decode cL_wealth 4 = .ok (.invokevirtual 104, 3) := by decide +kernel
theorem dL_wealth_7 : decode cL_wealth 7 = .ok (.lastore, 1) := by decide +kernel
theorem dL_wealth_8 : decode cL_wealth 8 = .ok (.goto 6, 3) := by decide +kernel
theorem dL_wealth_11 : decode cL_wealth 11 = .ok (.astore_n 3, 1) := by decide +kernel
theorem dL_wealth_12 : decode cL_wealth 12 = .ok (.iconst 1, 1) := by decide +kernel
theorem dL_wealth_13 : decode cL_wealth 13 = .ok (.ireturn, 1) := by decide +kernel
theorem dL_wealth_14 : decode cL_wealth 14 = .ok (.iconst 0, 1) := by decide +kernel
theorem dL_wealth_15 : decode cL_wealth 15 = .ok (.ireturn, 1) := by decide +kernel
theorem dL_lightShare_0 : decode cL_lightShare 0 = .ok (.aload_n 1, 1) := by decide +kernel
theorem dL_lightShare_1 : decode cL_lightShare 1 = .ok (.iconst 0, 1) := by decide +kernel
theorem dL_lightShare_2 : decode cL_lightShare 2 = .ok (.aload_n 0, 1) := by decide +kernel
theorem dL_lightShare_3 : decode cL_lightShare 3 = .ok (.invokevirtual 108, 3) := by decide +kernel
theorem dL_lightShare_6 : decode cL_lightShare 6 = .ok (.f2d, 1) := by decide +kernel
theorem dL_lightShare_7 : decode cL_lightShare 7 = .ok (.dastore, 1) := by decide +kernel
theorem dL_lightShare_8 : decode cL_lightShare 8 = .ok (.goto 6, 3) := by decide +kernel
theorem dL_lightShare_11 : decode cL_lightShare 11 = .ok (.astore_n 2, 1) := by decide +kernel
theorem dL_lightShare_12 : decode cL_lightShare 12 = .ok (.iconst 1, 1) := by decide +kernel
theorem dL_lightShare_13 : decode cL_lightShare 13 = .ok (.ireturn, 1) := by decide +kernel
theorem dL_lightShare_14 : decode cL_lightShare 14 = .ok (.iconst 0, 1) := by decide +kernel
theorem dL_lightShare_15 : decode cL_lightShare 15 = .ok (.ireturn, 1) := by decide +kernel
theorem dL_meanWeight_0 : decode cL_meanWeight 0 = .ok (.aload_n 1, 1) := by decide +kernel
theorem dL_meanWeight_1 : decode cL_meanWeight 1 = .ok (.iconst 0, 1) := by decide +kernel
theorem dL_meanWeight_2 : decode cL_meanWeight 2 = .ok (.aload_n 0, 1) := by decide +kernel
theorem dL_meanWeight_3 : decode cL_meanWeight 3 = .ok (.invokevirtual 114, 3) := by decide +kernel
theorem dL_meanWeight_6 : decode cL_meanWeight 6 = .ok (.dastore, 1) := by decide +kernel
theorem dL_meanWeight_7 : decode cL_meanWeight 7 = .ok (.goto 6, 3) := by decide +kernel
theorem dL_meanWeight_10 : decode cL_meanWeight 10 = .ok (.astore_n 2, 1) := by decide +kernel
theorem dL_meanWeight_11 : decode cL_meanWeight 11 = .ok (.iconst 1, 1) := by decide +kernel
theorem dL_meanWeight_12 : decode cL_meanWeight 12 = .ok (.ireturn, 1) := by decide +kernel
theorem dL_meanWeight_13 : decode cL_meanWeight 13 = .ok (.iconst 0, 1) := by decide +kernel
theorem dL_meanWeight_14 : decode cL_meanWeight 14 = .ok (.ireturn, 1) := by decide +kernel
end
section
-- THE LAYER: a walk over an abstract heap. h : address -> contents; everything at or above the law's own start (G's base) is the system's
abbrev hk_E : Type := (Nat × vp_A) ⊕ (Nat × List Value)
abbrev hk_H : Type := Nat → Option hk_E
-- class numbers, slots, array classes by tag, the base, known addresses below it
abbrev hk_G : Type := (Nat → ClassId) × (Nat → Nat → Nat) × (Nat → ClassId) × Nat × (Nat → Nat)
def hk_D (G : hk_G) : va_G := (G.1, G.2.1)
def hk_dA (G : hk_G) : Nat → ClassId := G.2.2.1
def hk_B (G : hk_G) : Nat := G.2.2.2.1
def hk_K (G : hk_G) : Nat → Nat := G.2.2.2.2
def hk_A (G : hk_G) : Nat → Prop := fun q => hk_B G ≤ q
def hk_ty (t : Nat) : FieldType := match t with
  | 0 => .int
  | 1 => .boolean
  | 2 => .long
  | 3 => .double
  | 4 => .char
  | 5 => .object "java/lang/Object"
  | _ => .array .int
def hk_cv (G : hk_G) (x : hk_E) : va_E := match x with
  | .inl a => .inl (hk_dA G a.1, a.2)
  | .inr o => .inr o
def hk_P (G : hk_G) (h : hk_H) (H : Heap) : Prop := ∀ (a : Nat) (x : hk_E), h a = some x → hk_A G a ∧ va_at (hk_D G) vwCl (a, hk_cv G x) H
def hk_set (h : hk_H) (a : Nat) (x : hk_E) : hk_H := fun q => if q = a then some x else h q
theorem hk_set_eq {h : hk_H} {a : Nat} {x : hk_E} : hk_set h a x a = some x := if_pos rfl
theorem hk_set_ne {h : hk_H} {a q : Nat} {x : hk_E} (hq : q ≠ a) : hk_set h a x q = h q := if_neg hq
theorem hk_P.set {G : hk_G} {h : hk_H} {H H1 : Heap} {a : Nat} {x x' : hk_E} (hP : hk_P G h H) (ha : h a = some x) (he : va_at (hk_D G) vwCl (a, hk_cv G x') H1) (oq : ∀ q : Nat, q ≠ a → H1[q]? = H[q]?) : hk_P G (hk_set h a x') H1 := by
  intro q y hy
  by_cases hq : q = a
  · subst hq
    rw [hk_set_eq] at hy
    cases hy
    exact ⟨(hP q x ha).1, he⟩
  · rw [hk_set_ne hq] at hy
    exact ⟨(hP q y hy).1, (hP q y hy).2.kept (oq q hq)⟩
theorem hk_P.lt {G : hk_G} {h : hk_H} {H : Heap} (hP : hk_P G h H) {a : Nat} {x : hk_E} (ha : h a = some x) : a < H.size := (hP a x ha).2.lt
theorem hk_P.push {G : hk_G} {h : hk_H} {H H1 : Heap} {x' : hk_E} (hP : hk_P G h H) (hA : hk_A G H.size) (he : va_at (hk_D G) vwCl (H.size, hk_cv G x') H1) (oq : ∀ q : Nat, q < H.size → H1[q]? = H[q]?) : h H.size = none ∧ hk_P G (hk_set h H.size x') H1 := by
  have hn : h H.size = none := by
    cases hz : h H.size with
    | none => rfl
    | some y => exact absurd (hP.lt hz) (Nat.lt_irrefl _)
  refine ⟨hn, fun q y hy => ?_⟩
  by_cases hq : q = H.size
  · subst hq
    rw [hk_set_eq] at hy
    cases hy
    exact ⟨hA, he⟩
  · rw [hk_set_ne hq] at hy
    exact ⟨(hP q y hy).1, (hP q y hy).2.kept (oq q (hP.lt hy))⟩
-- what lies still and is known: the classes, the array classes, statics, String constants, words that are no good ones
def hk_isN (w : Cond) : Bool := match w with
  | .fieldLinkNest .. => true
  | .methodLinkNest .. => true
  | .castable .. => true
  | .declares .. => true
  | _ => false
theorem hk_Nw_warm {s U : State} (hW : s.WarmedH U.vm) : ∀ (w : Cond), hk_isN w = true → va_Nw w s → va_Nw w U
  | .fieldLinkNest a i b n d hh, _, h => va_Nw.warmF hW h
  | .methodLinkNest a i x hh, _, h => va_Nw.warmM hW h
  | .castable C T, _, h => va_Nw.warmC hW h
  | .declares x, _, h => va_Nw.warmD hW h
def hk_strs : List (Nat × String) := [(57, "no such kind"), (68, "no more houses"), (276, "no such house"), (285, "no such metal"), (287, "a number is out of range"), (293, "the house failed"), (113, "not enough ore"), (119, "too many coins"), (279, "there never was such a coin"), (295, "the coin was melted"), (135, "too little would be left"), (289, "the houses are the same"), (297, "not so many coins"), (291, "it is no bank"), (299, "the claim is less"), (188, "no more bills"), (281, "no such bill"), (199, "the bill came due"), (204, "no more endorsers"), (283, "no such voyage"), (230, "no share"), (306, "there are no coins")]
-- interface calls of the lists: the class, the interface's method, the class's own
def hk_fws : List (String × MethodName × MethodName) := [
  (RJx4a65c, ⟨"java/util/List", "add", "(Ljava/lang/Object;)Z"⟩, yJx4a65c_add_9ea2d), (RJx4a65c, ⟨"java/util/List", "size", "()I"⟩, yJx4a65c_size_8abf5), (RJx4a65c, ⟨"java/util/List", "get", "(I)Ljava/lang/Object;"⟩, yJx4a65c_get_915e3),
  (RJx4a65c, ⟨"java/util/List", "iterator", "()Ljava/util/Iterator;"⟩, yJx4a65c_iterator_32c93), (RJx35411, ⟨"java/util/Iterator", "hasNext", "()Z"⟩, yJx35411_hasNext_aae02), (RJx35411, ⟨"java/util/Iterator", "next", "()Ljava/lang/Object;"⟩, yJx35411_next_0502b),
  (RJx4a65c, ⟨"java/util/List", "set", "(ILjava/lang/Object;)Ljava/lang/Object;"⟩, yJx4a65c_set_bcc79), (RJx4a65c, ⟨"java/util/List", "add", "(ILjava/lang/Object;)V"⟩, yJx4a65c_add_7a177), (RJx4a65c, ⟨"java/util/List", "addAll", "(Ljava/util/Collection;)Z"⟩, yJx4a65c_addAll_f0b43), (RJx4a65c, ⟨"java/util/Collection", "toArray", "()[Ljava/lang/Object;"⟩, yJx4a65c_toArray_d5877)]
theorem hk_fws_mh : ∀ q ∈ hk_fws, q.2.1.cls ≠ "java/lang/invoke/MethodHandle" ∧ q.2.1.cls ≠ "java/lang/invoke/VarHandle" := by decide +kernel
def hk_AOA (U : State) : Prop := (Cond.arrayOver (.array .int)).before #[] U = true
theorem hk_AOA.moved {u U : State} (hvm : u.vm.Alike U.vm) (h : hk_AOA u) : hk_AOA U := by
  unfold hk_AOA Cond.before Cond.holds at h ⊢
  simp only [Cond.value, beq_iff_eq] at h ⊢
  obtain ⟨comp, h1, h2⟩ := Option.bind_eq_some_iff.mp h
  obtain ⟨c, h3, h4⟩ := Option.bind_eq_some_iff.mp h2
  obtain ⟨k, h5, h6⟩ := Option.map_eq_some_iff.mp h4
  obtain ⟨k', hk', he⟩ := hvm.2.2 _ _ h5
  have hi := (va_idx_bare U.vm comp).symm
  first | rw [hvm.bare_eq] at hi | rw [← hvm.bare_eq] at hi
  have hi2 := hi.trans (va_idx_bare u.vm comp)
  refine Option.bind_eq_some_iff.mpr ⟨comp, by rw [hvm.findClass]; exact h1, Option.bind_eq_some_iff.mpr ⟨c, hi2.trans h3, Option.map_eq_some_iff.mpr ⟨k', hk', ?_⟩⟩⟩
  rw [show k'.kind = k.kind from by rw [he]]
  rw [hvm.findClass]
  exact h6
-- what of the JDK lies still and is known: the empty list's row, the small Characters and Integers, the String "gs", the class object of Object[]
def hk_J (G : hk_G) (U : State) (H : Heap) : Prop :=
  (va_Z "java/util/ArrayList" "DEFAULTCAPACITY_EMPTY_ELEMENTDATA" "[Ljava/lang/Object;" (.ref (hk_K G 1001)) (hk_A G) U H ∧ va_T (.object "java/lang/Object") (hk_K G 1001) 0 (fun _ => .null) (hk_A G) U H ∧ va_O "[Ljava/lang/Object;" (hk_K G 1001) (hk_A G) U H) ∧
  (va_Z "java/lang/Character$CharacterCache" "cache" "[Ljava/lang/Character;" (.ref (hk_K G 1002)) (hk_A G) U H ∧ va_T (.object "java/lang/Character") (hk_K G 1002) 128 (fun i => .ref (hk_K G (2000 + i))) (hk_A G) U H ∧
    (∀ i : Nat, i < 128 → va_O "java/lang/Character" (hk_K G (2000 + i)) (hk_A G) U H ∧ va_OF "java/lang/Character" "value" "C" (.int (nI i)) (hk_K G (2000 + i)) (hk_A G) U H)) ∧
  (va_Z "java/lang/Integer$IntegerCache" "high" "I" (.int 127) (hk_A G) U H ∧ va_Z "java/lang/Integer$IntegerCache" "cache" "[Ljava/lang/Integer;" (.ref (hk_K G 1003)) (hk_A G) U H ∧ va_T (.object "java/lang/Integer") (hk_K G 1003) 256 (fun i => .ref (hk_K G (3000 + i))) (hk_A G) U H ∧
    (∀ i : Nat, i < 256 → va_O "java/lang/Integer" (hk_K G (3000 + i)) (hk_A G) U H ∧ va_OF "java/lang/Integer" "value" "I" (.int (nI i - 128)) (hk_K G (3000 + i)) (hk_A G) U H)) ∧
  (va_Z "java/lang/String" "COMPACT_STRINGS" "Z" (.int 1) (hk_A G) U H ∧ vk_R RX9 72 "gs" (hk_K G 1004) U ∧ va_O "java/lang/String" (hk_K G 1004) (hk_A G) U H ∧ va_OF "java/lang/String" "coder" "B" (.int 0) (hk_K G 1004) (hk_A G) U H ∧ va_OF "java/lang/String" "value" "[B" (.ref (hk_K G 1005)) (hk_K G 1004) (hk_A G) U H ∧ va_T .byte (hk_K G 1005) 2 (fun j => .int (if j = 0 then 103 else 115)) (hk_A G) U H) ∧
  va_Mi "[Ljava/lang/Object;" (hk_K G 1006) U ∧ (∀ q ∈ hk_fws, va_Fw q.1 q.2.1 q.2.2 U) ∧ va_AO "java/lang/Object" U ∧ hk_AOA U
theorem hk_J.warm {G : hk_G} {s U : State} {H H1 : Heap} (hW : s.WarmedH U.vm) (hq : ∀ a : Nat, a < H.size → ¬ hk_A G a → H1[a]? = H[a]?) (h : hk_J G s H) : hk_J G U H1 := by
  obtain ⟨⟨a1, a2, a3⟩, ⟨b1, b2, b3⟩, ⟨c1, c2, c3, c4⟩, ⟨d1, d2, d3, d4, d5, d6⟩, e1, e2, e3, e4⟩ := h
  have hA := hW.alike
  exact ⟨⟨(a1.moved hA).kept hq, (a2.moved hA).kept hq, (a3.moved hA).kept hq⟩, ⟨(b1.moved hA).kept hq, (b2.moved hA).kept hq, fun i hi => ⟨((b3 i hi).1.moved hA).kept hq, ((b3 i hi).2.moved hA).kept hq⟩⟩, ⟨(c1.moved hA).kept hq, (c2.moved hA).kept hq, (c3.moved hA).kept hq, fun i hi => ⟨((c4 i hi).1.moved hA).kept hq, ((c4 i hi).2.moved hA).kept hq⟩⟩, ⟨(d1.moved hA).kept hq, d2.warm hW, (d3.moved hA).kept hq, (d4.moved hA).kept hq, (d5.moved hA).kept hq, (d6.moved hA).kept hq⟩, e1.moved hA, fun q hq => (e2 q hq).moved (hk_fws_mh q hq) hA, e3.moved hA, e4.moved hA⟩
def hk_F (G : hk_G) (U : State) (H : Heap) : Prop :=
  (∀ (c : Nat) (q : vw_C), vwCl[c]? = some q → u_Kn U q.1 q.2.1 q.2.2 (G.1 c) (G.2.1 c)) ∧
  (∀ t : Nat, t < 7 → ArrOfT U (hk_dA G t) (hk_ty t) ∧ va_RA U (hk_dA G t) (hk_ty t)) ∧
  vx_Zq Bundle.tN "UNASSIGNED_STACK" Bundle.steD (hk_A G) U H ∧ vx_Zq Bundle.tN "SUPPRESSED_SENTINEL" Bundle.listD (hk_A G) U H ∧
  (∀ x ∈ hk_strs, vk_R RX6 x.1 x.2 (hk_K G x.1) U) ∧
  (∀ w ∈ lw_tbl, hk_isN w = true → va_Nw w U) ∧ hk_J G U H
theorem hk_F.warm {G : hk_G} {s U : State} {H H1 : Heap} (hW : s.WarmedH U.vm) (hq : ∀ a : Nat, a < H.size → ¬ hk_A G a → H1[a]? = H[a]?) (h : hk_F G s H) : hk_F G U H1 := by
  obtain ⟨h1, h2, h3, h4, h5, h6, h7⟩ := h
  have hA := hW.alike
  exact ⟨fun c q hc => u_Kn_moved hA (h1 c q hc), fun t ht => ⟨arrOfT_moved hA (h2 t ht).1, (h2 t ht).2.moved hA⟩, (h3.moved hA).kept hq, (h4.moved hA).kept hq, fun x hx => (h5 x hx).warm hW, fun w hw hn => hk_Nw_warm hW w hn (h6 w hw hn), h7.warm hW hq⟩
theorem hk_F.K {G : hk_G} {U : State} {H : Heap} (h : hk_F G U H) : va_K (hk_D G) vwCl [] U := ⟨h.1, fun k q hk => by simp at hk⟩
theorem hk_F.KT {G : hk_G} {U : State} {H : Heap} (h : hk_F G U H) {t : Nat} (ht : t < 7) : va_K (hk_D G) vwCl [(hk_dA G t, hk_ty t)] U := ⟨h.1, fun k q hk => by
  have hk0 : k < 1 := (List.getElem?_eq_some_iff.mp hk).1
  rw [show k = 0 by omega] at hk
  cases hk
  exact h.2.1 t ht⟩
-- the words that a method may ask of the tables
def hk_all : List Cond := lw_tbl.filter goodWord
theorem hk_all_good : GoodIn hk_all hk_all := fun w h => ⟨h, good_of_word (List.mem_filter.mp h).2⟩
theorem hk_w {i : Nat} {w : Cond} (h : lw_tbl[i]? = some w) (hg : goodWord w = true) : w ∈ hk_all := List.mem_filter.mpr ⟨List.mem_of_getElem? h, hg⟩
def hk_rm (d k n : Nat) : Room := { frames := d, cells := k, slots := n, locals := 64 * d }
-- a method's own surroundings
def hk_C (G : hk_G) (l : Launch) (y : MethodName) (b : ByteArray) (nL : Nat) (ret : Option FieldType) (hh : List (Nat × Nat × Nat × Nat)) (p : Program) (s : State) (m : MethodId) (args : Array Value) (meth : Method) (c : Code) : Prop :=
  p.tables.exec = Jvm.exec ∧ c.code = b ∧ meth.sig.returnType = ret ∧ c.maxLocals = nL ∧ s.vm.findClass y.cls = some m.cls ∧ (∀ w ∈ hk_all, w.before args s = true) ∧ meth.locks = false ∧ meth.name = y.name ∧ c.exceptionTable.toList = tableOf hh ∧ hk_F G s s.heap ∧ l.stackTraces = false ∧ hk_B G ≤ s.heap.size
def hk_O (G : hk_G) (h : hk_H) (s : State) (H : Heap) (locs : List Loc) : Prop := hk_P G h H ∧ va_S (hk_A G) s.heap H locs
def hk_Pc (G : hk_G) (h : hk_H) (As : List Value) : Array Value → State → Prop := fun v U => v = As.toArray ∧ hk_F G U U.heap ∧ hk_P G h U.heap ∧ hk_B G ≤ U.heap.size
def hk_Qc (G : hk_G) (Q : Option Value → hk_H → Prop) : Array Value → State → Outcome → State → Prop := fun _ st o t => ∃ (r : Option Value) (h' : hk_H), o = .returned r ∧ Q r h' ∧ hk_P G h' t.heap ∧ va_F (hk_A G) st t
def hk_XC (G : hk_G) (X : String → hk_H → Prop) : String → State → State → Prop := fun E st t => ∃ h' : hk_H, X E h' ∧ hk_P G h' t.heap ∧ va_F (hk_A G) st t
theorem hk_Pc_blind {G : hk_G} {h : hk_H} {As : List Value} : FrameBlind (hk_Pc G h As) := fun a U g mk q => ⟨q.1, hk_F.warm (s := U) (U := U.calling g mk a) (State.WarmedH.refl U) (fun _ _ _ => rfl) q.2.1, q.2.2⟩
def hk_ws (y : MethodName) (b : ByteArray) (nL : Nat) (ret : Option FieldType) : List Cond := .code y b nL ret :: hk_all
-- a method's contract on an abstract heap
def hk_Ctr (G : hk_G) (l : Launch) (d : Nat) (y : MethodName) (b : ByteArray) (nL : Nat) (ret : Option FieldType) (k n : Nat) (As : List Value) (h : hk_H) (Q : Option Value → hk_H → Prop) (X : String → hk_H → Prop) : Prop :=
  vx_Met l y (hk_ws y b nL ret) (hk_rm d k n) (hk_Pc G h As) (hk_Qc G Q) (hk_XC G X) k n (hk_A G)
-- the locals, by their places
def hk_L (ls : Array Slot) (lv : List (Option Value)) : Prop := ls.size = lv.length ∧ lv_wf ls ∧ ∀ (i : Nat) (v : Value), lv[i]? = some (some v) → ls[i]? = some (.val v)
def hk_en (lv : List (Option Value)) : List (Nat × Value) := (List.range lv.length).filterMap (fun j => (lv.getD j none).map (fun w => (j, w)))
theorem hk_en_in {lv : List (Option Value)} {i : Nat} {v : Value} : (i, v) ∈ hk_en lv ↔ lv[i]? = some (some v) := by
  unfold hk_en
  rw [List.mem_filterMap]
  constructor
  · rintro ⟨j, hj, h⟩
    rw [List.mem_range] at hj
    rw [List.getD_eq_getElem?_getD, List.getElem?_eq_getElem hj, Option.getD_some] at h
    cases hv : lv[j] with
    | none => rw [hv] at h; cases h
    | some w =>
      rw [hv] at h
      cases h
      rw [List.getElem?_eq_getElem hj, hv]
  · intro h
    have hj : i < lv.length := (List.getElem?_eq_some_iff.mp h).1
    refine ⟨i, List.mem_range.mpr hj, ?_⟩
    rw [List.getD_eq_getElem?_getD, h]
    rfl
theorem hk_L.has {ls : Array Slot} {lv : List (Option Value)} {nL : Nat} (h : hk_L ls lv) (hn : lv.length = nL) : lv_has ls nL (hk_en lv) := ⟨h.1.trans hn, h.2.1, fun q hq => h.2.2 q.1 q.2 (hk_en_in.mp hq)⟩
theorem hk_L.get {ls : Array Slot} {lv : List (Option Value)} {i : Nat} {v : Value} (h : hk_L ls lv) (hi : lv[i]? = some (some v)) : ls[i]? = some (.val v) := h.2.2 i v hi
def hk_g (l : List (Option Value)) (i : Nat) : Option Value := match l, i with
  | [], _ => none
  | x :: _, 0 => x
  | _ :: l, i + 1 => hk_g l i
def hk_s (l : List (Option Value)) (i : Nat) (v : Option Value) : List (Option Value) := match l, i with
  | [], _ => []
  | _ :: l, 0 => v :: l
  | x :: l, i + 1 => x :: hk_s l i v
theorem hk_g_iff : ∀ {l : List (Option Value)} {i : Nat} {v : Value}, hk_g l i = some v ↔ l[i]? = some (some v)
  | [], i, v => by simp [hk_g]
  | x :: l, 0, v => by simp [hk_g]
  | x :: l, i + 1, v => by simp [hk_g, hk_g_iff (l := l) (i := i) (v := v)]
theorem hk_g_of {l : List (Option Value)} {i : Nat} {v : Value} (h : hk_g l i = some v) : l[i]? = some (some v) := hk_g_iff.mp h
theorem hk_s_eq : ∀ (l : List (Option Value)) (i : Nat) (v : Option Value), hk_s l i v = l.set i v
  | [], i, v => by simp [hk_s]
  | x :: l, 0, v => by simp [hk_s]
  | x :: l, i + 1, v => by simp [hk_s, hk_s_eq l i v]
theorem hk_s_len {l : List (Option Value)} {i : Nat} {v : Option Value} : (hk_s l i v).length = l.length := by rw [hk_s_eq, List.length_set]
def hk_okv (x : Option Value) : Bool := match x with
  | some w => w.category == 1
  | none => true
def hk_ok (lv : List (Option Value)) (i : Nat) : Bool := match i with
  | 0 => true
  | j + 1 => hk_okv (hk_g lv j)
theorem hk_ok_ne {lv : List (Option Value)} {i j : Nat} {w : Value} (h : hk_ok lv i = true) (hj : lv[j]? = some (some w)) (he : j + 1 = i) : ¬ w.category = 2 := by
  subst he
  intro hc
  have h1 : hk_okv (hk_g lv j) = true := h
  rw [hk_g_iff.mpr hj] at h1
  simp [hk_okv, hc] at h1
theorem hk_L.set1 {ls' : Array Slot} {lv : List (Option Value)} {i nL : Nat} {v : Value} (h : lv_has ls' nL ((i, v) :: (hk_en lv).filter (fun q => !(q.1 == i) && !(q.1 + 1 == i && q.2.category == 2)))) (hn : lv.length = nL) (hok : hk_ok lv i = true) : hk_L ls' (lv.set i (some v)) := by
  refine ⟨by rw [h.1, List.length_set, hn], h.2.1, fun j w hj => ?_⟩
  by_cases e : j = i
  · subst e
    have hl : j < lv.length := by
      have := (List.getElem?_eq_some_iff.mp hj).1
      rwa [List.length_set] at this
    rw [List.getElem?_set_self hl] at hj
    cases hj
    exact h.2.2 _ List.mem_cons_self
  · rw [List.getElem?_set_ne (Ne.symm e)] at hj
    refine h.2.2 (j, w) (List.mem_cons_of_mem _ (List.mem_filter.mpr ⟨hk_en_in.mpr hj, ?_⟩))
    simp only [Bool.and_eq_true, Bool.not_eq_true', beq_eq_false_iff_ne, ne_eq, Bool.and_eq_false_iff]
    refine ⟨e, ?_⟩
    by_cases e2 : j + 1 = i
    · exact Or.inr (hk_ok_ne hok hj e2)
    · exact Or.inl e2
theorem hk_L.set2 {ls' : Array Slot} {lv : List (Option Value)} {i nL : Nat} {v : Value} (h : lv_has ls' nL ((i, v) :: (hk_en lv).filter (fun q => !(q.1 == i) && (!(q.1 == i + 1) && !(q.1 + 1 == i && q.2.category == 2))))) (hn : lv.length = nL) (hok : hk_ok lv i = true) : hk_L ls' ((lv.set i (some v)).set (i + 1) none) := by
  refine ⟨by rw [h.1, List.length_set, List.length_set, hn], h.2.1, fun j w hj => ?_⟩
  by_cases e3 : j = i + 1
  · subst e3
    by_cases hl : i + 1 < (lv.set i (some v)).length
    · rw [List.getElem?_set_self hl] at hj
      cases hj
    · rw [List.getElem?_eq_none (by rw [List.length_set]; omega)] at hj
      cases hj
  rw [List.getElem?_set_ne (Ne.symm e3)] at hj
  by_cases e : j = i
  · subst e
    have hl : j < lv.length := by
      have := (List.getElem?_eq_some_iff.mp hj).1
      rwa [List.length_set] at this
    rw [List.getElem?_set_self hl] at hj
    cases hj
    exact h.2.2 _ List.mem_cons_self
  · rw [List.getElem?_set_ne (Ne.symm e)] at hj
    refine h.2.2 (j, w) (List.mem_cons_of_mem _ (List.mem_filter.mpr ⟨hk_en_in.mpr hj, ?_⟩))
    simp only [Bool.and_eq_true, Bool.not_eq_true', beq_eq_false_iff_ne, ne_eq, Bool.and_eq_false_iff]
    refine ⟨e, e3, ?_⟩
    by_cases e2 : j + 1 = i
    · exact Or.inr (hk_ok_ne hok hj e2)
    · exact Or.inl e2
def hk_le (a b : List (Option Value)) : Prop := match a, b with
  | [], [] => True
  | none :: a, _ :: b => hk_le a b
  | some v :: a, some w :: b => v = w ∧ hk_le a b
  | _, _ => False
theorem hk_le_len : ∀ {a b : List (Option Value)}, hk_le a b → a.length = b.length ∧ ∀ (i : Nat) (v : Value), a[i]? = some (some v) → b[i]? = some (some v)
  | [], [], _ => ⟨rfl, fun i v h => by simp at h⟩
  | none :: a, x :: b, h => by
    obtain ⟨h1, h2⟩ := hk_le_len (a := a) (b := b) (by unfold hk_le at h; exact h)
    refine ⟨by simp [h1], fun i v hi => ?_⟩
    cases i with
    | zero => simp at hi
    | succ i => simpa using h2 i v (by simpa using hi)
  | some v :: a, some w :: b, h => by
    unfold hk_le at h
    obtain ⟨h1, h2⟩ := hk_le_len (a := a) (b := b) h.2
    refine ⟨by simp [h1], fun i u hi => ?_⟩
    cases i with
    | zero => rw [← h.1]; simpa using hi
    | succ i => simpa using h2 i u (by simpa using hi)
  | some v :: a, none :: b, h => by unfold hk_le at h; exact h.elim
  | none :: a, [], h => by unfold hk_le at h; exact h.elim
  | some v :: a, [], h => by unfold hk_le at h; exact h.elim
  | [], x :: b, h => by unfold hk_le at h; exact h.elim
theorem hk_L.weak {ls : Array Slot} {lv lv' : List (Option Value)} (h : hk_L ls lv) (hle : hk_le lv' lv) : hk_L ls lv' := ⟨h.1.trans (hk_le_len hle).1.symm, h.2.1, fun i v hi => h.2.2 i v ((hk_le_len hle).2 i v hi)⟩
-- a method's locals at its entry
def hk_l0 (As : List Value) : List (Option Value) := match As with
  | [] => []
  | v :: vs => if v.category = 2 then some v :: none :: hk_l0 vs else some v :: hk_l0 vs
theorem hk_l0_in : ∀ (As : List Value) (o i : Nat) (v : Value), (hk_l0 As)[i]? = some (some v) → (o + i, v) ∈ lv_args o As
  | [], o, i, v, h => by simp [hk_l0] at h
  | w :: As, o, i, v, h => by
    unfold hk_l0 at h
    unfold lv_args
    by_cases hc : w.category = 2
    · rw [if_pos hc] at h
      rw [if_pos hc]
      match i, h with
      | 0, h => simp at h; subst h; exact List.mem_cons_self
      | 1, h => simp at h
      | i + 2, h =>
        refine List.mem_cons_of_mem _ ?_
        have := hk_l0_in As (o + 2) i v (by simpa using h)
        rwa [show o + 2 + i = o + (i + 2) by omega] at this
    · rw [if_neg hc] at h
      rw [if_neg hc]
      match i, h with
      | 0, h => simp at h; subst h; exact List.mem_cons_self
      | i + 1, h =>
        refine List.mem_cons_of_mem _ ?_
        have := hk_l0_in As (o + 1) i v (by simpa using h)
        rwa [show o + 1 + i = o + (i + 1) by omega] at this
theorem hk_l0_len : ∀ (As : List Value), (hk_l0 As).length = (lg_sl As).length
  | [] => rfl
  | w :: As => by
    have ih := hk_l0_len As
    unfold hk_l0
    by_cases hc : w.category = 2
    · rw [if_pos hc]
      simp [lg_sl, hc] at ih ⊢
      omega
    · rw [if_neg hc]
      simp [lg_sl, hc] at ih ⊢
      omega
-- the walk
def hk_W (G : hk_G) (l : Launch) (d : Nat) (y : MethodName) (b : ByteArray) (nL : Nat) (ret : Option FieldType) (hh : List (Nat × Nat × Nat × Nat)) (Q : Option Value → hk_H → Prop) (X : String → hk_H → Prop) (k n : Nat) (h : hk_H) (pc : Nat) (lv : List (Option Value)) (st : List Value) : Prop :=
  ∀ (p : Program) (e : Env) (s : State) (m : MethodId) (args : Array Value) (below : List Frame) (meth : Method) (c : Code) (H : Heap) (locs : List Loc) (cells slots mc ms : Nat) (ls : Array Slot),
    hk_C G l y b nL ret hh p s m args meth c → cells + k ≤ mc → slots + n ≤ ms → hk_O G h s H locs → lv.length = nL → hk_L ls lv →
    W p l e (hk_rm d mc ms) s m args below meth c H locs cells slots (vx_MQ below (hk_Qc G Q) (hk_XC G X) args s mc ms (hk_A G)) (F0 m pc ls st)
-- E was thrown here
def hk_WX (G : hk_G) (l : Launch) (d : Nat) (y : MethodName) (b : ByteArray) (nL : Nat) (ret : Option FieldType) (hh : List (Nat × Nat × Nat × Nat)) (Q : Option Value → hk_H → Prop) (X : String → hk_H → Prop) (k n : Nat) (h : hk_H) (pc : Nat) (lv : List (Option Value)) (st : List Value) (E : String) : Prop :=
  ∀ (p : Program) (e : Env) (s : State) (m : MethodId) (args : Array Value) (below : List Frame) (meth : Method) (c : Code) (H : Heap) (locs : List Loc) (cells slots mc ms : Nat) (ls : Array Slot) (q : Addr) (ce : Cell),
    hk_C G l y b nL ret hh p s m args meth c → cells + k ≤ mc → slots + n ≤ ms → hk_O G h s H locs → lv.length = nL → hk_L ls lv → H[q]? = some ce → ce.vm = .none → s.vm.findClass E = some ce.cls →
    vx_W p l e (hk_rm d mc ms) s m args below meth c H locs cells slots (vx_MQ below (hk_Qc G Q) (hk_XC G X) args s mc ms (hk_A G)) (F0 m pc ls st) q
-- its rows
theorem hk_L.st1 {ls' : Array Slot} {lv : List (Option Value)} {i nL : Nat} {v : Value} (h : lv_has ls' nL ((i, v) :: (hk_en lv).filter (fun q => !(q.1 == i) && !(q.1 + 1 == i && q.2.category == 2)))) (hn : lv.length = nL) (hok : hk_ok lv i = true) : hk_L ls' (hk_s lv i (some v)) := by
  rw [hk_s_eq]
  exact hk_L.set1 h hn hok
theorem hk_L.st2 {ls' : Array Slot} {lv : List (Option Value)} {i nL : Nat} {v : Value} (h : lv_has ls' nL ((i, v) :: (hk_en lv).filter (fun q => !(q.1 == i) && (!(q.1 == i + 1) && !(q.1 + 1 == i && q.2.category == 2))))) (hn : lv.length = nL) (hok : hk_ok lv i = true) : hk_L ls' (hk_s (hk_s lv i (some v)) (i + 1) none) := by
  rw [hk_s_eq, hk_s_eq]
  exact hk_L.set2 h hn hok
theorem hk_en_at {lv : List (Option Value)} {i : Nat} {v : Value} (h : hk_g lv i = some v) : ∃ j : Nat, (hk_en lv)[j]? = some (i, v) := by
  obtain ⟨j, hj⟩ := List.getElem?_of_mem (hk_en_in.mpr (hk_g_of h))
  exact ⟨j, hj⟩

section HK
variable {G : hk_G} {l : Launch} {d : Nat} {y : MethodName} {b : ByteArray} {nL : Nat} {ret : Option FieldType} {hh : List (Nat × Nat × Nat × Nat)} {Q : Option Value → hk_H → Prop} {X : String → hk_H → Prop} {k n : Nat} {h : hk_H} {pc pc' : Nat} {lv : List (Option Value)} {st : List Value}
theorem hk_iconst {z : Int} {v : Int32} (hd : decode b pc = .ok (.iconst z, 1)) (hp : pc + 1 = pc') (hv : Int32.ofInt z = v) (kk : hk_W G l d y b nL ret hh Q X k n h pc' lv (.int v :: st)) : hk_W G l d y b nL ret hh Q X k n h pc lv (st) := by
  subst hp
  intro p e s m args below meth c H locs cells slots mc ms ls C hk hn hO hL hl
  exact lv_iconst C.1 C.2.1 hd hv (kk p e s m args below meth c H locs cells slots mc ms ls C hk hn hO hL hl)
theorem hk_bipush {z : Int} {v : Int32} (hd : decode b pc = .ok (.bipush z, 2)) (hp : pc + 2 = pc') (hv : (Int8.ofInt z).toInt32 = v) (kk : hk_W G l d y b nL ret hh Q X k n h pc' lv (.int v :: st)) : hk_W G l d y b nL ret hh Q X k n h pc lv (st) := by
  subst hp
  intro p e s m args below meth c H locs cells slots mc ms ls C hk hn hO hL hl
  exact lv_bipush C.1 C.2.1 hd hv (kk p e s m args below meth c H locs cells slots mc ms ls C hk hn hO hL hl)
theorem hk_sipush {z : Int} {v : Int32} (hd : decode b pc = .ok (.sipush z, 3)) (hp : pc + 3 = pc') (hv : (Int16.ofInt z).toInt32 = v) (kk : hk_W G l d y b nL ret hh Q X k n h pc' lv (.int v :: st)) : hk_W G l d y b nL ret hh Q X k n h pc lv (st) := by
  subst hp
  intro p e s m args below meth c H locs cells slots mc ms ls C hk hn hO hL hl
  exact lv_sipush C.1 C.2.1 hd hv (kk p e s m args below meth c H locs cells slots mc ms ls C hk hn hO hL hl)
theorem hk_lconst {z : Fin 2} {v : Int64} (hd : decode b pc = .ok (.lconst z, 1)) (hp : pc + 1 = pc') (hv : Int64.ofNat (z : Nat) = v) (kk : hk_W G l d y b nL ret hh Q X k n h pc' lv (.long v :: st)) : hk_W G l d y b nL ret hh Q X k n h pc lv (st) := by
  subst hp
  intro p e s m args below meth c H locs cells slots mc ms ls C hk hn hO hL hl
  exact lv_lconst C.1 C.2.1 hd hv (kk p e s m args below meth c H locs cells slots mc ms ls C hk hn hO hL hl)
theorem hk_fconst0 (hd : decode b pc = .ok (.fconst 0, 1)) (hp : pc + 1 = pc') (kk : hk_W G l d y b nL ret hh Q X k n h pc' lv (.float FP.fconst0 :: st)) : hk_W G l d y b nL ret hh Q X k n h pc lv (st) := by
  subst hp
  intro p e s m args below meth c H locs cells slots mc ms ls C hk hn hO hL hl
  exact lv_fconst0 C.1 C.2.1 hd (kk p e s m args below meth c H locs cells slots mc ms ls C hk hn hO hL hl)
theorem hk_dconst0 (hd : decode b pc = .ok (.dconst 0, 1)) (hp : pc + 1 = pc') (kk : hk_W G l d y b nL ret hh Q X k n h pc' lv (.double FP.dconst0 :: st)) : hk_W G l d y b nL ret hh Q X k n h pc lv (st) := by
  subst hp
  intro p e s m args below meth c H locs cells slots mc ms ls C hk hn hO hL hl
  exact lv_dconst0 C.1 C.2.1 hd (kk p e s m args below meth c H locs cells slots mc ms ls C hk hn hO hL hl)
theorem hk_null (hd : decode b pc = .ok (.aconst_null, 1)) (hp : pc + 1 = pc') (kk : hk_W G l d y b nL ret hh Q X k n h pc' lv (.null :: st)) : hk_W G l d y b nL ret hh Q X k n h pc lv (st) := by
  subst hp
  intro p e s m args below meth c H locs cells slots mc ms ls C hk hn hO hL hl
  exact lv_null C.1 C.2.1 hd (kk p e s m args below meth c H locs cells slots mc ms ls C hk hn hO hL hl)
theorem hk_iload_n {z : Fin 4} {i : Nat} {x : Int32} (hd : decode b pc = .ok (.iload_n z, 1)) (hp : pc + 1 = pc') (hi : (z : Nat) = i) (hv : hk_g lv i = some (.int x)) (kk : hk_W G l d y b nL ret hh Q X k n h pc' lv (.int x :: st)) : hk_W G l d y b nL ret hh Q X k n h pc lv (st) := by
  subst hp
  intro p e s m args below meth c H locs cells slots mc ms ls C hk hn hO hL hl
  exact lv_iload_n C.1 C.2.1 hd hi (hl.get (hk_g_of hv)) (kk p e s m args below meth c H locs cells slots mc ms ls C hk hn hO hL hl)
theorem hk_iload {i : Nat} {x : Int32} (hd : decode b pc = .ok (.iload i, 2)) (hp : pc + 2 = pc') (hv : hk_g lv i = some (.int x)) (kk : hk_W G l d y b nL ret hh Q X k n h pc' lv (.int x :: st)) : hk_W G l d y b nL ret hh Q X k n h pc lv (st) := by
  subst hp
  intro p e s m args below meth c H locs cells slots mc ms ls C hk hn hO hL hl
  exact lv_iload C.1 C.2.1 hd (hl.get (hk_g_of hv)) (kk p e s m args below meth c H locs cells slots mc ms ls C hk hn hO hL hl)
theorem hk_lload_n {z : Fin 4} {i : Nat} {x : Int64} (hd : decode b pc = .ok (.lload_n z, 1)) (hp : pc + 1 = pc') (hi : (z : Nat) = i) (hv : hk_g lv i = some (.long x)) (kk : hk_W G l d y b nL ret hh Q X k n h pc' lv (.long x :: st)) : hk_W G l d y b nL ret hh Q X k n h pc lv (st) := by
  subst hp
  intro p e s m args below meth c H locs cells slots mc ms ls C hk hn hO hL hl
  exact lv_lload_n C.1 C.2.1 hd hi (hl.get (hk_g_of hv)) (kk p e s m args below meth c H locs cells slots mc ms ls C hk hn hO hL hl)
theorem hk_lload {i : Nat} {x : Int64} (hd : decode b pc = .ok (.lload i, 2)) (hp : pc + 2 = pc') (hv : hk_g lv i = some (.long x)) (kk : hk_W G l d y b nL ret hh Q X k n h pc' lv (.long x :: st)) : hk_W G l d y b nL ret hh Q X k n h pc lv (st) := by
  subst hp
  intro p e s m args below meth c H locs cells slots mc ms ls C hk hn hO hL hl
  exact lv_lload C.1 C.2.1 hd (hl.get (hk_g_of hv)) (kk p e s m args below meth c H locs cells slots mc ms ls C hk hn hO hL hl)
theorem hk_fload_n {z : Fin 4} {i : Nat} {x : UInt32} (hd : decode b pc = .ok (.fload_n z, 1)) (hp : pc + 1 = pc') (hi : (z : Nat) = i) (hv : hk_g lv i = some (.float x)) (kk : hk_W G l d y b nL ret hh Q X k n h pc' lv (.float x :: st)) : hk_W G l d y b nL ret hh Q X k n h pc lv (st) := by
  subst hp
  intro p e s m args below meth c H locs cells slots mc ms ls C hk hn hO hL hl
  exact lv_fload_n C.1 C.2.1 hd hi (hl.get (hk_g_of hv)) (kk p e s m args below meth c H locs cells slots mc ms ls C hk hn hO hL hl)
theorem hk_fload {i : Nat} {x : UInt32} (hd : decode b pc = .ok (.fload i, 2)) (hp : pc + 2 = pc') (hv : hk_g lv i = some (.float x)) (kk : hk_W G l d y b nL ret hh Q X k n h pc' lv (.float x :: st)) : hk_W G l d y b nL ret hh Q X k n h pc lv (st) := by
  subst hp
  intro p e s m args below meth c H locs cells slots mc ms ls C hk hn hO hL hl
  exact lv_fload C.1 C.2.1 hd (hl.get (hk_g_of hv)) (kk p e s m args below meth c H locs cells slots mc ms ls C hk hn hO hL hl)
theorem hk_dload_n {z : Fin 4} {i : Nat} {x : UInt64} (hd : decode b pc = .ok (.dload_n z, 1)) (hp : pc + 1 = pc') (hi : (z : Nat) = i) (hv : hk_g lv i = some (.double x)) (kk : hk_W G l d y b nL ret hh Q X k n h pc' lv (.double x :: st)) : hk_W G l d y b nL ret hh Q X k n h pc lv (st) := by
  subst hp
  intro p e s m args below meth c H locs cells slots mc ms ls C hk hn hO hL hl
  exact lv_dload_n C.1 C.2.1 hd hi (hl.get (hk_g_of hv)) (kk p e s m args below meth c H locs cells slots mc ms ls C hk hn hO hL hl)
theorem hk_dload {i : Nat} {x : UInt64} (hd : decode b pc = .ok (.dload i, 2)) (hp : pc + 2 = pc') (hv : hk_g lv i = some (.double x)) (kk : hk_W G l d y b nL ret hh Q X k n h pc' lv (.double x :: st)) : hk_W G l d y b nL ret hh Q X k n h pc lv (st) := by
  subst hp
  intro p e s m args below meth c H locs cells slots mc ms ls C hk hn hO hL hl
  exact lv_dload C.1 C.2.1 hd (hl.get (hk_g_of hv)) (kk p e s m args below meth c H locs cells slots mc ms ls C hk hn hO hL hl)
theorem hk_aload_n {z : Fin 4} {i : Nat} {x : Nat} (hd : decode b pc = .ok (.aload_n z, 1)) (hp : pc + 1 = pc') (hi : (z : Nat) = i) (hv : hk_g lv i = some (.ref x)) (kk : hk_W G l d y b nL ret hh Q X k n h pc' lv (.ref x :: st)) : hk_W G l d y b nL ret hh Q X k n h pc lv (st) := by
  subst hp
  intro p e s m args below meth c H locs cells slots mc ms ls C hk hn hO hL hl
  exact lv_aload_n C.1 C.2.1 hd hi (hl.get (hk_g_of hv)) (kk p e s m args below meth c H locs cells slots mc ms ls C hk hn hO hL hl)
theorem hk_aload {i : Nat} {x : Nat} (hd : decode b pc = .ok (.aload i, 2)) (hp : pc + 2 = pc') (hv : hk_g lv i = some (.ref x)) (kk : hk_W G l d y b nL ret hh Q X k n h pc' lv (.ref x :: st)) : hk_W G l d y b nL ret hh Q X k n h pc lv (st) := by
  subst hp
  intro p e s m args below meth c H locs cells slots mc ms ls C hk hn hO hL hl
  exact lv_aload C.1 C.2.1 hd (hl.get (hk_g_of hv)) (kk p e s m args below meth c H locs cells slots mc ms ls C hk hn hO hL hl)
theorem hk_aload_nN {z : Fin 4} {i : Nat} (hd : decode b pc = .ok (.aload_n z, 1)) (hp : pc + 1 = pc') (hi : (z : Nat) = i) (hv : hk_g lv i = some .null) (kk : hk_W G l d y b nL ret hh Q X k n h pc' lv (.null :: st)) : hk_W G l d y b nL ret hh Q X k n h pc lv (st) := by
  subst hp
  intro p e s m args below meth c H locs cells slots mc ms ls C hk hn hO hL hl
  exact lv_aload_nN C.1 C.2.1 hd hi (hl.get (hk_g_of hv)) (kk p e s m args below meth c H locs cells slots mc ms ls C hk hn hO hL hl)
theorem hk_aloadN {i : Nat} (hd : decode b pc = .ok (.aload i, 2)) (hp : pc + 2 = pc') (hv : hk_g lv i = some .null) (kk : hk_W G l d y b nL ret hh Q X k n h pc' lv (.null :: st)) : hk_W G l d y b nL ret hh Q X k n h pc lv (st) := by
  subst hp
  intro p e s m args below meth c H locs cells slots mc ms ls C hk hn hO hL hl
  exact lv_aloadN C.1 C.2.1 hd (hl.get (hk_g_of hv)) (kk p e s m args below meth c H locs cells slots mc ms ls C hk hn hO hL hl)
theorem hk_istore_n {z : Fin 4} {i : Nat} {x : Int32} (hd : decode b pc = .ok (.istore_n z, 1)) (hp : pc + 1 = pc') (hi : (z : Nat) = i) (hb : i < nL) (hok : hk_ok lv i = true) (kk : hk_W G l d y b nL ret hh Q X k n h pc' (hk_s lv i (some (.int x))) st) : hk_W G l d y b nL ret hh Q X k n h pc lv (.int x :: st) := by
  subst hp
  intro p e s m args below meth c H locs cells slots mc ms ls C hk hn hO hL hl
  exact lv_istore_n C.1 C.2.1 hd hi (hl.has hL) hb rfl (fun ls' h' => kk p e s m args below meth c H locs cells slots mc ms ls' C hk hn hO (by rw [hk_s_len]; exact hL) (hk_L.st1 h' hL hok))
theorem hk_istore {i : Nat} {x : Int32} (hd : decode b pc = .ok (.istore i, 2)) (hp : pc + 2 = pc') (hb : i < nL) (hok : hk_ok lv i = true) (kk : hk_W G l d y b nL ret hh Q X k n h pc' (hk_s lv i (some (.int x))) st) : hk_W G l d y b nL ret hh Q X k n h pc lv (.int x :: st) := by
  subst hp
  intro p e s m args below meth c H locs cells slots mc ms ls C hk hn hO hL hl
  exact lv_istore C.1 C.2.1 hd (hl.has hL) hb rfl (fun ls' h' => kk p e s m args below meth c H locs cells slots mc ms ls' C hk hn hO (by rw [hk_s_len]; exact hL) (hk_L.st1 h' hL hok))
theorem hk_lstore_n {z : Fin 4} {i : Nat} {x : Int64} (hd : decode b pc = .ok (.lstore_n z, 1)) (hp : pc + 1 = pc') (hi : (z : Nat) = i) (hb : i + 1 < nL) (hok : hk_ok lv i = true) (kk : hk_W G l d y b nL ret hh Q X k n h pc' (hk_s (hk_s lv i (some (.long x))) (i + 1) none) st) : hk_W G l d y b nL ret hh Q X k n h pc lv (.long x :: st) := by
  subst hp
  intro p e s m args below meth c H locs cells slots mc ms ls C hk hn hO hL hl
  exact lv_lstore_n C.1 C.2.1 hd hi (hl.has hL) hb rfl (fun ls' h' => kk p e s m args below meth c H locs cells slots mc ms ls' C hk hn hO (by rw [hk_s_len, hk_s_len]; exact hL) (hk_L.st2 h' hL hok))
theorem hk_lstore {i : Nat} {x : Int64} (hd : decode b pc = .ok (.lstore i, 2)) (hp : pc + 2 = pc') (hb : i + 1 < nL) (hok : hk_ok lv i = true) (kk : hk_W G l d y b nL ret hh Q X k n h pc' (hk_s (hk_s lv i (some (.long x))) (i + 1) none) st) : hk_W G l d y b nL ret hh Q X k n h pc lv (.long x :: st) := by
  subst hp
  intro p e s m args below meth c H locs cells slots mc ms ls C hk hn hO hL hl
  exact lv_lstore C.1 C.2.1 hd (hl.has hL) hb rfl (fun ls' h' => kk p e s m args below meth c H locs cells slots mc ms ls' C hk hn hO (by rw [hk_s_len, hk_s_len]; exact hL) (hk_L.st2 h' hL hok))
theorem hk_fstore_n {z : Fin 4} {i : Nat} {x : UInt32} (hd : decode b pc = .ok (.fstore_n z, 1)) (hp : pc + 1 = pc') (hi : (z : Nat) = i) (hb : i < nL) (hok : hk_ok lv i = true) (kk : hk_W G l d y b nL ret hh Q X k n h pc' (hk_s lv i (some (.float x))) st) : hk_W G l d y b nL ret hh Q X k n h pc lv (.float x :: st) := by
  subst hp
  intro p e s m args below meth c H locs cells slots mc ms ls C hk hn hO hL hl
  exact lv_fstore_n C.1 C.2.1 hd hi (hl.has hL) hb rfl (fun ls' h' => kk p e s m args below meth c H locs cells slots mc ms ls' C hk hn hO (by rw [hk_s_len]; exact hL) (hk_L.st1 h' hL hok))
theorem hk_fstore {i : Nat} {x : UInt32} (hd : decode b pc = .ok (.fstore i, 2)) (hp : pc + 2 = pc') (hb : i < nL) (hok : hk_ok lv i = true) (kk : hk_W G l d y b nL ret hh Q X k n h pc' (hk_s lv i (some (.float x))) st) : hk_W G l d y b nL ret hh Q X k n h pc lv (.float x :: st) := by
  subst hp
  intro p e s m args below meth c H locs cells slots mc ms ls C hk hn hO hL hl
  exact lv_fstore C.1 C.2.1 hd (hl.has hL) hb rfl (fun ls' h' => kk p e s m args below meth c H locs cells slots mc ms ls' C hk hn hO (by rw [hk_s_len]; exact hL) (hk_L.st1 h' hL hok))
theorem hk_dstore_n {z : Fin 4} {i : Nat} {x : UInt64} (hd : decode b pc = .ok (.dstore_n z, 1)) (hp : pc + 1 = pc') (hi : (z : Nat) = i) (hb : i + 1 < nL) (hok : hk_ok lv i = true) (kk : hk_W G l d y b nL ret hh Q X k n h pc' (hk_s (hk_s lv i (some (.double x))) (i + 1) none) st) : hk_W G l d y b nL ret hh Q X k n h pc lv (.double x :: st) := by
  subst hp
  intro p e s m args below meth c H locs cells slots mc ms ls C hk hn hO hL hl
  exact lv_dstore_n C.1 C.2.1 hd hi (hl.has hL) hb rfl (fun ls' h' => kk p e s m args below meth c H locs cells slots mc ms ls' C hk hn hO (by rw [hk_s_len, hk_s_len]; exact hL) (hk_L.st2 h' hL hok))
theorem hk_dstore {i : Nat} {x : UInt64} (hd : decode b pc = .ok (.dstore i, 2)) (hp : pc + 2 = pc') (hb : i + 1 < nL) (hok : hk_ok lv i = true) (kk : hk_W G l d y b nL ret hh Q X k n h pc' (hk_s (hk_s lv i (some (.double x))) (i + 1) none) st) : hk_W G l d y b nL ret hh Q X k n h pc lv (.double x :: st) := by
  subst hp
  intro p e s m args below meth c H locs cells slots mc ms ls C hk hn hO hL hl
  exact lv_dstore C.1 C.2.1 hd (hl.has hL) hb rfl (fun ls' h' => kk p e s m args below meth c H locs cells slots mc ms ls' C hk hn hO (by rw [hk_s_len, hk_s_len]; exact hL) (hk_L.st2 h' hL hok))
theorem hk_astore_n {z : Fin 4} {i : Nat} {x : Nat} (hd : decode b pc = .ok (.astore_n z, 1)) (hp : pc + 1 = pc') (hi : (z : Nat) = i) (hb : i < nL) (hok : hk_ok lv i = true) (kk : hk_W G l d y b nL ret hh Q X k n h pc' (hk_s lv i (some (.ref x))) st) : hk_W G l d y b nL ret hh Q X k n h pc lv (.ref x :: st) := by
  subst hp
  intro p e s m args below meth c H locs cells slots mc ms ls C hk hn hO hL hl
  exact lv_astore_n C.1 C.2.1 hd hi (hl.has hL) hb rfl (fun ls' h' => kk p e s m args below meth c H locs cells slots mc ms ls' C hk hn hO (by rw [hk_s_len]; exact hL) (hk_L.st1 h' hL hok))
theorem hk_astore {i : Nat} {x : Nat} (hd : decode b pc = .ok (.astore i, 2)) (hp : pc + 2 = pc') (hb : i < nL) (hok : hk_ok lv i = true) (kk : hk_W G l d y b nL ret hh Q X k n h pc' (hk_s lv i (some (.ref x))) st) : hk_W G l d y b nL ret hh Q X k n h pc lv (.ref x :: st) := by
  subst hp
  intro p e s m args below meth c H locs cells slots mc ms ls C hk hn hO hL hl
  exact lv_astore C.1 C.2.1 hd (hl.has hL) hb rfl (fun ls' h' => kk p e s m args below meth c H locs cells slots mc ms ls' C hk hn hO (by rw [hk_s_len]; exact hL) (hk_L.st1 h' hL hok))
theorem hk_astore_nN {z : Fin 4} {i : Nat} (hd : decode b pc = .ok (.astore_n z, 1)) (hp : pc + 1 = pc') (hi : (z : Nat) = i) (hb : i < nL) (hok : hk_ok lv i = true) (kk : hk_W G l d y b nL ret hh Q X k n h pc' (hk_s lv i (some (.null))) st) : hk_W G l d y b nL ret hh Q X k n h pc lv (.null :: st) := by
  subst hp
  intro p e s m args below meth c H locs cells slots mc ms ls C hk hn hO hL hl
  exact lv_astore_nN C.1 C.2.1 hd hi (hl.has hL) hb rfl (fun ls' h' => kk p e s m args below meth c H locs cells slots mc ms ls' C hk hn hO (by rw [hk_s_len]; exact hL) (hk_L.st1 h' hL hok))
theorem hk_astoreN {i : Nat} (hd : decode b pc = .ok (.astore i, 2)) (hp : pc + 2 = pc') (hb : i < nL) (hok : hk_ok lv i = true) (kk : hk_W G l d y b nL ret hh Q X k n h pc' (hk_s lv i (some (.null))) st) : hk_W G l d y b nL ret hh Q X k n h pc lv (.null :: st) := by
  subst hp
  intro p e s m args below meth c H locs cells slots mc ms ls C hk hn hO hL hl
  exact lv_astoreN C.1 C.2.1 hd (hl.has hL) hb rfl (fun ls' h' => kk p e s m args below meth c H locs cells slots mc ms ls' C hk hn hO (by rw [hk_s_len]; exact hL) (hk_L.st1 h' hL hok))
theorem hk_iinc {i : Nat} {z : Int} {x v : Int32} (hd : decode b pc = .ok (.iinc i z, 3)) (hp : pc + 3 = pc') (hg : hk_g lv i = some (.int x)) (hv : x + Int32.ofInt z = v) (hb : i < nL) (hok : hk_ok lv i = true) (kk : hk_W G l d y b nL ret hh Q X k n h pc' (hk_s lv i (some (.int v))) st) : hk_W G l d y b nL ret hh Q X k n h pc lv st := by
  subst hp
  intro p e s m args below meth c H locs cells slots mc ms ls C hk hn hO hL hl
  obtain ⟨j, hj⟩ := hk_en_at hg
  exact lv_iinc C.1 C.2.1 hd (hl.has hL) hj hv hb rfl (fun ls' h' => kk p e s m args below meth c H locs cells slots mc ms ls' C hk hn hO (by rw [hk_s_len]; exact hL) (hk_L.st1 h' hL hok))
theorem hk_iadd {x z : Int32} (hd : decode b pc = .ok (.iadd, 1)) (hp : pc + 1 = pc') (kk : hk_W G l d y b nL ret hh Q X k n h pc' lv (.int (x + z) :: st)) : hk_W G l d y b nL ret hh Q X k n h pc lv (.int z :: .int x :: st) := by
  subst hp
  intro p e s m args below meth c H locs cells slots mc ms ls C hk hn hO hL hl
  exact lv_iadd C.1 C.2.1 hd (kk p e s m args below meth c H locs cells slots mc ms ls C hk hn hO hL hl)
theorem hk_isub {x z : Int32} (hd : decode b pc = .ok (.isub, 1)) (hp : pc + 1 = pc') (kk : hk_W G l d y b nL ret hh Q X k n h pc' lv (.int (x - z) :: st)) : hk_W G l d y b nL ret hh Q X k n h pc lv (.int z :: .int x :: st) := by
  subst hp
  intro p e s m args below meth c H locs cells slots mc ms ls C hk hn hO hL hl
  exact lv_isub C.1 C.2.1 hd (kk p e s m args below meth c H locs cells slots mc ms ls C hk hn hO hL hl)
theorem hk_imul {x z : Int32} (hd : decode b pc = .ok (.imul, 1)) (hp : pc + 1 = pc') (kk : hk_W G l d y b nL ret hh Q X k n h pc' lv (.int (x * z) :: st)) : hk_W G l d y b nL ret hh Q X k n h pc lv (.int z :: .int x :: st) := by
  subst hp
  intro p e s m args below meth c H locs cells slots mc ms ls C hk hn hO hL hl
  exact lv_imul C.1 C.2.1 hd (kk p e s m args below meth c H locs cells slots mc ms ls C hk hn hO hL hl)
theorem hk_iand {x z : Int32} (hd : decode b pc = .ok (.iand, 1)) (hp : pc + 1 = pc') (kk : hk_W G l d y b nL ret hh Q X k n h pc' lv (.int (x &&& z) :: st)) : hk_W G l d y b nL ret hh Q X k n h pc lv (.int z :: .int x :: st) := by
  subst hp
  intro p e s m args below meth c H locs cells slots mc ms ls C hk hn hO hL hl
  exact lv_iand C.1 C.2.1 hd (kk p e s m args below meth c H locs cells slots mc ms ls C hk hn hO hL hl)
theorem hk_ior {x z : Int32} (hd : decode b pc = .ok (.ior, 1)) (hp : pc + 1 = pc') (kk : hk_W G l d y b nL ret hh Q X k n h pc' lv (.int (x ||| z) :: st)) : hk_W G l d y b nL ret hh Q X k n h pc lv (.int z :: .int x :: st) := by
  subst hp
  intro p e s m args below meth c H locs cells slots mc ms ls C hk hn hO hL hl
  exact lv_ior C.1 C.2.1 hd (kk p e s m args below meth c H locs cells slots mc ms ls C hk hn hO hL hl)
theorem hk_ineg {x : Int32} (hd : decode b pc = .ok (.ineg, 1)) (hp : pc + 1 = pc') (kk : hk_W G l d y b nL ret hh Q X k n h pc' lv (.int (-x) :: st)) : hk_W G l d y b nL ret hh Q X k n h pc lv (.int x :: st) := by
  subst hp
  intro p e s m args below meth c H locs cells slots mc ms ls C hk hn hO hL hl
  exact lv_ineg C.1 C.2.1 hd (kk p e s m args below meth c H locs cells slots mc ms ls C hk hn hO hL hl)
theorem hk_idiv {x z : Int32} (hd : decode b pc = .ok (.idiv, 1)) (hp : pc + 1 = pc') (hne : ¬ z = 0) (kk : hk_W G l d y b nL ret hh Q X k n h pc' lv (.int (x / z) :: st)) : hk_W G l d y b nL ret hh Q X k n h pc lv (.int z :: .int x :: st) := by
  subst hp
  intro p e s m args below meth c H locs cells slots mc ms ls C hk hn hO hL hl
  exact lv_idiv C.1 C.2.1 hd hne (kk p e s m args below meth c H locs cells slots mc ms ls C hk hn hO hL hl)
theorem hk_irem {x z : Int32} (hd : decode b pc = .ok (.irem, 1)) (hp : pc + 1 = pc') (hne : ¬ z = 0) (kk : hk_W G l d y b nL ret hh Q X k n h pc' lv (.int (x - x / z * z) :: st)) : hk_W G l d y b nL ret hh Q X k n h pc lv (.int z :: .int x :: st) := by
  subst hp
  intro p e s m args below meth c H locs cells slots mc ms ls C hk hn hO hL hl
  exact lv_irem C.1 C.2.1 hd hne (kk p e s m args below meth c H locs cells slots mc ms ls C hk hn hO hL hl)
theorem hk_ladd {x z : Int64} (hd : decode b pc = .ok (.ladd, 1)) (hp : pc + 1 = pc') (kk : hk_W G l d y b nL ret hh Q X k n h pc' lv (.long (x + z) :: st)) : hk_W G l d y b nL ret hh Q X k n h pc lv (.long z :: .long x :: st) := by
  subst hp
  intro p e s m args below meth c H locs cells slots mc ms ls C hk hn hO hL hl
  exact lv_ladd C.1 C.2.1 hd (kk p e s m args below meth c H locs cells slots mc ms ls C hk hn hO hL hl)
theorem hk_lsub {x z : Int64} (hd : decode b pc = .ok (.lsub, 1)) (hp : pc + 1 = pc') (kk : hk_W G l d y b nL ret hh Q X k n h pc' lv (.long (x - z) :: st)) : hk_W G l d y b nL ret hh Q X k n h pc lv (.long z :: .long x :: st) := by
  subst hp
  intro p e s m args below meth c H locs cells slots mc ms ls C hk hn hO hL hl
  exact lv_lsub C.1 C.2.1 hd (kk p e s m args below meth c H locs cells slots mc ms ls C hk hn hO hL hl)
theorem hk_lmul {x z : Int64} (hd : decode b pc = .ok (.lmul, 1)) (hp : pc + 1 = pc') (kk : hk_W G l d y b nL ret hh Q X k n h pc' lv (.long (x * z) :: st)) : hk_W G l d y b nL ret hh Q X k n h pc lv (.long z :: .long x :: st) := by
  subst hp
  intro p e s m args below meth c H locs cells slots mc ms ls C hk hn hO hL hl
  exact lv_lmul C.1 C.2.1 hd (kk p e s m args below meth c H locs cells slots mc ms ls C hk hn hO hL hl)
theorem hk_lcmp {x z : Int64} (hd : decode b pc = .ok (.lcmp, 1)) (hp : pc + 1 = pc') (kk : hk_W G l d y b nL ret hh Q X k n h pc' lv (.int (lg_cmp x z) :: st)) : hk_W G l d y b nL ret hh Q X k n h pc lv (.long z :: .long x :: st) := by
  subst hp
  intro p e s m args below meth c H locs cells slots mc ms ls C hk hn hO hL hl
  exact W.lcmp C.1 C.2.1 hd (kk p e s m args below meth c H locs cells slots mc ms ls C hk hn hO hL hl)
theorem hk_i2l {x : Int32} (hd : decode b pc = .ok (.i2l, 1)) (hp : pc + 1 = pc') (kk : hk_W G l d y b nL ret hh Q X k n h pc' lv (.long x.toInt64 :: st)) : hk_W G l d y b nL ret hh Q X k n h pc lv (.int x :: st) := by
  subst hp
  intro p e s m args below meth c H locs cells slots mc ms ls C hk hn hO hL hl
  exact lv_i2l C.1 C.2.1 hd rfl (kk p e s m args below meth c H locs cells slots mc ms ls C hk hn hO hL hl)
theorem hk_i2c {x v : Int32} (hd : decode b pc = .ok (.i2c, 1)) (hp : pc + 1 = pc') (hv : (x.toUInt32 % 65536).toInt32 = v) (kk : hk_W G l d y b nL ret hh Q X k n h pc' lv (.int v :: st)) : hk_W G l d y b nL ret hh Q X k n h pc lv (.int x :: st) := by
  subst hp
  intro p e s m args below meth c H locs cells slots mc ms ls C hk hn hO hL hl
  exact lv_i2c C.1 C.2.1 hd hv (kk p e s m args below meth c H locs cells slots mc ms ls C hk hn hO hL hl)
theorem hk_i2f {x : Int32} (hd : decode b pc = .ok (.i2f, 1)) (hp : pc + 1 = pc') (kk : hk_W G l d y b nL ret hh Q X k n h pc' lv (.float (FP.i2f x) :: st)) : hk_W G l d y b nL ret hh Q X k n h pc lv (.int x :: st) := by
  subst hp
  intro p e s m args below meth c H locs cells slots mc ms ls C hk hn hO hL hl
  exact lv_i2f C.1 C.2.1 hd (kk p e s m args below meth c H locs cells slots mc ms ls C hk hn hO hL hl)
theorem hk_i2d {x : Int32} (hd : decode b pc = .ok (.i2d, 1)) (hp : pc + 1 = pc') (kk : hk_W G l d y b nL ret hh Q X k n h pc' lv (.double (FP.i2d x) :: st)) : hk_W G l d y b nL ret hh Q X k n h pc lv (.int x :: st) := by
  subst hp
  intro p e s m args below meth c H locs cells slots mc ms ls C hk hn hO hL hl
  exact lv_i2d C.1 C.2.1 hd (kk p e s m args below meth c H locs cells slots mc ms ls C hk hn hO hL hl)
theorem hk_fdiv {x z : UInt32} (hd : decode b pc = .ok (.fdiv, 1)) (hp : pc + 1 = pc') (hne : vf_n32 (FP.fdiv x z)) (kk : hk_W G l d y b nL ret hh Q X k n h pc' lv (.float (FP.fdiv x z) :: st)) : hk_W G l d y b nL ret hh Q X k n h pc lv (.float z :: .float x :: st) := by
  subst hp
  intro p e s m args below meth c H locs cells slots mc ms ls C hk hn hO hL hl
  exact lv_fdiv C.1 C.2.1 hd hne (kk p e s m args below meth c H locs cells slots mc ms ls C hk hn hO hL hl)
theorem hk_ddiv {x z : UInt64} (hd : decode b pc = .ok (.ddiv, 1)) (hp : pc + 1 = pc') (hne : vf_n64 (FP.ddiv x z)) (kk : hk_W G l d y b nL ret hh Q X k n h pc' lv (.double (FP.ddiv x z) :: st)) : hk_W G l d y b nL ret hh Q X k n h pc lv (.double z :: .double x :: st) := by
  subst hp
  intro p e s m args below meth c H locs cells slots mc ms ls C hk hn hO hL hl
  exact lv_ddiv C.1 C.2.1 hd hne (kk p e s m args below meth c H locs cells slots mc ms ls C hk hn hO hL hl)
theorem hk_f2d {x : UInt32} (hd : decode b pc = .ok (.f2d, 1)) (hp : pc + 1 = pc') (hne : vf_n64 (FP.f2d x)) (kk : hk_W G l d y b nL ret hh Q X k n h pc' lv (.double (FP.f2d x) :: st)) : hk_W G l d y b nL ret hh Q X k n h pc lv (.float x :: st) := by
  subst hp
  intro p e s m args below meth c H locs cells slots mc ms ls C hk hn hO hL hl
  exact lv_f2d C.1 C.2.1 hd hne (kk p e s m args below meth c H locs cells slots mc ms ls C hk hn hO hL hl)
theorem hk_fcmp {x z : UInt32} {op : CmpOp} (hd : decode b pc = .ok (.fcmp op, 1)) (hp : pc + 1 = pc') (kk : hk_W G l d y b nL ret hh Q X k n h pc' lv (.int (Op.cmpValue (FP.fcmp x z) op) :: st)) : hk_W G l d y b nL ret hh Q X k n h pc lv (.float z :: .float x :: st) := by
  subst hp
  intro p e s m args below meth c H locs cells slots mc ms ls C hk hn hO hL hl
  exact lv_fcmp C.1 C.2.1 hd (kk p e s m args below meth c H locs cells slots mc ms ls C hk hn hO hL hl)
theorem hk_dcmp {x z : UInt64} {op : CmpOp} (hd : decode b pc = .ok (.dcmp op, 1)) (hp : pc + 1 = pc') (kk : hk_W G l d y b nL ret hh Q X k n h pc' lv (.int (Op.cmpValue (FP.dcmp x z) op) :: st)) : hk_W G l d y b nL ret hh Q X k n h pc lv (.double z :: .double x :: st) := by
  subst hp
  intro p e s m args below meth c H locs cells slots mc ms ls C hk hn hO hL hl
  exact lv_dcmp C.1 C.2.1 hd (kk p e s m args below meth c H locs cells slots mc ms ls C hk hn hO hL hl)
theorem hk_dup {v : Value} (hd : decode b pc = .ok (.dup, 1)) (hp : pc + 1 = pc') (hv : v.category = 1) (kk : hk_W G l d y b nL ret hh Q X k n h pc' lv (v :: v :: st)) : hk_W G l d y b nL ret hh Q X k n h pc lv (v :: st) := by
  subst hp
  intro p e s m args below meth c H locs cells slots mc ms ls C hk hn hO hL hl
  exact lv_dup C.1 C.2.1 hd hv (kk p e s m args below meth c H locs cells slots mc ms ls C hk hn hO hL hl)
theorem hk_pop {v : Value} (hd : decode b pc = .ok (.pop, 1)) (hp : pc + 1 = pc') (hv : v.category = 1) (kk : hk_W G l d y b nL ret hh Q X k n h pc' lv (st)) : hk_W G l d y b nL ret hh Q X k n h pc lv (v :: st) := by
  subst hp
  intro p e s m args below meth c H locs cells slots mc ms ls C hk hn hO hL hl
  exact lv_pop C.1 C.2.1 hd hv (kk p e s m args below meth c H locs cells slots mc ms ls C hk hn hO hL hl)
theorem hk_dup2 {v u : Value} (hd : decode b pc = .ok (.dup2, 1)) (hp : pc + 1 = pc') (hv : v.category = 1) (hu : u.category = 1) (kk : hk_W G l d y b nL ret hh Q X k n h pc' lv (v :: u :: v :: u :: st)) : hk_W G l d y b nL ret hh Q X k n h pc lv (v :: u :: st) := by
  subst hp
  intro p e s m args below meth c H locs cells slots mc ms ls C hk hn hO hL hl
  exact lv_dup2_11 C.1 C.2.1 hd hv hu (kk p e s m args below meth c H locs cells slots mc ms ls C hk hn hO hL hl)
theorem hk_dup2L {v : Value} (hd : decode b pc = .ok (.dup2, 1)) (hp : pc + 1 = pc') (hv : v.category = 2) (kk : hk_W G l d y b nL ret hh Q X k n h pc' lv (v :: v :: st)) : hk_W G l d y b nL ret hh Q X k n h pc lv (v :: st) := by
  subst hp
  intro p e s m args below meth c H locs cells slots mc ms ls C hk hn hO hL hl
  exact lv_dup2_2 C.1 C.2.1 hd hv (kk p e s m args below meth c H locs cells slots mc ms ls C hk hn hO hL hl)
theorem hk_dup_x1 {v u : Value} (hd : decode b pc = .ok (.dup_x1, 1)) (hp : pc + 1 = pc') (hv : v.category = 1) (hu : u.category = 1) (kk : hk_W G l d y b nL ret hh Q X k n h pc' lv (v :: u :: v :: st)) : hk_W G l d y b nL ret hh Q X k n h pc lv (v :: u :: st) := by
  subst hp
  intro p e s m args below meth c H locs cells slots mc ms ls C hk hn hO hL hl
  exact lv_dup_x1 C.1 C.2.1 hd hv hu (kk p e s m args below meth c H locs cells slots mc ms ls C hk hn hO hL hl)
theorem hk_if_eq {x : Int32} {off : Int} {tgt : Nat} (hd : decode b pc = .ok (.ifCond .eq off, 3)) (ht : (pc : Int) + off = (tgt : Int)) (hp : pc + 3 = pc') (kt : x = 0 → hk_W G l d y b nL ret hh Q X k n h tgt lv st) (kf : ¬ x = 0 → hk_W G l d y b nL ret hh Q X k n h pc' lv st) : hk_W G l d y b nL ret hh Q X k n h pc lv (.int x :: st) := by
  subst hp
  intro p e s m args below meth c H locs cells slots mc ms ls C hk hn hO hL hl
  exact lv_if_eq C.1 C.2.1 hd ht (fun z => kt z p e s m args below meth c H locs cells slots mc ms ls C hk hn hO hL hl) (fun z => kf z p e s m args below meth c H locs cells slots mc ms ls C hk hn hO hL hl)
theorem hk_icmp_eq {x z : Int32} {off : Int} {tgt : Nat} (hd : decode b pc = .ok (.if_icmp .eq off, 3)) (ht : (pc : Int) + off = (tgt : Int)) (hp : pc + 3 = pc') (kt : x = z → hk_W G l d y b nL ret hh Q X k n h tgt lv st) (kf : ¬ x = z → hk_W G l d y b nL ret hh Q X k n h pc' lv st) : hk_W G l d y b nL ret hh Q X k n h pc lv (.int z :: .int x :: st) := by
  subst hp
  intro p e s m args below meth c H locs cells slots mc ms ls C hk hn hO hL hl
  exact lv_icmp_eq C.1 C.2.1 hd ht (fun z => kt z p e s m args below meth c H locs cells slots mc ms ls C hk hn hO hL hl) (fun z => kf z p e s m args below meth c H locs cells slots mc ms ls C hk hn hO hL hl)
theorem hk_if_ne {x : Int32} {off : Int} {tgt : Nat} (hd : decode b pc = .ok (.ifCond .ne off, 3)) (ht : (pc : Int) + off = (tgt : Int)) (hp : pc + 3 = pc') (kt : ¬ x = 0 → hk_W G l d y b nL ret hh Q X k n h tgt lv st) (kf : x = 0 → hk_W G l d y b nL ret hh Q X k n h pc' lv st) : hk_W G l d y b nL ret hh Q X k n h pc lv (.int x :: st) := by
  subst hp
  intro p e s m args below meth c H locs cells slots mc ms ls C hk hn hO hL hl
  exact lv_if_ne C.1 C.2.1 hd ht (fun z => kt z p e s m args below meth c H locs cells slots mc ms ls C hk hn hO hL hl) (fun z => kf z p e s m args below meth c H locs cells slots mc ms ls C hk hn hO hL hl)
theorem hk_icmp_ne {x z : Int32} {off : Int} {tgt : Nat} (hd : decode b pc = .ok (.if_icmp .ne off, 3)) (ht : (pc : Int) + off = (tgt : Int)) (hp : pc + 3 = pc') (kt : ¬ x = z → hk_W G l d y b nL ret hh Q X k n h tgt lv st) (kf : x = z → hk_W G l d y b nL ret hh Q X k n h pc' lv st) : hk_W G l d y b nL ret hh Q X k n h pc lv (.int z :: .int x :: st) := by
  subst hp
  intro p e s m args below meth c H locs cells slots mc ms ls C hk hn hO hL hl
  exact lv_icmp_ne C.1 C.2.1 hd ht (fun z => kt z p e s m args below meth c H locs cells slots mc ms ls C hk hn hO hL hl) (fun z => kf z p e s m args below meth c H locs cells slots mc ms ls C hk hn hO hL hl)
theorem hk_if_lt {x : Int32} {off : Int} {tgt : Nat} (hd : decode b pc = .ok (.ifCond .lt off, 3)) (ht : (pc : Int) + off = (tgt : Int)) (hp : pc + 3 = pc') (kt : x < 0 → hk_W G l d y b nL ret hh Q X k n h tgt lv st) (kf : ¬ x < 0 → hk_W G l d y b nL ret hh Q X k n h pc' lv st) : hk_W G l d y b nL ret hh Q X k n h pc lv (.int x :: st) := by
  subst hp
  intro p e s m args below meth c H locs cells slots mc ms ls C hk hn hO hL hl
  exact lv_if_lt C.1 C.2.1 hd ht (fun z => kt z p e s m args below meth c H locs cells slots mc ms ls C hk hn hO hL hl) (fun z => kf z p e s m args below meth c H locs cells slots mc ms ls C hk hn hO hL hl)
theorem hk_icmp_lt {x z : Int32} {off : Int} {tgt : Nat} (hd : decode b pc = .ok (.if_icmp .lt off, 3)) (ht : (pc : Int) + off = (tgt : Int)) (hp : pc + 3 = pc') (kt : x < z → hk_W G l d y b nL ret hh Q X k n h tgt lv st) (kf : ¬ x < z → hk_W G l d y b nL ret hh Q X k n h pc' lv st) : hk_W G l d y b nL ret hh Q X k n h pc lv (.int z :: .int x :: st) := by
  subst hp
  intro p e s m args below meth c H locs cells slots mc ms ls C hk hn hO hL hl
  exact lv_icmp_lt C.1 C.2.1 hd ht (fun z => kt z p e s m args below meth c H locs cells slots mc ms ls C hk hn hO hL hl) (fun z => kf z p e s m args below meth c H locs cells slots mc ms ls C hk hn hO hL hl)
theorem hk_if_ge {x : Int32} {off : Int} {tgt : Nat} (hd : decode b pc = .ok (.ifCond .ge off, 3)) (ht : (pc : Int) + off = (tgt : Int)) (hp : pc + 3 = pc') (kt : 0 ≤ x → hk_W G l d y b nL ret hh Q X k n h tgt lv st) (kf : ¬ 0 ≤ x → hk_W G l d y b nL ret hh Q X k n h pc' lv st) : hk_W G l d y b nL ret hh Q X k n h pc lv (.int x :: st) := by
  subst hp
  intro p e s m args below meth c H locs cells slots mc ms ls C hk hn hO hL hl
  exact lv_if_ge C.1 C.2.1 hd ht (fun z => kt z p e s m args below meth c H locs cells slots mc ms ls C hk hn hO hL hl) (fun z => kf z p e s m args below meth c H locs cells slots mc ms ls C hk hn hO hL hl)
theorem hk_icmp_ge {x z : Int32} {off : Int} {tgt : Nat} (hd : decode b pc = .ok (.if_icmp .ge off, 3)) (ht : (pc : Int) + off = (tgt : Int)) (hp : pc + 3 = pc') (kt : z ≤ x → hk_W G l d y b nL ret hh Q X k n h tgt lv st) (kf : ¬ z ≤ x → hk_W G l d y b nL ret hh Q X k n h pc' lv st) : hk_W G l d y b nL ret hh Q X k n h pc lv (.int z :: .int x :: st) := by
  subst hp
  intro p e s m args below meth c H locs cells slots mc ms ls C hk hn hO hL hl
  exact lv_icmp_ge C.1 C.2.1 hd ht (fun z => kt z p e s m args below meth c H locs cells slots mc ms ls C hk hn hO hL hl) (fun z => kf z p e s m args below meth c H locs cells slots mc ms ls C hk hn hO hL hl)
theorem hk_if_gt {x : Int32} {off : Int} {tgt : Nat} (hd : decode b pc = .ok (.ifCond .gt off, 3)) (ht : (pc : Int) + off = (tgt : Int)) (hp : pc + 3 = pc') (kt : 0 < x → hk_W G l d y b nL ret hh Q X k n h tgt lv st) (kf : ¬ 0 < x → hk_W G l d y b nL ret hh Q X k n h pc' lv st) : hk_W G l d y b nL ret hh Q X k n h pc lv (.int x :: st) := by
  subst hp
  intro p e s m args below meth c H locs cells slots mc ms ls C hk hn hO hL hl
  exact lv_if_gt C.1 C.2.1 hd ht (fun z => kt z p e s m args below meth c H locs cells slots mc ms ls C hk hn hO hL hl) (fun z => kf z p e s m args below meth c H locs cells slots mc ms ls C hk hn hO hL hl)
theorem hk_icmp_gt {x z : Int32} {off : Int} {tgt : Nat} (hd : decode b pc = .ok (.if_icmp .gt off, 3)) (ht : (pc : Int) + off = (tgt : Int)) (hp : pc + 3 = pc') (kt : z < x → hk_W G l d y b nL ret hh Q X k n h tgt lv st) (kf : ¬ z < x → hk_W G l d y b nL ret hh Q X k n h pc' lv st) : hk_W G l d y b nL ret hh Q X k n h pc lv (.int z :: .int x :: st) := by
  subst hp
  intro p e s m args below meth c H locs cells slots mc ms ls C hk hn hO hL hl
  exact lv_icmp_gt C.1 C.2.1 hd ht (fun z => kt z p e s m args below meth c H locs cells slots mc ms ls C hk hn hO hL hl) (fun z => kf z p e s m args below meth c H locs cells slots mc ms ls C hk hn hO hL hl)
theorem hk_if_le {x : Int32} {off : Int} {tgt : Nat} (hd : decode b pc = .ok (.ifCond .le off, 3)) (ht : (pc : Int) + off = (tgt : Int)) (hp : pc + 3 = pc') (kt : x ≤ 0 → hk_W G l d y b nL ret hh Q X k n h tgt lv st) (kf : ¬ x ≤ 0 → hk_W G l d y b nL ret hh Q X k n h pc' lv st) : hk_W G l d y b nL ret hh Q X k n h pc lv (.int x :: st) := by
  subst hp
  intro p e s m args below meth c H locs cells slots mc ms ls C hk hn hO hL hl
  exact lv_if_le C.1 C.2.1 hd ht (fun z => kt z p e s m args below meth c H locs cells slots mc ms ls C hk hn hO hL hl) (fun z => kf z p e s m args below meth c H locs cells slots mc ms ls C hk hn hO hL hl)
theorem hk_icmp_le {x z : Int32} {off : Int} {tgt : Nat} (hd : decode b pc = .ok (.if_icmp .le off, 3)) (ht : (pc : Int) + off = (tgt : Int)) (hp : pc + 3 = pc') (kt : x ≤ z → hk_W G l d y b nL ret hh Q X k n h tgt lv st) (kf : ¬ x ≤ z → hk_W G l d y b nL ret hh Q X k n h pc' lv st) : hk_W G l d y b nL ret hh Q X k n h pc lv (.int z :: .int x :: st) := by
  subst hp
  intro p e s m args below meth c H locs cells slots mc ms ls C hk hn hO hL hl
  exact lv_icmp_le C.1 C.2.1 hd ht (fun z => kt z p e s m args below meth c H locs cells slots mc ms ls C hk hn hO hL hl) (fun z => kf z p e s m args below meth c H locs cells slots mc ms ls C hk hn hO hL hl)
theorem hk_acmp_eq {rx ry : Option Nat} {off : Int} {tgt : Nat} (hd : decode b pc = .ok (.if_acmp .eq off, 3)) (ht : (pc : Int) + off = (tgt : Int)) (hp : pc + 3 = pc') (kt : rx = ry → hk_W G l d y b nL ret hh Q X k n h tgt lv st) (kf : ¬ rx = ry → hk_W G l d y b nL ret hh Q X k n h pc' lv st) : hk_W G l d y b nL ret hh Q X k n h pc lv (va_rf ry :: va_rf rx :: st) := by
  subst hp
  intro p e s m args below meth c H locs cells slots mc ms ls C hk hn hO hL hl
  exact lv_acmp_eq C.1 C.2.1 hd ht (fun z => kt z p e s m args below meth c H locs cells slots mc ms ls C hk hn hO hL hl) (fun z => kf z p e s m args below meth c H locs cells slots mc ms ls C hk hn hO hL hl)
theorem hk_acmp_ne {rx ry : Option Nat} {off : Int} {tgt : Nat} (hd : decode b pc = .ok (.if_acmp .ne off, 3)) (ht : (pc : Int) + off = (tgt : Int)) (hp : pc + 3 = pc') (kt : ¬ rx = ry → hk_W G l d y b nL ret hh Q X k n h tgt lv st) (kf : rx = ry → hk_W G l d y b nL ret hh Q X k n h pc' lv st) : hk_W G l d y b nL ret hh Q X k n h pc lv (va_rf ry :: va_rf rx :: st) := by
  subst hp
  intro p e s m args below meth c H locs cells slots mc ms ls C hk hn hO hL hl
  exact lv_acmp_ne C.1 C.2.1 hd ht (fun z => kt z p e s m args below meth c H locs cells slots mc ms ls C hk hn hO hL hl) (fun z => kf z p e s m args below meth c H locs cells slots mc ms ls C hk hn hO hL hl)
theorem hk_goto {off : Int} {tgt : Nat} (hd : decode b pc = .ok (.goto off, 3)) (ht : (pc : Int) + off = (tgt : Int)) (kk : hk_W G l d y b nL ret hh Q X k n h tgt lv st) : hk_W G l d y b nL ret hh Q X k n h pc lv st := by
  intro p e s m args below meth c H locs cells slots mc ms ls C hk hn hO hL hl
  exact lv_goto C.1 C.2.1 hd ht (kk p e s m args below meth c H locs cells slots mc ms ls C hk hn hO hL hl)
theorem hk_ifnull_t {off : Int} {tgt : Nat} (hd : decode b pc = .ok (.ifnull off, 3)) (ht : (pc : Int) + off = (tgt : Int)) (kk : hk_W G l d y b nL ret hh Q X k n h tgt lv st) : hk_W G l d y b nL ret hh Q X k n h pc lv (.null :: st) := by
  intro p e s m args below meth c H locs cells slots mc ms ls C hk hn hO hL hl
  exact lv_ifnullN C.1 C.2.1 hd ht (kk p e s m args below meth c H locs cells slots mc ms ls C hk hn hO hL hl)
theorem hk_ifnull_f {x : Nat} {off : Int} (hd : decode b pc = .ok (.ifnull off, 3)) (hp : pc + 3 = pc') (kk : hk_W G l d y b nL ret hh Q X k n h pc' lv st) : hk_W G l d y b nL ret hh Q X k n h pc lv (.ref x :: st) := by
  subst hp
  intro p e s m args below meth c H locs cells slots mc ms ls C hk hn hO hL hl
  exact lv_ifnull C.1 C.2.1 hd (kk p e s m args below meth c H locs cells slots mc ms ls C hk hn hO hL hl)
theorem hk_ifnonnull_t {x : Nat} {off : Int} {tgt : Nat} (hd : decode b pc = .ok (.ifnonnull off, 3)) (ht : (pc : Int) + off = (tgt : Int)) (kk : hk_W G l d y b nL ret hh Q X k n h tgt lv st) : hk_W G l d y b nL ret hh Q X k n h pc lv (.ref x :: st) := by
  intro p e s m args below meth c H locs cells slots mc ms ls C hk hn hO hL hl
  exact lv_ifnonnull C.1 C.2.1 hd ht (kk p e s m args below meth c H locs cells slots mc ms ls C hk hn hO hL hl)
theorem hk_ifnonnull_f {off : Int} (hd : decode b pc = .ok (.ifnonnull off, 3)) (hp : pc + 3 = pc') (kk : hk_W G l d y b nL ret hh Q X k n h pc' lv st) : hk_W G l d y b nL ret hh Q X k n h pc lv (.null :: st) := by
  subst hp
  intro p e s m args below meth c H locs cells slots mc ms ls C hk hn hO hL hl
  exact lv_ifnonnullN C.1 C.2.1 hd (kk p e s m args below meth c H locs cells slots mc ms ls C hk hn hO hL hl)
theorem hk_swIn {dflt lo hi : Int} {offs : Array Int} {len : Nat} {x : Int32} {off : Int} {tgt : Nat} (hd : decode b pc = .ok (.tableswitch dflt lo hi offs, len)) (h1 : ¬ x.toInt < lo) (h2 : ¬ hi < x.toInt) (ho : offs[(x.toInt - lo).toNat]? = some off) (ht : (pc : Int) + off = (tgt : Int)) (kk : hk_W G l d y b nL ret hh Q X k n h tgt lv st) : hk_W G l d y b nL ret hh Q X k n h pc lv (.int x :: st) := by
  intro p e s m args below meth c H locs cells slots mc ms ls C hk hn hO hL hl
  exact lv_tableIn C.1 C.2.1 hd h1 h2 ho ht (kk p e s m args below meth c H locs cells slots mc ms ls C hk hn hO hL hl)
theorem hk_swOut {dflt lo hi : Int} {offs : Array Int} {len : Nat} {x : Int32} {tgt : Nat} (hd : decode b pc = .ok (.tableswitch dflt lo hi offs, len)) (h1 : x.toInt < lo ∨ hi < x.toInt) (ht : (pc : Int) + dflt = (tgt : Int)) (kk : hk_W G l d y b nL ret hh Q X k n h tgt lv st) : hk_W G l d y b nL ret hh Q X k n h pc lv (.int x :: st) := by
  intro p e s m args below meth c H locs cells slots mc ms ls C hk hn hO hL hl
  exact lv_tableOut C.1 C.2.1 hd h1 ht (kk p e s m args below meth c H locs cells slots mc ms ls C hk hn hO hL hl)
theorem hk_loc {lv' : List (Option Value)} (hle : hk_le lv' lv) (kk : hk_W G l d y b nL ret hh Q X k n h pc lv' st) : hk_W G l d y b nL ret hh Q X k n h pc lv st := by
  intro p e s m args below meth c H locs cells slots mc ms ls C hk hn hO hL hl
  exact kk p e s m args below meth c H locs cells slots mc ms ls C hk hn hO ((hk_le_len hle).1.trans hL) (hl.weak hle)
theorem hk_bud {k' n' : Nat} (h1 : k' ≤ k) (h2 : n' ≤ n) (kk : hk_W G l d y b nL ret hh Q X k' n' h pc lv st) : hk_W G l d y b nL ret hh Q X k n h pc lv st := by
  intro p e s m args below meth c H locs cells slots mc ms ls C hk hn hO hL hl
  exact kk p e s m args below meth c H locs cells slots mc ms ls C (by omega) (by omega) hO hL hl
end HK
theorem hk_C.exec {G l y b nL ret hh p s m args meth c} (C : hk_C G l y b nL ret hh p s m args meth c) : p.tables.exec = Jvm.exec := C.1
theorem hk_C.bytes {G l y b nL ret hh p s m args meth c} (C : hk_C G l y b nL ret hh p s m args meth c) : c.code = b := C.2.1
theorem hk_C.returns {G l y b nL ret hh p s m args meth c} (C : hk_C G l y b nL ret hh p s m args meth c) : meth.sig.returnType = ret := C.2.2.1
theorem hk_C.maxL {G l y b nL ret hh p s m args meth c} (C : hk_C G l y b nL ret hh p s m args meth c) : c.maxLocals = nL := C.2.2.2.1
theorem hk_C.own {G l y b nL ret hh p s m args meth c} (C : hk_C G l y b nL ret hh p s m args meth c) : s.vm.findClass y.cls = some m.cls := C.2.2.2.2.1
theorem hk_C.words {G l y b nL ret hh p s m args meth c} (C : hk_C G l y b nL ret hh p s m args meth c) : ∀ w ∈ hk_all, w.before args s = true := C.2.2.2.2.2.1
theorem hk_C.locks {G l y b nL ret hh p s m args meth c} (C : hk_C G l y b nL ret hh p s m args meth c) : meth.locks = false := C.2.2.2.2.2.2.1
theorem hk_C.name {G l y b nL ret hh p s m args meth c} (C : hk_C G l y b nL ret hh p s m args meth c) : meth.name = y.name := C.2.2.2.2.2.2.2.1
theorem hk_C.table {G l y b nL ret hh p s m args meth c} (C : hk_C G l y b nL ret hh p s m args meth c) : c.exceptionTable.toList = tableOf hh := C.2.2.2.2.2.2.2.2.1
theorem hk_C.F {G l y b nL ret hh p s m args meth c} (C : hk_C G l y b nL ret hh p s m args meth c) : hk_F G s s.heap := C.2.2.2.2.2.2.2.2.2.1
theorem hk_C.flag {G l y b nL ret hh p s m args meth c} (C : hk_C G l y b nL ret hh p s m args meth c) : l.stackTraces = false := C.2.2.2.2.2.2.2.2.2.2.1
theorem hk_C.base {G l y b nL ret hh p s m args meth c} (C : hk_C G l y b nL ret hh p s m args meth c) : hk_B G ≤ s.heap.size := C.2.2.2.2.2.2.2.2.2.2.2
-- a class of the worlds: its row, its words, its types
def hk_cls (ci : Nat) (K : String) (T : u_T) (N : Nat) (ty : Nat → FieldType) : Prop := vwCl[ci]? = some (K, T, N) ∧ (∀ w ∈ u_ws K T N, w ∈ hk_all) ∧ (∀ j, j < N → parseFieldDescriptor (T j).2.2.1 = some (ty j)) ∧ ∀ a, a < N → ∀ b, b < N → a ≠ b → (T a).2.1 ≠ (T b).2.1
theorem hk_in (ws : List Cond) (ps : List Nat) (hp : ws = ps.filterMap (fun i => lw_tbl[i]?)) (h : ws.all goodWord = true) : ∀ w ∈ ws, w ∈ hk_all := fun w hw => by
  have h1 := List.all_eq_true.mp h w hw
  rw [hp] at hw
  obtain ⟨i, -, hi⟩ := List.mem_filterMap.mp hw
  exact hk_w hi h1
-- a field by its entry: of class ci its place f
def hk_fl (own : String) (idx ci f : Nat) : Prop := ∃ (K : String) (T : u_T) (N : Nat) (ty : Nat → FieldType), hk_cls ci K T N ty ∧ f < N ∧
  ((Cond.fieldLink own idx (T f).1 (T f).2.1 (T f).2.2.1 ∈ hk_all) ∨ (∃ ref : String, Cond.fieldLink own idx ref (T f).2.1 (T f).2.2.1 ∈ hk_all ∧ Cond.sameField ref (T f).1 (T f).2.1 (T f).2.2.1 ∈ hk_all) ∨ (∃ host : String, Cond.fieldLinkNest own idx (T f).1 (T f).2.1 (T f).2.2.1 host ∈ lw_tbl))
-- .. that may be written: an ordinary one, by a plain or a nest link; a final one in its class's own constructor
def hk_fw (y : MethodName) (idx ci f : Nat) (t : FieldType) : Prop := ∃ (K : String) (T : u_T) (N : Nat) (ty : Nat → FieldType), hk_cls ci K T N ty ∧ f < N ∧ parseFieldDescriptor (T f).2.2.1 = some t ∧
  (((T f).2.2.2 = false ∧ (Cond.fieldLink y.cls idx (T f).1 (T f).2.1 (T f).2.2.1 ∈ hk_all)) ∨ ((T f).2.2.2 = false ∧ ∃ ref : String, Cond.fieldLink y.cls idx ref (T f).2.1 (T f).2.2.1 ∈ hk_all ∧ Cond.sameField ref (T f).1 (T f).2.1 (T f).2.2.1 ∈ hk_all) ∨ ((T f).2.2.2 = false ∧ ∃ host : String, Cond.fieldLinkNest y.cls idx (T f).1 (T f).2.1 (T f).2.2.1 host ∈ lw_tbl) ∨ ((T f).2.2.2 = true ∧ y.name = "<init>" ∧ (T f).1 = y.cls ∧ (Cond.fieldLink y.cls idx (T f).1 (T f).2.1 (T f).2.2.1 ∈ hk_all)))

section HK
variable {G : hk_G} {l : Launch} {d : Nat} {y : MethodName} {b : ByteArray} {nL : Nat} {ret : Option FieldType} {hh : List (Nat × Nat × Nat × Nat)} {Q : Option Value → hk_H → Prop} {X : String → hk_H → Prop} {k n : Nat} {h : hk_H} {pc pc' : Nat} {lv : List (Option Value)} {st : List Value}
theorem hk_getf {a idx ci f : Nat} {fs : List Value} {v : Value} (hd : decode b pc = .ok (.getfield idx, 3)) (hp : pc + 3 = pc') (L : hk_fl y.cls idx ci f) (ha : h a = some (.inr (ci, fs))) (hv : fs[f]? = some v) (kk : hk_W G l d y b nL ret hh Q X k n h pc' lv (v :: st)) : hk_W G l d y b nL ret hh Q X k n h pc lv (.ref a :: st) := by
  subst hp
  intro p e s m args below meth c H locs cells slots mc ms ls C hk hn hO hL hl
  obtain ⟨K, T, N, ty, hc, hf, hlk⟩ := L
  have hpa : va_P (hk_D G) vwCl [(a, hk_cv G (.inr (ci, fs)))] H := fun j q hj => by
    have h0 : j < 1 := (List.getElem?_eq_some_iff.mp hj).1
    rw [show j = 0 by omega] at hj
    cases hj
    exact (hO.1 a _ ha).2
  rcases hlk with h1 | ⟨ref, h1, h2⟩ | ⟨host, h1⟩
  · exact va_get C.exec C.bytes C.words hc.2.1 C.own C.F.K hpa 0 (fs := fs) rfl hc.1 f hf (C.words _ h1) (fun _ z => z) hv hd (kk p e s m args below meth c H locs cells slots mc ms ls C hk hn hO hL hl)
  · exact va_get C.exec C.bytes C.words hc.2.1 C.own C.F.K hpa 0 (fs := fs) rfl hc.1 f hf (C.words _ h1) (fun x z => u_same (C.words _ h2) x z) hv hd (kk p e s m args below meth c H locs cells slots mc ms ls C hk hn hO hL hl)
  · exact va_getN C.exec C.bytes C.words hc.2.1 C.own C.F.K hpa 0 (fs := fs) rfl hc.1 f hf (va_Nw.use rfl (C.F.2.2.2.2.2.1 _ h1 rfl)) (fun _ z => z) hv hd (kk p e s m args below meth c H locs cells slots mc ms ls C hk hn hO hL hl)
theorem hk_putf {a idx ci f : Nat} {fs : List Value} {v : Value} {t : FieldType} (hd : decode b pc = .ok (.putfield idx, 3)) (hp : pc + 3 = pc') (L : hk_fw y idx ci f t) (ha : h a = some (.inr (ci, fs))) (hn1 : narrow t v = v) (hn2 : fits t v = true) (hlen : f < fs.length) (kk : hk_W G l d y b nL ret hh Q X k n (hk_set h a (.inr (ci, fs.set f v))) pc' lv st) : hk_W G l d y b nL ret hh Q X k n h pc lv (v :: .ref a :: st) := by
  subst hp
  intro p e s m args below meth c H locs cells slots mc ms ls C hk hn hO hL hl
  obtain ⟨K, T, N, ty0, hc, hf, hd0, hlk⟩ := L
  have hpa := hO.1 a _ ha
  obtain ⟨r, hr1, cell, q1, q2, q3, q4⟩ := hpa.2
  have hr : r = (K, T, N) := Option.some.inj (hr1.symm.trans hc.1)
  subst hr
  have hap := va_apart (own := y.cls) C.words hc.2.1 ty0 hc.2.2.1 hc.2.2.2 C.F.K hc.1
  obtain ⟨hS, hfc, kC, hkC, hkind⟩ := C.F.1 ci _ hc.1
  obtain ⟨cf, kf, fi, fd, hi, hsl⟩ := hS f hf
  have hst := (u_facts hfc hkC (u_lays C.words hc.2.1 hf) hi).1
  have fin : ∀ (H1 : Heap), H1[a]? = some (cell.setSlot fd.slot v) → H1.size = H.size → (∀ q, q ≠ a → H1[q]? = H[q]?) → W p l e (hk_rm d mc ms) s m args below meth c H1 (locs ++ [⟨a, fd.slot⟩]) cells slots (vx_MQ below (hk_Qc G Q) (hk_XC G X) args s mc ms (hk_A G)) (F0 m (pc + 3) ls st) := fun H1 e1 e2 e3 => by
    rw [hsl] at e1
    exact kk p e s m args below meth c H1 _ cells slots mc ms ls C hk hn ⟨hO.1.set ha ⟨_, hc.1, t_OB.to (V := updV (vp_V fs) f v) ⟨_, e1, q2, q3, t_set q4 hap hf v⟩ (fun j _ => vp_updV_set hlen v j)⟩ e3, hO.2.put e2 e3 hpa.1⟩ hL hl
  have hlay := C.words _ (hc.2.1 _ (u_in_lay hf))
  unfold u_lay at hlay
  rcases hlk with ⟨hfin, h1⟩ | ⟨hfin, ref, h1, h2⟩ | ⟨hfin, host, h1⟩ | ⟨hfin, hin, hdc, h1⟩
  · rw [if_neg (by rw [hfin]; decide)] at hlay
    have h6 := u_store hfc hkC hkind hlay hi hd0 hn1 hn2
    exact W.putK C.exec C.bytes (f := fd) ⟨C.own, C.words _ h1, ⟨_, _, _, hi⟩, hst⟩ (by rw [q2]; exact h6) q1 q3 (by rw [hsl]; exact k2_hasslot (q4 f hf)) rfl rfl hd fin
  · rw [if_neg (by rw [hfin]; decide)] at hlay
    have h6 := u_store hfc hkC hkind hlay hi hd0 hn1 hn2
    exact W.putK C.exec C.bytes (f := fd) ⟨C.own, C.words _ h1, ⟨_, _, _, u_same (C.words _ h2) _ hi⟩, hst⟩ (by rw [q2]; exact h6) q1 q3 (by rw [hsl]; exact k2_hasslot (q4 f hf)) rfl rfl hd fin
  · rw [if_neg (by rw [hfin]; decide)] at hlay
    have h6 := u_store hfc hkC hkind hlay hi hd0 hn1 hn2
    have hal : a < H.size := (Array.getElem?_eq_some_iff.mp q1).1
    refine va_Wputf C.exec C.bytes C.own (va_Nw.use rfl (C.F.2.2.2.2.2.1 _ h1 rfl)) hi hst (Or.inl h6.1) q1 (by rw [q3]; exact fun z => by cases z) (by rw [hsl]; exact k2_hasslot (q4 f hf)) h6.2.1 (by rw [q3, q2]; exact h6.2.2) rfl rfl hd ?_
    exact fin _ (by simp [Array.getElem?_setIfInBounds, hal]) (by simp) (fun q hq => by simp [Array.getElem?_setIfInBounds, Ne.symm hq])
  · rw [if_pos hfin] at hlay
    have hcf : m.cls = cf := by
      obtain ⟨_, _, c', _, _, _, -, -, hf', -, -, -, hown2, -⟩ := Cond.laysFinal_spec hlay
      have e1 : c' = cf := by have := hi.symm.trans hf'; simp at this; exact this.1.symm
      rw [hdc] at hown2
      rw [← e1]; exact Option.some.inj (C.own.symm.trans hown2)
    have h6 := u_fits hfc hkC hkind (Or.inr hlay) hi hd0 hn1 hn2
    exact W.putFinK C.exec C.bytes C.own (C.words _ h1) hi hst hcf (C.name.trans hin) (by rw [q2]; exact h6) q1 q3 (by rw [hsl]; exact k2_hasslot (q4 f hf)) rfl rfl hd fin
theorem hk_iald {a cnt : Nat} {f : Nat → Int32} {i : Int32} (hd : decode b pc = .ok (.iaload, 1)) (hp : pc + 1 = pc') (ha : h a = some (.inl (0, cnt, .inl f))) (hin : vp_in i cnt) (kk : hk_W G l d y b nL ret hh Q X k n h pc' lv (.int (f i.toNatClampNeg) :: st)) : hk_W G l d y b nL ret hh Q X k n h pc lv (.int i :: .ref a :: st) := by
  subst hp
  intro p e s m args below meth c H locs cells slots mc ms ls C hk hn hO hL hl
  have hlt : i.toNatClampNeg < cnt := Nat.not_le.mp fun q => hin (Or.inr q)
  exact W.iald (v := .int (f i.toNatClampNeg)) C.exec C.bytes (hO.1 a _ ha).2 ((C.F.2.1 0 (by decide)).1 cnt (fun j => .int (f j))) (fun q => by cases q) (by show ¬ (i < 0 ∨ (arrV _ _ _).slots.size ≤ _); rw [arrV_size]; exact hin) (by show (arrV _ _ _).slots[_]? = _; rw [arrV_read _ _ hlt]) rfl rfl hd (kk p e s m args below meth c H locs cells slots mc ms ls C hk hn hO hL hl)
theorem hk_zald {a cnt : Nat} {f : Nat → Int32} {i : Int32} (hd : decode b pc = .ok (.baload, 1)) (hp : pc + 1 = pc') (ha : h a = some (.inl (1, cnt, .inl f))) (hin : vp_in i cnt) (kk : hk_W G l d y b nL ret hh Q X k n h pc' lv (.int (f i.toNatClampNeg) :: st)) : hk_W G l d y b nL ret hh Q X k n h pc lv (.int i :: .ref a :: st) := by
  subst hp
  intro p e s m args below meth c H locs cells slots mc ms ls C hk hn hO hL hl
  have hlt : i.toNatClampNeg < cnt := Nat.not_le.mp fun q => hin (Or.inr q)
  exact W.zald (v := .int (f i.toNatClampNeg)) C.exec C.bytes (hO.1 a _ ha).2 ((C.F.2.1 1 (by decide)).1 cnt (fun j => .int (f j))) (fun q => by cases q) (by show ¬ (i < 0 ∨ (arrV _ _ _).slots.size ≤ _); rw [arrV_size]; exact hin) (by show (arrV _ _ _).slots[_]? = _; rw [arrV_read _ _ hlt]) rfl rfl hd (kk p e s m args below meth c H locs cells slots mc ms ls C hk hn hO hL hl)
theorem hk_cald {a cnt : Nat} {f : Nat → Int32} {i : Int32} (hd : decode b pc = .ok (.caload, 1)) (hp : pc + 1 = pc') (ha : h a = some (.inl (4, cnt, .inl f))) (hin : vp_in i cnt) (kk : hk_W G l d y b nL ret hh Q X k n h pc' lv (.int (f i.toNatClampNeg) :: st)) : hk_W G l d y b nL ret hh Q X k n h pc lv (.int i :: .ref a :: st) := by
  subst hp
  intro p e s m args below meth c H locs cells slots mc ms ls C hk hn hO hL hl
  have hlt : i.toNatClampNeg < cnt := Nat.not_le.mp fun q => hin (Or.inr q)
  exact W.cald (v := .int (f i.toNatClampNeg)) C.exec C.bytes (hO.1 a _ ha).2 ((C.F.2.1 4 (by decide)).1 cnt (fun j => .int (f j))) (fun q => by cases q) (by show ¬ (i < 0 ∨ (arrV _ _ _).slots.size ≤ _); rw [arrV_size]; exact hin) (by show (arrV _ _ _).slots[_]? = _; rw [arrV_read _ _ hlt]) rfl rfl hd (kk p e s m args below meth c H locs cells slots mc ms ls C hk hn hO hL hl)
theorem hk_lald {a cnt : Nat} {f : Nat → Int64} {i : Int32} (hd : decode b pc = .ok (.laload, 1)) (hp : pc + 1 = pc') (ha : h a = some (.inl (2, cnt, .inr (.inl f)))) (hin : vp_in i cnt) (kk : hk_W G l d y b nL ret hh Q X k n h pc' lv (.long (f i.toNatClampNeg) :: st)) : hk_W G l d y b nL ret hh Q X k n h pc lv (.int i :: .ref a :: st) := by
  subst hp
  intro p e s m args below meth c H locs cells slots mc ms ls C hk hn hO hL hl
  have hlt : i.toNatClampNeg < cnt := Nat.not_le.mp fun q => hin (Or.inr q)
  exact W.lald (v := .long (f i.toNatClampNeg)) C.exec C.bytes (hO.1 a _ ha).2 ((C.F.2.1 2 (by decide)).1 cnt (fun j => .long (f j))) (fun q => by cases q) (by show ¬ (i < 0 ∨ (arrV _ _ _).slots.size ≤ _); rw [arrV_size]; exact hin) (by show (arrV _ _ _).slots[_]? = _; rw [arrV_read _ _ hlt]) rfl rfl hd (kk p e s m args below meth c H locs cells slots mc ms ls C hk hn hO hL hl)
theorem hk_dald {a cnt : Nat} {f : Nat → UInt64} {i : Int32} (hd : decode b pc = .ok (.daload, 1)) (hp : pc + 1 = pc') (ha : h a = some (.inl (3, cnt, .inr (.inr (.inr (.inl f)))))) (hin : vp_in i cnt) (kk : hk_W G l d y b nL ret hh Q X k n h pc' lv (.double (f i.toNatClampNeg) :: st)) : hk_W G l d y b nL ret hh Q X k n h pc lv (.int i :: .ref a :: st) := by
  subst hp
  intro p e s m args below meth c H locs cells slots mc ms ls C hk hn hO hL hl
  have hlt : i.toNatClampNeg < cnt := Nat.not_le.mp fun q => hin (Or.inr q)
  exact W.dald (v := .double (f i.toNatClampNeg)) C.exec C.bytes (hO.1 a _ ha).2 ((C.F.2.1 3 (by decide)).1 cnt (fun j => .double (f j))) (fun q => by cases q) (by show ¬ (i < 0 ∨ (arrV _ _ _).slots.size ≤ _); rw [arrV_size]; exact hin) (by show (arrV _ _ _).slots[_]? = _; rw [arrV_read _ _ hlt]) rfl rfl hd (kk p e s m args below meth c H locs cells slots mc ms ls C hk hn hO hL hl)
theorem hk_aald {a cnt : Nat} {f : Nat → Option Nat} {i : Int32} (hd : decode b pc = .ok (.aaload, 1)) (hp : pc + 1 = pc') (ha : h a = some (.inl (5, cnt, .inr (.inr (.inr (.inr f)))))) (hin : vp_in i cnt) (kk : hk_W G l d y b nL ret hh Q X k n h pc' lv (va_rf (f i.toNatClampNeg) :: st)) : hk_W G l d y b nL ret hh Q X k n h pc lv (.int i :: .ref a :: st) := by
  subst hp
  intro p e s m args below meth c H locs cells slots mc ms ls C hk hn hO hL hl
  have hlt : i.toNatClampNeg < cnt := Nat.not_le.mp fun q => hin (Or.inr q)
  exact W.aald (v := va_rf (f i.toNatClampNeg)) C.exec C.bytes (hO.1 a _ ha).2 ((C.F.2.1 5 (by decide)).1 cnt (fun j => va_rf (f j))) rfl (fun q => by cases q) (by show ¬ (i < 0 ∨ (arrV _ _ _).slots.size ≤ _); rw [arrV_size]; exact hin) (by show (arrV _ _ _).slots[_]? = _; rw [arrV_read _ _ hlt]) rfl rfl hd (kk p e s m args below meth c H locs cells slots mc ms ls C hk hn hO hL hl)
theorem hk_aaldI {a cnt : Nat} {f : Nat → Option Nat} {i : Int32} (hd : decode b pc = .ok (.aaload, 1)) (hp : pc + 1 = pc') (ha : h a = some (.inl (6, cnt, .inr (.inr (.inr (.inr f)))))) (hin : vp_in i cnt) (kk : hk_W G l d y b nL ret hh Q X k n h pc' lv (va_rf (f i.toNatClampNeg) :: st)) : hk_W G l d y b nL ret hh Q X k n h pc lv (.int i :: .ref a :: st) := by
  subst hp
  intro p e s m args below meth c H locs cells slots mc ms ls C hk hn hO hL hl
  have hlt : i.toNatClampNeg < cnt := Nat.not_le.mp fun q => hin (Or.inr q)
  exact W.aald (v := va_rf (f i.toNatClampNeg)) C.exec C.bytes (hO.1 a _ ha).2 ((C.F.2.1 6 (by decide)).1 cnt (fun j => va_rf (f j))) rfl (fun q => by cases q) (by show ¬ (i < 0 ∨ (arrV _ _ _).slots.size ≤ _); rw [arrV_size]; exact hin) (by show (arrV _ _ _).slots[_]? = _; rw [arrV_read _ _ hlt]) rfl rfl hd (kk p e s m args below meth c H locs cells slots mc ms ls C hk hn hO hL hl)
theorem hk_iast {a cnt : Nat} {f : Nat → Int32} {i : Int32} {x : Int32} (hd : decode b pc = .ok (.iastore, 1)) (hp : pc + 1 = pc') (ha : h a = some (.inl (0, cnt, .inl f))) (hin : vp_in i cnt) (kk : hk_W G l d y b nL ret hh Q X k n (hk_set h a (.inl (0, cnt, .inl (upd f i.toNatClampNeg x)))) pc' lv st) : hk_W G l d y b nL ret hh Q X k n h pc lv (.int x :: .int i :: .ref a :: st) := by
  subst hp
  intro p e s m args below meth c H locs cells slots mc ms ls C hk hn hO hL hl
  have hpa := hO.1 a _ ha
  refine W.iast C.exec C.bytes hpa.2 ((C.F.2.1 0 (by decide)).1 cnt (fun j => .int (f j))) (fun q => by cases q) (by show ¬ (i < 0 ∨ (arrV _ _ _).slots.size ≤ _); rw [arrV_size]; exact hin) rfl rfl hd fun H1 e1 z oq => ?_
  refine kk p e s m args below meth c H1 _ cells slots mc ms ls C hk hn ⟨hO.1.set ha ?_ oq, hO.2.put z oq hpa.1⟩ hL hl
  show H1[a]? = some (arrV (hk_dA G 0) cnt (fun j => .int ((upd f i.toNatClampNeg x) j)))
  rw [e1]
  show some ((arrV (hk_dA G 0) cnt (fun j => .int (f j))).setSlot _ _) = _
  rw [arrV_store]
  congr 2
  funext q
  by_cases hq : q = i.toNatClampNeg
  · subst hq
    simp [updV, upd]
  · simp [updV, upd, hq]
theorem hk_zast {a cnt : Nat} {f : Nat → Int32} {i : Int32} {x : Int32} (hd : decode b pc = .ok (.bastore, 1)) (hp : pc + 1 = pc') (ha : h a = some (.inl (1, cnt, .inl f))) (hin : vp_in i cnt) (hx : narrow .boolean (.int x) = .int x) (kk : hk_W G l d y b nL ret hh Q X k n (hk_set h a (.inl (1, cnt, .inl (upd f i.toNatClampNeg x)))) pc' lv st) : hk_W G l d y b nL ret hh Q X k n h pc lv (.int x :: .int i :: .ref a :: st) := by
  subst hp
  intro p e s m args below meth c H locs cells slots mc ms ls C hk hn hO hL hl
  have hpa := hO.1 a _ ha
  refine W.zast C.exec C.bytes hpa.2 ((C.F.2.1 1 (by decide)).1 cnt (fun j => .int (f j))) (fun q => by cases q) (by show ¬ (i < 0 ∨ (arrV _ _ _).slots.size ≤ _); rw [arrV_size]; exact hin) rfl rfl hd fun H1 e1 z oq => ?_
  refine kk p e s m args below meth c H1 _ cells slots mc ms ls C hk hn ⟨hO.1.set ha ?_ oq, hO.2.put z oq hpa.1⟩ hL hl
  show H1[a]? = some (arrV (hk_dA G 1) cnt (fun j => .int ((upd f i.toNatClampNeg x) j)))
  rw [hx] at e1
  rw [e1]
  show some ((arrV (hk_dA G 1) cnt (fun j => .int (f j))).setSlot _ _) = _
  rw [arrV_store]
  congr 2
  funext q
  by_cases hq : q = i.toNatClampNeg
  · subst hq
    simp [updV, upd]
  · simp [updV, upd, hq]
theorem hk_cast {a cnt : Nat} {f : Nat → Int32} {i : Int32} {x : Int32} (hd : decode b pc = .ok (.castore, 1)) (hp : pc + 1 = pc') (ha : h a = some (.inl (4, cnt, .inl f))) (hin : vp_in i cnt) (hx : narrow .char (.int x) = .int x) (kk : hk_W G l d y b nL ret hh Q X k n (hk_set h a (.inl (4, cnt, .inl (upd f i.toNatClampNeg x)))) pc' lv st) : hk_W G l d y b nL ret hh Q X k n h pc lv (.int x :: .int i :: .ref a :: st) := by
  subst hp
  intro p e s m args below meth c H locs cells slots mc ms ls C hk hn hO hL hl
  have hpa := hO.1 a _ ha
  refine W.cast C.exec C.bytes hpa.2 ((C.F.2.1 4 (by decide)).1 cnt (fun j => .int (f j))) (fun q => by cases q) (by show ¬ (i < 0 ∨ (arrV _ _ _).slots.size ≤ _); rw [arrV_size]; exact hin) rfl rfl hd fun H1 e1 z oq => ?_
  refine kk p e s m args below meth c H1 _ cells slots mc ms ls C hk hn ⟨hO.1.set ha ?_ oq, hO.2.put z oq hpa.1⟩ hL hl
  show H1[a]? = some (arrV (hk_dA G 4) cnt (fun j => .int ((upd f i.toNatClampNeg x) j)))
  rw [hx] at e1
  rw [e1]
  show some ((arrV (hk_dA G 4) cnt (fun j => .int (f j))).setSlot _ _) = _
  rw [arrV_store]
  congr 2
  funext q
  by_cases hq : q = i.toNatClampNeg
  · subst hq
    simp [updV, upd]
  · simp [updV, upd, hq]
theorem hk_last {a cnt : Nat} {f : Nat → Int64} {i : Int32} {x : Int64} (hd : decode b pc = .ok (.lastore, 1)) (hp : pc + 1 = pc') (ha : h a = some (.inl (2, cnt, .inr (.inl f)))) (hin : vp_in i cnt) (kk : hk_W G l d y b nL ret hh Q X k n (hk_set h a (.inl (2, cnt, .inr (.inl (vp_updL f i.toNatClampNeg x))))) pc' lv st) : hk_W G l d y b nL ret hh Q X k n h pc lv (.long x :: .int i :: .ref a :: st) := by
  subst hp
  intro p e s m args below meth c H locs cells slots mc ms ls C hk hn hO hL hl
  have hpa := hO.1 a _ ha
  refine W.last C.exec C.bytes hpa.2 ((C.F.2.1 2 (by decide)).1 cnt (fun j => .long (f j))) (fun q => by cases q) (by show ¬ (i < 0 ∨ (arrV _ _ _).slots.size ≤ _); rw [arrV_size]; exact hin) rfl rfl hd fun H1 e1 z oq => ?_
  refine kk p e s m args below meth c H1 _ cells slots mc ms ls C hk hn ⟨hO.1.set ha ?_ oq, hO.2.put z oq hpa.1⟩ hL hl
  show H1[a]? = some (arrV (hk_dA G 2) cnt (fun j => .long ((vp_updL f i.toNatClampNeg x) j)))
  rw [e1]
  show some ((arrV (hk_dA G 2) cnt (fun j => .long (f j))).setSlot _ _) = _
  rw [arrV_store]
  congr 2
  funext q
  by_cases hq : q = i.toNatClampNeg
  · subst hq
    simp [updV, vp_updL]
  · simp [updV, vp_updL, hq]
theorem hk_dast {a cnt : Nat} {f : Nat → UInt64} {i : Int32} {x : UInt64} (hd : decode b pc = .ok (.dastore, 1)) (hp : pc + 1 = pc') (ha : h a = some (.inl (3, cnt, .inr (.inr (.inr (.inl f)))))) (hin : vp_in i cnt) (kk : hk_W G l d y b nL ret hh Q X k n (hk_set h a (.inl (3, cnt, .inr (.inr (.inr (.inl (vf_upd f i.toNatClampNeg x))))))) pc' lv st) : hk_W G l d y b nL ret hh Q X k n h pc lv (.double x :: .int i :: .ref a :: st) := by
  subst hp
  intro p e s m args below meth c H locs cells slots mc ms ls C hk hn hO hL hl
  have hpa := hO.1 a _ ha
  refine W.dast C.exec C.bytes hpa.2 ((C.F.2.1 3 (by decide)).1 cnt (fun j => .double (f j))) (fun q => by cases q) (by show ¬ (i < 0 ∨ (arrV _ _ _).slots.size ≤ _); rw [arrV_size]; exact hin) rfl rfl hd fun H1 e1 z oq => ?_
  refine kk p e s m args below meth c H1 _ cells slots mc ms ls C hk hn ⟨hO.1.set ha ?_ oq, hO.2.put z oq hpa.1⟩ hL hl
  show H1[a]? = some (arrV (hk_dA G 3) cnt (fun j => .double ((vf_upd f i.toNatClampNeg x) j)))
  rw [e1]
  show some ((arrV (hk_dA G 3) cnt (fun j => .double (f j))).setSlot _ _) = _
  rw [arrV_store]
  congr 2
  funext q
  by_cases hq : q = i.toNatClampNeg
  · subst hq
    simp [updV, vf_upd]
  · simp [updV, vf_upd, hq]
end HK
end
section
/-! ===== BEGIN a constructor that throws (launches without stack traces) ===== -/
section VXIA
variable {p : Program} {l : Launch} {e : Env} {R : Room} {s : State} {m : MethodId} {args : Array Value} {below : List Frame} {meth : Method} {c : Code} {T : State} {locs : List Loc} {cells slots : Nat}
theorem vx_callI (X : Stand p l e R s m args below meth c T locs cells slots) (hexec : p.tables.exec = Jvm.exec) {own : String} {index : Nat} {y : MethodName} {bytes : ByteArray} {maxL : Nat}
    (hown : s.vm.findClass own = some m.cls) (hy1 : y.name = "<init>") (hlink : (Cond.methodLink own index y).before args s = true) (hinst : (Cond.instanceMethod y).before args s = true)
    (hcode : (Cond.code y bytes maxL none).before args s = true) (hy : y.cls ≠ "java/lang/invoke/MethodHandle" ∧ y.cls ≠ "java/lang/invoke/VarHandle")
    {W9 : Nat} {Pre : Pt → Array Value → Prop} {Post : Pt → Array Value → Option Value → Pt → Prop} {PostX : Pt → Array Value → Addr → Pt → Prop} (hK : vx_Back l R p e below s args y 3 W9 Pre Post PostX)
    {g : JFrame} (hg : g.method = m) (hsize : g.locals.size = c.maxLocals) {a : Addr} {argsL rest : List Value} (hlen : ∀ sig, parseMethodDescriptor y.desc = some sig → argsL.length = sig.parameters.length)
    (hstack : g.stack = argsL.reverse ++ .ref a :: rest) (hW : 2 * g.monitorRoom + (rest.map fun v => v.category).sum ≤ W9) (hdg : decode c.code g.pc = .ok (.invokespecial index, 3))
    (hpre : ∀ vm₁, s.WarmedH vm₁ → Pre ⟨T.setVm vm₁, locs, cells, slots⟩ (Value.ref a :: argsL).toArray) :
    (∃ (v : Option Value) (vm₁ : Vm) (B : Pt), s.WarmedH vm₁ ∧ Stand p l e R s m args below meth c B.U B.locs B.cells B.slots ∧ Post ⟨T.setVm vm₁, locs, cells, slots⟩ (Value.ref a :: argsL).toArray v B ∧
      ∀ target, Steps p.tables e below (B.U.setTop { g with pc := g.pc + 3, stack := v.toList ++ rest }) target → Steps p.tables e below (T.setTop g) target) ∨
    (∃ (q : Addr) (vm₁ : Vm) (B : Pt), s.WarmedH vm₁ ∧ Stand p l e R s m args below meth c B.U B.locs B.cells B.slots ∧ PostX ⟨T.setVm vm₁, locs, cells, slots⟩ (Value.ref a :: argsL).toArray q B ∧
      Steps p.tables e below (T.setTop g) ((B.U.setTop { g with stack := rest }).pushFrame (.throwing q))) := by
  subst hg
  have hpl : e.platform.magicAccessors = ({} : Platform).magicAccessors := by rw [X.admits.platform]
  obtain ⟨mk, methM, cM, kP, vm₁, hnamed, hmethM, hcodeM, -, hlocalsM, -, hkP, -, hW₁, hstep₁⟩ := Steps.initColdArgs (e := e) X.here hexec X.warmed hpl hown hy1 hy hlink hinst hcode (f := g) rfl hlen hstack hdg
  have X₁ := X.noted hW₁
  rcases hK g.method meth c ⟨T.setVm vm₁, locs, cells, slots⟩ { g with stack := rest } (.invokespecial index) mk (Value.ref a :: argsL).toArray X₁ rfl hsize hdg hW (X₁.named hnamed) (hpre vm₁ X₁.warmed) with ⟨v, B, X', hpost, hsteps⟩ | ⟨q, B, X', hpost, hsteps⟩
  · exact Or.inl ⟨v, vm₁, B, X₁.warmed, X', hpost, fun target h => hstep₁ _ fun acts => by rw [doInvoke_state]; exact hsteps.trans h⟩
  · exact Or.inr ⟨q, vm₁, B, X₁.warmed, X', hpost, hstep₁ _ fun acts => by rw [doInvoke_state]; exact hsteps⟩
end VXIA
section VXIB
variable {p : Program} {l : Launch} {e : Env} {R : Room} {s : State} {m : MethodId} {args : Array Value} {below : List Frame} {meth : Method} {c : Code} {H : Heap} {locs : List Loc} {cells slots : Nat}
variable {y : MethodName} {bytes cc : ByteArray} {maxL nL mc ms n index : Nat} {ret : Option FieldType} {ws : List Cond} {rm : Room} {Pc : Array Value → State → Prop} {Qc : Array Value → State → Outcome → State → Prop} {XC : String → State → State → Prop} {free : Addr → Prop} {Ts : List Cond} {own C : String} {b : Addr} {As rest : List Value} {g : JFrame}
theorem vx_runI (S : CallFix p m c cc nL s args Ts own) (hM : vx_Met l y ws rm Pc Qc XC mc ms free) (cw : CallB R s args own index y bytes maxL none ws rm mc ms n ∧ y.name = "<init>" ∧ (Cond.instanceMethod y).before args s = true) (hp : PreS s H Pc (.ref b :: As))
    (hg : g.method = m) (hn : As.length = n) (hsize : g.locals.size = nL) (hstack : g.stack = As.reverse ++ .ref b :: rest) (hW : 2 * g.monitorRoom + (rest.map fun v => v.category).sum ≤ 8) (hdg : decode cc g.pc = .ok (.invokespecial index, 3)) (hf : cells + mc ≤ R.cells ∧ slots + ms ≤ R.slots) :
    vx_Run p l e R s m args below meth c H locs cells slots mc ms g rest (Qc (Value.ref b :: As).toArray) XC free := by
  have hK : vx_Back l R p e below s args y 3 8 (PreOf R mc ms Pc) (PostOf Qc mc ms free) (vx_Post XC mc ms free) := vx_callBack cw.1 hM hp.1
  obtain ⟨⟨-, -, -, -, -, -, hcode, -, hy, hlen, hl⟩, hy1, hin⟩ := cw
  obtain ⟨hx, hb, hml, ho, -⟩ := S
  have hPc := hp.2
  intro T hT X
  rcases vx_callI X hx (bytes := bytes) (maxL := maxL) ho hy1 hl hin hcode hy hK hg (hsize.trans hml.symm) (a := b) (argsL := As) (rest := rest) (fun sig h => hn.trans (hlen sig h)) hstack hW (by rw [hb]; exact hdg)
    (fun vm₁ hW₁ => ⟨hf.1, hf.2, hPc (T.setVm vm₁) hT hW₁⟩) with ⟨v, vm₁, ⟨U', l2, c2, s2⟩, hW₁, X', ⟨g', mk, t, L, e1, e2, hq, h1, hL, h2, h3⟩, st⟩ | ⟨q, vm₁, ⟨U', l2, c2, s2⟩, hW₁, X', ⟨g', mk, t, L, E, ce, e1, e2, hq, hce, hcv, hcl, h1, hL, h2, h3⟩, st⟩
  · dsimp only [Pt.U, Pt.locs, Pt.cells, Pt.slots] at X' e1 e2 h1 h2 h3 st
    subst h1; subst h2; subst h3
    exact Or.inl ⟨v, (T.setVm vm₁).calling g' mk (Value.ref b :: As).toArray, t, U', L, hT, X', hL, e1, e2, hq, st⟩
  · dsimp only [Pt.U, Pt.locs, Pt.cells, Pt.slots] at X' e1 e2 h1 h2 h3 st hcl
    subst h1; subst h2; subst h3
    exact Or.inr ⟨q, (T.setVm vm₁).calling g' mk (Value.ref b :: As).toArray, t, U', L, E, ce, hT, X', hL, e1, e2, hq, hce, hcv, vx_cls hW₁ hcl, st⟩
end VXIB
/-! ===== END ===== -/
/-! ===== BEGIN a private constructor of a nest mate that throws ===== -/
section VXIC
variable {p : Program} {l : Launch} {e : Env} {R : Room} {s : State} {m : MethodId} {args : Array Value} {below : List Frame} {meth : Method} {c : Code} {T : State} {locs : List Loc} {cells slots : Nat}
theorem vx_callIN (X : Stand p l e R s m args below meth c T locs cells slots) (hexec : p.tables.exec = Jvm.exec) {own : String} {index : Nat} {host : String} {y : MethodName} {bytes : ByteArray} {maxL : Nat}
    (hown : s.vm.findClass own = some m.cls) (hy1 : y.name = "<init>") (hlink : (Cond.methodLinkNest own index y host).before args s = true) (hinst : (Cond.instanceMethod y).before args s = true)
    (hcode : (Cond.code y bytes maxL none).before args s = true) (hy : y.cls ≠ "java/lang/invoke/MethodHandle" ∧ y.cls ≠ "java/lang/invoke/VarHandle")
    {W9 : Nat} {Pre : Pt → Array Value → Prop} {Post : Pt → Array Value → Option Value → Pt → Prop} {PostX : Pt → Array Value → Addr → Pt → Prop} (hK : vx_Back l R p e below s args y 3 W9 Pre Post PostX)
    {g : JFrame} (hg : g.method = m) (hsize : g.locals.size = c.maxLocals) {a : Addr} {argsL rest : List Value} (hlen : ∀ sig, parseMethodDescriptor y.desc = some sig → argsL.length = sig.parameters.length)
    (hstack : g.stack = argsL.reverse ++ .ref a :: rest) (hW : 2 * g.monitorRoom + (rest.map fun v => v.category).sum ≤ W9) (hdg : decode c.code g.pc = .ok (.invokespecial index, 3))
    (hpre : ∀ vm₁, s.WarmedH vm₁ → Pre ⟨T.setVm vm₁, locs, cells, slots⟩ (Value.ref a :: argsL).toArray) :
    (∃ (v : Option Value) (vm₁ : Vm) (B : Pt), s.WarmedH vm₁ ∧ Stand p l e R s m args below meth c B.U B.locs B.cells B.slots ∧ Post ⟨T.setVm vm₁, locs, cells, slots⟩ (Value.ref a :: argsL).toArray v B ∧
      ∀ target, Steps p.tables e below (B.U.setTop { g with pc := g.pc + 3, stack := v.toList ++ rest }) target → Steps p.tables e below (T.setTop g) target) ∨
    (∃ (q : Addr) (vm₁ : Vm) (B : Pt), s.WarmedH vm₁ ∧ Stand p l e R s m args below meth c B.U B.locs B.cells B.slots ∧ PostX ⟨T.setVm vm₁, locs, cells, slots⟩ (Value.ref a :: argsL).toArray q B ∧
      Steps p.tables e below (T.setTop g) ((B.U.setTop { g with stack := rest }).pushFrame (.throwing q))) := by
  subst hg
  have hpl : e.platform.magicAccessors = ({} : Platform).magicAccessors := by rw [X.admits.platform]
  obtain ⟨mk, methM, cM, kP, vm₁, hnamed, hmethM, hcodeM, -, hlocalsM, -, hkP, -, hW₁, hstep₁⟩ := Steps.initColdArgsNest (e := e) X.here hexec X.warmed hpl hown hy1 hy hlink hinst hcode (f := g) rfl hlen hstack hdg
  have X₁ := X.noted hW₁
  rcases hK g.method meth c ⟨T.setVm vm₁, locs, cells, slots⟩ { g with stack := rest } (.invokespecial index) mk (Value.ref a :: argsL).toArray X₁ rfl hsize hdg hW (X₁.named hnamed) (hpre vm₁ X₁.warmed) with ⟨v, B, X', hpost, hsteps⟩ | ⟨q, B, X', hpost, hsteps⟩
  · exact Or.inl ⟨v, vm₁, B, X₁.warmed, X', hpost, fun target h => hstep₁ _ fun acts => by rw [doInvoke_state]; exact hsteps.trans h⟩
  · exact Or.inr ⟨q, vm₁, B, X₁.warmed, X', hpost, hstep₁ _ fun acts => by rw [doInvoke_state]; exact hsteps⟩
end VXIC
section VXID
variable {p : Program} {l : Launch} {e : Env} {R : Room} {s : State} {m : MethodId} {args : Array Value} {below : List Frame} {meth : Method} {c : Code} {H : Heap} {locs : List Loc} {cells slots : Nat}
theorem vx_runIN {y : MethodName} {bytes cc : ByteArray} {maxL nL mc ms n index : Nat} {ws : List Cond} {rm : Room} {Pc : Array Value → State → Prop} {Qc : Array Value → State → Outcome → State → Prop} {XC : String → State → State → Prop} {free : Addr → Prop} {Ts : List Cond} {own host : String} {b : Addr} {As rest : List Value} {g : JFrame}
    (S : CallFix p m c cc nL s args Ts own) (hM : vx_Met l y ws rm Pc Qc XC mc ms free) (cw : va_CN R s args own index y host bytes maxL none ws rm mc ms n ∧ y.name = "<init>" ∧ (Cond.instanceMethod y).before args s = true) (hp : PreS s H Pc (.ref b :: As))
    (hg : g.method = m) (hn : As.length = n) (hsize : g.locals.size = nL) (hstack : g.stack = As.reverse ++ .ref b :: rest) (hW : 2 * g.monitorRoom + (rest.map fun v => v.category).sum ≤ 8) (hdg : decode cc g.pc = .ok (.invokespecial index, 3)) (hf : cells + mc ≤ R.cells ∧ slots + ms ≤ R.slots) :
    vx_Run p l e R s m args below meth c H locs cells slots mc ms g rest (Qc (Value.ref b :: As).toArray) XC free := by
  obtain ⟨⟨⟨hrc, hrs, hfr, hlo, hws, hcw⟩, hcode, hini, hy, hlen, hl⟩, hx1, hx2⟩ := cw
  have hK : vx_Back l R p e below s args y 3 8 (PreOf R mc ms Pc) (PostOf Qc mc ms free) (vx_Post XC mc ms free) := vx_back (bytes := bytes) (maxL := maxL) (ret := none) hM hp.1 hrc hrs hfr hlo hws hcw (fun a' U hW => word_at hW (Or.inl (by first | rfl | simp [Cond.onTables, Cond.keeps, Cond.steady])) hini)
  obtain ⟨hx, hb, hml, ho, -⟩ := S
  have hPc := hp.2
  intro T hT X
  rcases vx_callIN X hx (bytes := bytes) (maxL := maxL) ho hx1 hl hx2 hcode hy hK hg (hsize.trans hml.symm) (a := b) (argsL := As) (rest := rest) (fun sig h => hn.trans (hlen sig h)) hstack hW (by rw [hb]; exact hdg)
    (fun vm₁ hW₁ => ⟨hf.1, hf.2, hPc (T.setVm vm₁) hT hW₁⟩) with ⟨v, vm₁, ⟨U', l2, c2, s2⟩, hW₁, X', ⟨g', mk, t, L, e1, e2, hq, h1, hL, h2, h3⟩, st⟩ | ⟨q, vm₁, ⟨U', l2, c2, s2⟩, hW₁, X', ⟨g', mk, t, L, E, ce, e1, e2, hq, hce, hcv, hcl, h1, hL, h2, h3⟩, st⟩
  · dsimp only [Pt.U, Pt.locs, Pt.cells, Pt.slots] at X' e1 e2 h1 h2 h3 st
    subst h1; subst h2; subst h3
    exact Or.inl ⟨v, (T.setVm vm₁).calling g' mk (Value.ref b :: As).toArray, t, U', L, hT, X', hL, e1, e2, hq, st⟩
  · dsimp only [Pt.U, Pt.locs, Pt.cells, Pt.slots] at X' e1 e2 h1 h2 h3 st hcl
    subst h1; subst h2; subst h3
    exact Or.inr ⟨q, (T.setVm vm₁).calling g' mk (Value.ref b :: As).toArray, t, U', L, E, ce, hT, X', hL, e1, e2, hq, hce, hcv, vx_cls hW₁ hcl, st⟩
end VXID
/-! ===== END ===== -/
/-! ===== BEGIN a method of a class above, found by the receiver, that may throw (follows va_callVU, va_runU of this kit) ===== -/
section
variable {p : Program} {l : Launch} {e : Env} {R : Room} {s : State} {m : MethodId} {args : Array Value} {below : List Frame} {meth : Method} {c : Code} {H : Heap} {locs : List Loc} {cells slots : Nat}
theorem vx_callVU {T : State} {locs : List Loc} {cells slots : Nat} (X : Stand p l e R s m args below meth c T locs cells slots) (hexec : p.tables.exec = Jvm.exec) {own C owner : String} {index : Nat} {x y : MethodName} {bytes : ByteArray} {maxL : Nat} {ret : Option FieldType}
    (hown : s.vm.findClass own = some m.cls) (hlink : (Cond.methodLink own index x).before args s = true) (hsame : (Cond.sameMethod x.cls owner x.name x.desc).before args s = true)
    (hd0 : va_Decl s ⟨owner, x.name, x.desc⟩) (howner : owner ≠ "java/lang/invoke/MethodHandle" ∧ owner ≠ "java/lang/invoke/VarHandle")
    (hsel : (Cond.selects C x y).before args s = true) (hinst : (Cond.instanceMethod y).before args s = true) (hcode : (Cond.code y bytes maxL ret).before args s = true)
    {W : Nat} {Pre : Pt → Array Value → Prop} {Post : Pt → Array Value → Option Value → Pt → Prop} {PostX : Pt → Array Value → Addr → Pt → Prop} (hK : vx_Back l R p e below s args y 3 W Pre Post PostX)
    {b : Addr} {cellB : Cell} (hcell : T.heap[b]? = some cellB) (hobj : cellB.vm.isStatics = false) (hcls : s.vm.findClass C = some cellB.cls)
    {g : JFrame} (hg : g.method = m) (hsize : g.locals.size = c.maxLocals) {argsL rest : List Value} (hlen : ∀ sig, parseMethodDescriptor x.desc = some sig → argsL.length = sig.parameters.length)
    (hstack : g.stack = argsL.reverse ++ .ref b :: rest) (hW : 2 * g.monitorRoom + (rest.map fun v => v.category).sum ≤ W) (hdg : decode c.code g.pc = .ok (.invokevirtual index, 3))
    (hpre : ∀ vm₁, s.WarmedH vm₁ → Pre ⟨T.setVm vm₁, locs, cells, slots⟩ (Value.ref b :: argsL).toArray) :
    (∃ (v : Option Value) (vm₁ : Vm) (B : Pt), s.WarmedH vm₁ ∧ Stand p l e R s m args below meth c B.U B.locs B.cells B.slots ∧ Post ⟨T.setVm vm₁, locs, cells, slots⟩ (Value.ref b :: argsL).toArray v B ∧
      ∀ target, Steps p.tables e below (B.U.setTop { g with pc := g.pc + 3, stack := v.toList ++ rest }) target → Steps p.tables e below (T.setTop g) target) ∨
    (∃ (q : Addr) (vm₁ : Vm) (B : Pt), s.WarmedH vm₁ ∧ Stand p l e R s m args below meth c B.U B.locs B.cells B.slots ∧ PostX ⟨T.setVm vm₁, locs, cells, slots⟩ (Value.ref b :: argsL).toArray q B ∧
      Steps p.tables e below (T.setTop g) ((B.U.setTop { g with stack := rest }).pushFrame (.throwing q))) := by
  obtain ⟨r0, r, hn, hrm, hstR, hsigR⟩ := hd0
  obtain ⟨cn, ck, r1, hcn, hck, hni, hf, hn1⟩ := Cond.sameMethod_found hsame
  cases hn.symm.trans hn1
  obtain ⟨mk, methM, hnamed, hmethM, -, habM⟩ := Cond.instanceMethod_spec hinst
  obtain ⟨c2, r2, m2, q1, q2, q3, q4, kP, hkP, hkPi⟩ := Cond.selects_spec hsel
  cases hcls.symm.trans q1
  cases hf.symm.trans q2
  cases hnamed.symm.trans q3
  have hselP : selectMethod e.platform s.vm cellB.cls r0 = .method mk := by rw [Launch.admits_selectMethod X.admits]; exact q4
  obtain ⟨vm₁, X₁, hstep₁⟩ := X.invokevirtualUp hexec hown hlink hsame howner hn hrm hstR (a := b) (cell := cellB) hcell
    (fun z h => by rw [h] at hobj; cases hobj) hselP hmethM habM hkP hkPi (g := g) hg (argsL := argsL) (rest := rest) (hlen _ hsigR) hstack hdg
  rcases hK m meth c ⟨T.setVm vm₁, locs, cells, slots⟩ { g with stack := rest } (.invokevirtual index) mk (Value.ref b :: argsL).toArray X₁ hg hsize hdg hW (X₁.named hnamed) (hpre vm₁ X₁.warmed) with ⟨v, B, X', hpost, hsteps⟩ | ⟨q, B, X', hpost, hsteps⟩
  · exact Or.inl ⟨v, vm₁, B, X₁.warmed, X', hpost, fun target h => hstep₁ _ fun acts => by rw [doInvoke_state]; exact hsteps.trans h⟩
  · exact Or.inr ⟨q, vm₁, B, X₁.warmed, X', hpost, hstep₁ _ fun acts => by rw [doInvoke_state]; exact hsteps⟩
theorem vx_runU {x y : MethodName} {bytes cc : ByteArray} {maxL nL mc ms n index : Nat} {ret : Option FieldType} {ws : List Cond} {rm : Room} {Pc : Array Value → State → Prop} {Qc : Array Value → State → Outcome → State → Prop} {XC : String → State → State → Prop} {free : Addr → Prop} {Ts : List Cond} {own C owner : String} {b : Addr} {As rest : List Value} {g : JFrame}
    (S : CallFix p m c cc nL s args Ts own) (hM : vx_Met l y ws rm Pc Qc XC mc ms free) (cw : va_CU R s args own C owner index x y bytes maxL ret ws rm mc ms n) (hp : PreV s H C b Pc As)
    (hg : g.method = m) (hn : As.length = n) (hsize : g.locals.size = nL) (hstack : g.stack = As.reverse ++ .ref b :: rest) (hW : 2 * g.monitorRoom + (rest.map fun v => v.category).sum ≤ 8) (hdg : decode cc g.pc = .ok (.invokevirtual index, 3)) (hf : cells + mc ≤ R.cells ∧ slots + ms ≤ R.slots) :
    vx_Run p l e R s m args below meth c H locs cells slots mc ms g rest (Qc (Value.ref b :: As).toArray) XC free := by
  obtain ⟨hrc, hrs, hfr, hlo, hws, hcw⟩ := cw.back
  have hini := cw.init
  have hK : vx_Back l R p e below s args y 3 8 (PreOf R mc ms Pc) (PostOf Qc mc ms free) (vx_Post XC mc ms free) := vx_back (bytes := bytes) (maxL := maxL) (ret := ret) hM hp.1 hrc hrs hfr hlo hws hcw (fun a' U hW => word_at hW (Or.inl (by first | rfl | simp [Cond.onTables, Cond.keeps, Cond.steady])) hini)
  obtain ⟨hx, hb, hml, ho, -⟩ := S
  obtain ⟨-, ⟨cellB, hcB, hoB, hclB⟩, hPc⟩ := hp
  intro T hT X
  rcases vx_callVU X hx (C := C) (owner := owner) (bytes := bytes) (maxL := maxL) (ret := ret) ho cw.link cw.same cw.decl cw.notMH cw.sel cw.inst cw.code hK (by rw [hT]; exact hcB) hoB hclB hg (hsize.trans hml.symm) (argsL := As) (rest := rest) (fun sig h => hn.trans (cw.len sig h)) hstack hW (by rw [hb]; exact hdg)
    (fun vm₁ hW₁ => ⟨hf.1, hf.2, hPc (T.setVm vm₁) hT hW₁⟩) with ⟨v, vm₁, ⟨U', l2, c2, s2⟩, hW₁, X', ⟨g', mk, t, L, e1, e2, hq, h1, hL, h2, h3⟩, st⟩ | ⟨q, vm₁, ⟨U', l2, c2, s2⟩, hW₁, X', ⟨g', mk, t, L, E, ce, e1, e2, hq, hce, hcv, hcl, h1, hL, h2, h3⟩, st⟩
  · dsimp only [Pt.U, Pt.locs, Pt.cells, Pt.slots] at X' e1 e2 h1 h2 h3 st
    subst h1; subst h2; subst h3
    exact Or.inl ⟨v, (T.setVm vm₁).calling g' mk (Value.ref b :: As).toArray, t, U', L, hT, X', hL, e1, e2, hq, st⟩
  · dsimp only [Pt.U, Pt.locs, Pt.cells, Pt.slots] at X' e1 e2 h1 h2 h3 st hcl
    subst h1; subst h2; subst h3
    exact Or.inr ⟨q, (T.setVm vm₁).calling g' mk (Value.ref b :: As).toArray, t, U', L, E, ce, hT, X', hL, e1, e2, hq, hce, hcv, vx_cls hW₁ hcl, st⟩
end
/-! ===== END ===== -/
/-! ===== BEGIN super.m(..) that may throw (follows va_callSU, va_runSU) ===== -/
section
variable {p : Program} {l : Launch} {e : Env} {R : Room} {s : State} {m : MethodId} {args : Array Value} {below : List Frame} {meth : Method} {c : Code} {H : Heap} {locs : List Loc} {cells slots : Nat}
theorem vx_callSU {T : State} {locs : List Loc} {cells slots : Nat} (X : Stand p l e R s m args below meth c T locs cells slots) (hexec : p.tables.exec = Jvm.exec) {own : String} {index : Nat} {y : MethodName} {bytes : ByteArray} {maxL : Nat} {ret : Option FieldType}
    (hown : s.vm.findClass own = some m.cls) (hlink : (Cond.methodLink own index y).before args s = true) (hsame : (Cond.sameMethod y.cls y.cls y.name y.desc).before args s = true) (hsup : (Cond.superclass own y.cls).before args s = true)
    (hinst : (Cond.instanceMethod y).before args s = true) (hcode : (Cond.code y bytes maxL ret).before args s = true) (hno : y.name ≠ "<init>")
    {W : Nat} {Pre : Pt → Array Value → Prop} {Post : Pt → Array Value → Option Value → Pt → Prop} {PostX : Pt → Array Value → Addr → Pt → Prop} (hK : vx_Back l R p e below s args y 3 W Pre Post PostX)
    {b : Addr} {cellB : Cell} {kB : Class} (hcell : T.heap[b]? = some cellB) (hobj : cellB.vm.isStatics = false) (hkB : s.vm.classes[cellB.cls]? = some kB)
    {g : JFrame} (hg : g.method = m) (hsize : g.locals.size = c.maxLocals) {argsL rest : List Value} (hlen : ∀ sig, parseMethodDescriptor y.desc = some sig → argsL.length = sig.parameters.length)
    (hstack : g.stack = argsL.reverse ++ .ref b :: rest) (hW : 2 * g.monitorRoom + (rest.map fun v => v.category).sum ≤ W) (hdg : decode c.code g.pc = .ok (.invokespecial index, 3))
    (hpre : ∀ vm₁, s.WarmedH vm₁ → Pre ⟨T.setVm vm₁, locs, cells, slots⟩ (Value.ref b :: argsL).toArray) :
    (∃ (v : Option Value) (vm₁ : Vm) (B : Pt), s.WarmedH vm₁ ∧ Stand p l e R s m args below meth c B.U B.locs B.cells B.slots ∧ Post ⟨T.setVm vm₁, locs, cells, slots⟩ (Value.ref b :: argsL).toArray v B ∧
      ∀ target, Steps p.tables e below (B.U.setTop { g with pc := g.pc + 3, stack := v.toList ++ rest }) target → Steps p.tables e below (T.setTop g) target) ∨
    (∃ (q : Addr) (vm₁ : Vm) (B : Pt), s.WarmedH vm₁ ∧ Stand p l e R s m args below meth c B.U B.locs B.cells B.slots ∧ PostX ⟨T.setVm vm₁, locs, cells, slots⟩ (Value.ref b :: argsL).toArray q B ∧
      Steps p.tables e below (T.setTop g) ((B.U.setTop { g with stack := rest }).pushFrame (.throwing q))) := by
  obtain ⟨mk, methM, hnamed, hmethM, hstM, habM⟩ := Cond.instanceMethod_spec hinst
  obtain ⟨methM', cM, hmethM', -, -, -, -, -, -, hsigM⟩ := Cond.code_spec hnamed hcode
  cases hmethM.symm.trans hmethM'
  obtain ⟨ps, dk, kp, hps, hdk, hkp, hsuper, -, -, hnid⟩ := Cond.superclass_spec hown hsup
  have hn : s.methodNamed? ⟨y.cls, y.name, y.desc⟩ = some mk := hnamed
  have hpm : ps = mk.cls := Option.some.inj (hps.symm.trans (findClass_of_methodNamed hnamed))
  have hsub : s.vm.isSubclass ps mk.cls = true := by rw [hpm]; simp [Vm.isSubclass, Vm.isSubclassAux]
  obtain ⟨vm₁, X₁, hstep₁⟩ := X.invokespecialUp hexec hown hlink hsame hn hmethM hstM habM hno hdk hnid hps hsuper hsub (a := b) (cell := cellB) hcell
    (fun z h => by rw [h] at hobj; cases hobj) hkB (g := g) hg (argsL := argsL) (rest := rest) (hlen _ hsigM) hstack hdg
  rcases hK m meth c ⟨T.setVm vm₁, locs, cells, slots⟩ { g with stack := rest } (.invokespecial index) mk (Value.ref b :: argsL).toArray X₁ hg hsize hdg hW (X₁.named hnamed) (hpre vm₁ X₁.warmed) with ⟨v, B, X', hpost, hsteps⟩ | ⟨q, B, X', hpost, hsteps⟩
  · exact Or.inl ⟨v, vm₁, B, X₁.warmed, X', hpost, fun target h => hstep₁ _ (by rw [doInvoke_state]; exact hsteps.trans h)⟩
  · exact Or.inr ⟨q, vm₁, B, X₁.warmed, X', hpost, hstep₁ _ (by rw [doInvoke_state]; exact hsteps)⟩
theorem vx_runSU {y : MethodName} {bytes cc : ByteArray} {maxL nL mc ms n index : Nat} {ret : Option FieldType} {ws : List Cond} {rm : Room} {Pc : Array Value → State → Prop} {Qc : Array Value → State → Outcome → State → Prop} {XC : String → State → State → Prop} {free : Addr → Prop} {Ts : List Cond} {own C : String} {cC : ClassId} {b : Addr} {As rest : List Value} {g : JFrame}
    (hat : ClassAt s C cC) (S : CallFix p m c cc nL s args Ts own) (hM : vx_Met l y ws rm Pc Qc XC mc ms free) (cw : va_CS R s args own index y bytes maxL ret ws rm mc ms n) (hp : PreV s H C b Pc As)
    (hg : g.method = m) (hn : As.length = n) (hsize : g.locals.size = nL) (hstack : g.stack = As.reverse ++ .ref b :: rest) (hW : 2 * g.monitorRoom + (rest.map fun v => v.category).sum ≤ 8) (hdg : decode cc g.pc = .ok (.invokespecial index, 3)) (hf : cells + mc ≤ R.cells ∧ slots + ms ≤ R.slots) :
    vx_Run p l e R s m args below meth c H locs cells slots mc ms g rest (Qc (Value.ref b :: As).toArray) XC free := by
  obtain ⟨⟨hrc, hrs, hfr, hlo, hws, hcw⟩, hl1, hl2, hl3, hl4, hini, hcode, hno, hlen⟩ := cw
  have hK : vx_Back l R p e below s args y 3 8 (PreOf R mc ms Pc) (PostOf Qc mc ms free) (vx_Post XC mc ms free) := vx_back (bytes := bytes) (maxL := maxL) (ret := ret) hM hp.1 hrc hrs hfr hlo hws hcw (fun a' U hW => word_at hW (Or.inl (by first | rfl | simp [Cond.onTables, Cond.keeps, Cond.steady])) hini)
  obtain ⟨hx, hb, hml, ho, -⟩ := S
  obtain ⟨-, ⟨cellB, hcB, hoB, hclB⟩, hPc⟩ := hp
  obtain ⟨hfc, kB, hkB, -⟩ := hat
  cases hfc.symm.trans hclB
  intro T hT X
  rcases vx_callSU X hx (bytes := bytes) (maxL := maxL) (ret := ret) ho hl1 hl2 hl3 hl4 hcode hno hK (by rw [hT]; exact hcB) hoB hkB hg (hsize.trans hml.symm) (argsL := As) (rest := rest) (fun sig h => hn.trans (hlen sig h)) hstack hW (by rw [hb]; exact hdg)
    (fun vm₁ hW₁ => ⟨hf.1, hf.2, hPc (T.setVm vm₁) hT hW₁⟩) with ⟨v, vm₁, ⟨U', l2, c2, s2⟩, hW₁, X', ⟨g', mk, t, L, e1, e2, hq, h1, hL, h2, h3⟩, st⟩ | ⟨q, vm₁, ⟨U', l2, c2, s2⟩, hW₁, X', ⟨g', mk, t, L, E, ce, e1, e2, hq, hce, hcv, hcl, h1, hL, h2, h3⟩, st⟩
  · dsimp only [Pt.U, Pt.locs, Pt.cells, Pt.slots] at X' e1 e2 h1 h2 h3 st
    subst h1; subst h2; subst h3
    exact Or.inl ⟨v, (T.setVm vm₁).calling g' mk (Value.ref b :: As).toArray, t, U', L, hT, X', hL, e1, e2, hq, st⟩
  · dsimp only [Pt.U, Pt.locs, Pt.cells, Pt.slots] at X' e1 e2 h1 h2 h3 st hcl
    subst h1; subst h2; subst h3
    exact Or.inr ⟨q, (T.setVm vm₁).calling g' mk (Value.ref b :: As).toArray, t, U', L, E, ce, hT, X', hL, e1, e2, hq, hce, hcv, vx_cls hW₁ hcl, st⟩
end
/-! ===== END ===== -/
/-! ===== BEGIN a private method of a nest mate that may throw (follows va_callVN, va_callSN, va_runVN, va_runSN) ===== -/
section
variable {p : Program} {l : Launch} {e : Env} {R : Room} {s : State} {m : MethodId} {args : Array Value} {below : List Frame} {meth : Method} {c : Code} {H : Heap} {locs : List Loc} {cells slots : Nat}
variable {T : State}
theorem vx_callVN (X : Stand p l e R s m args below meth c T locs cells slots) (hexec : p.tables.exec = Jvm.exec) {own C : String} {index : Nat} {host : String} {y : MethodName} {bytes : ByteArray} {maxL : Nat} {ret : Option FieldType}
    (hown : s.vm.findClass own = some m.cls) (hlink : (Cond.methodLinkNest own index y host).before args s = true) (hinst : (Cond.instanceMethod y).before args s = true) (hsel : (Cond.selects C y y).before args s = true)
    (hcode : (Cond.code y bytes maxL ret).before args s = true) (hy : y.cls ≠ "java/lang/invoke/MethodHandle" ∧ y.cls ≠ "java/lang/invoke/VarHandle")
    {W : Nat} {Pre : Pt → Array Value → Prop} {Post : Pt → Array Value → Option Value → Pt → Prop} {PostX : Pt → Array Value → Addr → Pt → Prop} (hK : vx_Back l R p e below s args y 3 W Pre Post PostX)
    {b : Addr} {cellB : Cell} (hcell : T.heap[b]? = some cellB) (hobj : cellB.vm.isStatics = false) (hcls : s.vm.findClass C = some cellB.cls)
    {g : JFrame} (hg : g.method = m) (hsize : g.locals.size = c.maxLocals) {argsL rest : List Value} (hlen : ∀ sig, parseMethodDescriptor y.desc = some sig → argsL.length = sig.parameters.length)
    (hstack : g.stack = argsL.reverse ++ .ref b :: rest) (hW : 2 * g.monitorRoom + (rest.map fun v => v.category).sum ≤ W) (hdg : decode c.code g.pc = .ok (.invokevirtual index, 3))
    (hpre : ∀ vm₁, s.WarmedH vm₁ → Pre ⟨T.setVm vm₁, locs, cells, slots⟩ (Value.ref b :: argsL).toArray) :
    (∃ (v : Option Value) (vm₁ : Vm) (B : Pt), s.WarmedH vm₁ ∧ Stand p l e R s m args below meth c B.U B.locs B.cells B.slots ∧ Post ⟨T.setVm vm₁, locs, cells, slots⟩ (Value.ref b :: argsL).toArray v B ∧
      ∀ target, Steps p.tables e below (B.U.setTop { g with pc := g.pc + 3, stack := v.toList ++ rest }) target → Steps p.tables e below (T.setTop g) target) ∨
    (∃ (q : Addr) (vm₁ : Vm) (B : Pt), s.WarmedH vm₁ ∧ Stand p l e R s m args below meth c B.U B.locs B.cells B.slots ∧ PostX ⟨T.setVm vm₁, locs, cells, slots⟩ (Value.ref b :: argsL).toArray q B ∧
      Steps p.tables e below (T.setTop g) ((B.U.setTop { g with stack := rest }).pushFrame (.throwing q))) := by
  obtain ⟨mk, methM, hnamed, hmethM, hstM, habM⟩ := Cond.instanceMethod_spec hinst
  obtain ⟨methM', cM, hmethM', -, -, -, -, -, -, hsigM⟩ := Cond.code_spec hnamed hcode
  cases hmethM.symm.trans hmethM'
  obtain ⟨c2, r2, m2, q1, q2, q3, q4, kP, hkP, hkPi⟩ := Cond.selects_spec hsel
  cases hcls.symm.trans q1
  cases (State.methodFound?_of_named hnamed hy).symm.trans q2
  cases hnamed.symm.trans q3
  have hselP : selectMethod e.platform s.vm cellB.cls mk = .method mk := by rw [Launch.admits_selectMethod X.admits]; exact q4
  obtain ⟨vm₁, X₁, hstep₁⟩ := X.invokevirtualNest hexec hown hlink hnamed hmethM hstM hkP hkPi hy (a := b) (cell := cellB) hcell
    (fun z h => by rw [h] at hobj; cases hobj) hselP hmethM habM hkP hkPi (g := g) hg (argsL := argsL) (rest := rest) (hlen _ hsigM) hstack hdg
  rcases hK m meth c ⟨T.setVm vm₁, locs, cells, slots⟩ { g with stack := rest } (.invokevirtual index) mk (Value.ref b :: argsL).toArray X₁ hg hsize hdg hW (X₁.named hnamed) (hpre vm₁ X₁.warmed) with ⟨v, B, X', hpost, hsteps⟩ | ⟨q, B, X', hpost, hsteps⟩
  · exact Or.inl ⟨v, vm₁, B, X₁.warmed, X', hpost, fun target h => hstep₁ _ fun acts => by rw [doInvoke_state]; exact hsteps.trans h⟩
  · exact Or.inr ⟨q, vm₁, B, X₁.warmed, X', hpost, hstep₁ _ fun acts => by rw [doInvoke_state]; exact hsteps⟩
theorem vx_callSN (X : Stand p l e R s m args below meth c T locs cells slots) (hexec : p.tables.exec = Jvm.exec) {own : String} {index : Nat} {host : String} {y : MethodName} {bytes : ByteArray} {maxL : Nat} {ret : Option FieldType}
    (hown : s.vm.findClass own = some m.cls) (hlink : (Cond.methodLinkNest own index y host).before args s = true) (hstat : (Cond.static y).before args s = true) (hinit : (Cond.initialized y.cls).before args s = true)
    (hcode : (Cond.code y bytes maxL ret).before args s = true) (hy : y.cls ≠ "java/lang/invoke/MethodHandle" ∧ y.cls ≠ "java/lang/invoke/VarHandle")
    {W : Nat} {Pre : Pt → Array Value → Prop} {Post : Pt → Array Value → Option Value → Pt → Prop} {PostX : Pt → Array Value → Addr → Pt → Prop} (hK : vx_Back l R p e below s args y 3 W Pre Post PostX)
    {g : JFrame} (hg : g.method = m) (hsize : g.locals.size = c.maxLocals) {argsL rest : List Value} (hlen : ∀ sig, parseMethodDescriptor y.desc = some sig → argsL.length = sig.parameters.length)
    (hstack : g.stack = argsL.reverse ++ rest) (hW : 2 * g.monitorRoom + (rest.map fun v => v.category).sum ≤ W) (hdg : decode c.code g.pc = .ok (.invokestatic index, 3))
    (hpre : ∀ vm₁, s.WarmedH vm₁ → Pre ⟨T.setVm vm₁, locs, cells, slots⟩ argsL.toArray) :
    (∃ (v : Option Value) (vm₁ : Vm) (B : Pt), s.WarmedH vm₁ ∧ Stand p l e R s m args below meth c B.U B.locs B.cells B.slots ∧ Post ⟨T.setVm vm₁, locs, cells, slots⟩ argsL.toArray v B ∧
      ∀ target, Steps p.tables e below (B.U.setTop { g with pc := g.pc + 3, stack := v.toList ++ rest }) target → Steps p.tables e below (T.setTop g) target) ∨
    (∃ (q : Addr) (vm₁ : Vm) (B : Pt), s.WarmedH vm₁ ∧ Stand p l e R s m args below meth c B.U B.locs B.cells B.slots ∧ PostX ⟨T.setVm vm₁, locs, cells, slots⟩ argsL.toArray q B ∧
      Steps p.tables e below (T.setTop g) ((B.U.setTop { g with stack := rest }).pushFrame (.throwing q))) := by
  obtain ⟨mk, hnamed⟩ := Cond.code_named hcode
  obtain ⟨methM, cM, hmethM, -, -, -, -, -, -, hsigM⟩ := Cond.code_spec hnamed hcode
  have hstatic : methM.isStatic = true := Cond.static_spec hnamed hmethM hstat
  obtain ⟨kP, hkP, -⟩ := className_of_methodNamed hnamed
  have hinitP : kP.init = .initialized := Cond.initialized_spec (findClass_of_methodNamed hnamed) hkP hinit
  obtain ⟨vm₁, X₁, hstep₁⟩ := X.invokestaticNest hexec hown hlink hnamed hmethM hstatic hkP hinitP hy (g := g) hg (argsL := argsL) (rest := rest) (hlen _ hsigM) hstack hdg
  rcases hK m meth c ⟨T.setVm vm₁, locs, cells, slots⟩ { g with stack := rest } (.invokestatic index) mk argsL.toArray X₁ hg hsize hdg hW (X₁.named hnamed) (hpre vm₁ X₁.warmed) with ⟨v, B, X', hpost, hsteps⟩ | ⟨q, B, X', hpost, hsteps⟩
  · exact Or.inl ⟨v, vm₁, B, X₁.warmed, X', hpost, fun target h => hstep₁ _ fun acts => by rw [doInvoke_state]; exact hsteps.trans h⟩
  · exact Or.inr ⟨q, vm₁, B, X₁.warmed, X', hpost, hstep₁ _ fun acts => by rw [doInvoke_state]; exact hsteps⟩
theorem vx_runVN {y : MethodName} {bytes cc : ByteArray} {maxL nL mc ms n index : Nat} {ret : Option FieldType} {ws : List Cond} {rm : Room} {Pc : Array Value → State → Prop} {Qc : Array Value → State → Outcome → State → Prop} {XC : String → State → State → Prop} {free : Addr → Prop} {Ts : List Cond} {own C host : String} {b : Addr} {As rest : List Value} {g : JFrame}
    (S : CallFix p m c cc nL s args Ts own) (hM : vx_Met l y ws rm Pc Qc XC mc ms free) (cw : va_CN R s args own index y host bytes maxL ret ws rm mc ms n ∧ (Cond.instanceMethod y).before args s = true ∧ (Cond.selects C y y).before args s = true) (hp : PreV s H C b Pc As)
    (hg : g.method = m) (hn : As.length = n) (hsize : g.locals.size = nL) (hstack : g.stack = As.reverse ++ .ref b :: rest) (hW : 2 * g.monitorRoom + (rest.map fun v => v.category).sum ≤ 8) (hdg : decode cc g.pc = .ok (.invokevirtual index, 3)) (hf : cells + mc ≤ R.cells ∧ slots + ms ≤ R.slots) :
    vx_Run p l e R s m args below meth c H locs cells slots mc ms g rest (Qc (Value.ref b :: As).toArray) XC free := by
  obtain ⟨⟨⟨hrc, hrs, hfr, hlo, hws, hcw⟩, hcode, hini, hy, hlen, hl⟩, hx1, hx2⟩ := cw
  have hK : vx_Back l R p e below s args y 3 8 (PreOf R mc ms Pc) (PostOf Qc mc ms free) (vx_Post XC mc ms free) := vx_back (bytes := bytes) (maxL := maxL) (ret := ret) hM hp.1 hrc hrs hfr hlo hws hcw (fun a' U hW => word_at hW (Or.inl (by first | rfl | simp [Cond.onTables, Cond.keeps, Cond.steady])) hini)
  obtain ⟨hx, hb, hml, ho, -⟩ := S
  obtain ⟨-, ⟨cellB, hcB, hoB, hclB⟩, hPc⟩ := hp
  intro T hT X
  rcases vx_callVN X hx (C := C) (bytes := bytes) (maxL := maxL) (ret := ret) ho hl hx1 hx2 hcode hy hK (by rw [hT]; exact hcB) hoB hclB hg (hsize.trans hml.symm) (argsL := As) (rest := rest) (fun sig h => hn.trans (hlen sig h)) hstack hW (by rw [hb]; exact hdg)
    (fun vm₁ hW₁ => ⟨hf.1, hf.2, hPc (T.setVm vm₁) hT hW₁⟩) with ⟨v, vm₁, ⟨U', l2, c2, s2⟩, hW₁, X', ⟨g', mk, t, L, e1, e2, hq, h1, hL, h2, h3⟩, st⟩ | ⟨q, vm₁, ⟨U', l2, c2, s2⟩, hW₁, X', ⟨g', mk, t, L, E, ce, e1, e2, hq, hce, hcv, hcl, h1, hL, h2, h3⟩, st⟩
  · dsimp only [Pt.U, Pt.locs, Pt.cells, Pt.slots] at X' e1 e2 h1 h2 h3 st
    subst h1; subst h2; subst h3
    exact Or.inl ⟨v, (T.setVm vm₁).calling g' mk (Value.ref b :: As).toArray, t, U', L, hT, X', hL, e1, e2, hq, st⟩
  · dsimp only [Pt.U, Pt.locs, Pt.cells, Pt.slots] at X' e1 e2 h1 h2 h3 st hcl
    subst h1; subst h2; subst h3
    exact Or.inr ⟨q, (T.setVm vm₁).calling g' mk (Value.ref b :: As).toArray, t, U', L, E, ce, hT, X', hL, e1, e2, hq, hce, hcv, vx_cls hW₁ hcl, st⟩
theorem vx_runSN {y : MethodName} {bytes cc : ByteArray} {maxL nL mc ms n index : Nat} {ret : Option FieldType} {ws : List Cond} {rm : Room} {Pc : Array Value → State → Prop} {Qc : Array Value → State → Outcome → State → Prop} {XC : String → State → State → Prop} {free : Addr → Prop} {Ts : List Cond} {own host : String} {As rest : List Value} {g : JFrame}
    (S : CallFix p m c cc nL s args Ts own) (hM : vx_Met l y ws rm Pc Qc XC mc ms free) (cw : va_CN R s args own index y host bytes maxL ret ws rm mc ms n ∧ (Cond.static y).before args s = true ∧ True) (hp : PreS s H Pc As)
    (hg : g.method = m) (hn : As.length = n) (hsize : g.locals.size = nL) (hstack : g.stack = As.reverse ++ rest) (hW : 2 * g.monitorRoom + (rest.map fun v => v.category).sum ≤ 8) (hdg : decode cc g.pc = .ok (.invokestatic index, 3)) (hf : cells + mc ≤ R.cells ∧ slots + ms ≤ R.slots) :
    vx_Run p l e R s m args below meth c H locs cells slots mc ms g rest (Qc As.toArray) XC free := by
  obtain ⟨⟨⟨hrc, hrs, hfr, hlo, hws, hcw⟩, hcode, hini, hy, hlen, hl⟩, hx1, hx2⟩ := cw
  have hK : vx_Back l R p e below s args y 3 8 (PreOf R mc ms Pc) (PostOf Qc mc ms free) (vx_Post XC mc ms free) := vx_back (bytes := bytes) (maxL := maxL) (ret := ret) hM hp.1 hrc hrs hfr hlo hws hcw (fun a' U hW => word_at hW (Or.inl (by first | rfl | simp [Cond.onTables, Cond.keeps, Cond.steady])) hini)
  obtain ⟨hx, hb, hml, ho, -⟩ := S
  have hPc := hp.2
  intro T hT X
  rcases vx_callSN X hx (bytes := bytes) (maxL := maxL) (ret := ret) ho hl hx1 hini hcode hy hK hg (hsize.trans hml.symm) (argsL := As) (rest := rest) (fun sig h => hn.trans (hlen sig h)) hstack hW (by rw [hb]; exact hdg)
    (fun vm₁ hW₁ => ⟨hf.1, hf.2, hPc (T.setVm vm₁) hT hW₁⟩) with ⟨v, vm₁, ⟨U', l2, c2, s2⟩, hW₁, X', ⟨g', mk, t, L, e1, e2, hq, h1, hL, h2, h3⟩, st⟩ | ⟨q, vm₁, ⟨U', l2, c2, s2⟩, hW₁, X', ⟨g', mk, t, L, E, ce, e1, e2, hq, hce, hcv, hcl, h1, hL, h2, h3⟩, st⟩
  · dsimp only [Pt.U, Pt.locs, Pt.cells, Pt.slots] at X' e1 e2 h1 h2 h3 st
    subst h1; subst h2; subst h3
    exact Or.inl ⟨v, (T.setVm vm₁).calling g' mk As.toArray, t, U', L, hT, X', hL, e1, e2, hq, st⟩
  · dsimp only [Pt.U, Pt.locs, Pt.cells, Pt.slots] at X' e1 e2 h1 h2 h3 st hcl
    subst h1; subst h2; subst h3
    exact Or.inr ⟨q, (T.setVm vm₁).calling g' mk As.toArray, t, U', L, E, ce, hT, X', hL, e1, e2, hq, hce, hcv, vx_cls hW₁ hcl, st⟩
end
/-! ===== END ===== -/
/-! ===== BEGIN calls by an interface of methods that may throw (vx_callIF, vx_runF follow va_callIF, va_runF of this kit) ===== -/
section
variable {p : Program} {l : Launch} {e : Env} {R : Room} {s : State} {m : MethodId} {args : Array Value} {below : List Frame} {meth : Method} {c : Code} {H : Heap} {locs : List Loc} {cells slots : Nat} {Q : State → Prop}
variable {mc ms : Nat} {free : Addr → Prop} {A0 A1 : Nat → Prop} {H0 : Heap} {a : Array Value} {pc : Nat} {ls : Array Slot} {st0 rest : List Value}
def vx_Run5 (p : Program) (l : Launch) (e : Env) (R : Room) (s : State) (m : MethodId) (args : Array Value) (below : List Frame) (meth : Method) (c : Code) (H : Heap) (locs : List Loc) (cells slots mc ms : Nat) (g : JFrame) (rest : List Value) (Qa : State → Outcome → State → Prop) (XC : String → State → State → Prop) (free : Addr → Prop) : Prop :=
  ∀ T : State, T.heap = H → Stand p l e R s m args below meth c T locs cells slots →
    (∃ (v : Option Value) (st₀ t T' : State) (L : List Loc), st₀.heap = H ∧ Stand p l e R s m args below meth c T' (locs ++ L) (cells + mc) (slots + ms) ∧ (∀ q ∈ L, free q.base) ∧ T'.heap = t.heap ∧ T'.vm = t.vm ∧ Qa st₀ (.returned v) t ∧
      Goes p e below T g T' { g with pc := g.pc + 5, stack := v.toList ++ rest }) ∨
    (∃ (q : Addr) (st₀ t T' : State) (L : List Loc) (E : String) (ce : Cell), st₀.heap = H ∧ Stand p l e R s m args below meth c T' (locs ++ L) (cells + mc) (slots + ms) ∧ (∀ z ∈ L, free z.base) ∧ T'.heap = t.heap ∧ T'.vm = t.vm ∧ XC E st₀ t ∧ t.heap[q]? = some ce ∧ ce.vm = .none ∧ s.vm.findClass E = some ce.cls ∧
      Steps p.tables e below (T.setTop g) ((T'.setTop { g with stack := rest }).pushFrame (.throwing q)))
theorem vx_callIF {T : State} (X : Stand p l e R s m args below meth c T locs cells slots) (hexec : p.tables.exec = Jvm.exec) {own C : String} {index count : Nat} {x y : MethodName} {bytes : ByteArray} {maxL : Nat} {ret : Option FieldType}
    (hown : s.vm.findClass own = some m.cls) (hlink : (Cond.methodLink own index x).before args s = true) (hdecl : (Cond.declares x).before args s = true) (hface : (Cond.interfaceMethod x.cls x.cls x.name x.desc).before args s = true)
    (hsel : (Cond.selects C x y).before args s = true) (hinst : (Cond.instanceMethod y).before args s = true) (hpub : (Cond.publicMethod y).before args s = true) (hunh : (Cond.unhidden C x.name x.desc).before args s = true)
    (hcast : (Cond.castable C x.cls).before args s = true) (hcode : (Cond.code y bytes maxL ret).before args s = true) (hx : x.cls ≠ "java/lang/invoke/MethodHandle" ∧ x.cls ≠ "java/lang/invoke/VarHandle")
    {W9 : Nat} {Pre : Pt → Array Value → Prop} {Post : Pt → Array Value → Option Value → Pt → Prop} {PostX : Pt → Array Value → Addr → Pt → Prop} (hK : vx_Back l R p e below s args y 5 W9 Pre Post PostX)
    {b : Addr} {cellB : Cell} {kB : Class} (hcell : T.heap[b]? = some cellB) (hobj : cellB.vm.isStatics = false) (hcls : s.vm.findClass C = some cellB.cls) (hkB : s.vm.classes[cellB.cls]? = some kB)
    {g : JFrame} (hg : g.method = m) (hsize : g.locals.size = c.maxLocals) {argsL rest : List Value} (hlen : ∀ sig, parseMethodDescriptor x.desc = some sig → argsL.length = sig.parameters.length)
    (hstack : g.stack = argsL.reverse ++ .ref b :: rest) (hW : 2 * g.monitorRoom + (rest.map fun v => v.category).sum ≤ W9) (hdg : decode c.code g.pc = .ok (.invokeinterface index count, 5))
    (hpre : ∀ vm₁, s.WarmedH vm₁ → Pre ⟨T.setVm vm₁, locs, cells, slots⟩ (Value.ref b :: argsL).toArray) :
    (∃ (v : Option Value) (vm₁ : Vm) (B : Pt), s.WarmedH vm₁ ∧ Stand p l e R s m args below meth c B.U B.locs B.cells B.slots ∧ Post ⟨T.setVm vm₁, locs, cells, slots⟩ (Value.ref b :: argsL).toArray v B ∧
      ∀ target, Steps p.tables e below (B.U.setTop { g with pc := g.pc + 5, stack := v.toList ++ rest }) target → Steps p.tables e below (T.setTop g) target) ∨
    (∃ (q : Addr) (vm₁ : Vm) (B : Pt), s.WarmedH vm₁ ∧ Stand p l e R s m args below meth c B.U B.locs B.cells B.slots ∧ PostX ⟨T.setVm vm₁, locs, cells, slots⟩ (Value.ref b :: argsL).toArray q B ∧
      Steps p.tables e below (T.setTop g) ((B.U.setTop { g with stack := rest }).pushFrame (.throwing q))) := by
  obtain ⟨r0, r, hn, hrm, hstR, hsigR⟩ := Cond.declares_spec hdecl
  obtain ⟨cL, kL, r1, hcL, hkL, hiL, hfoundL, hn1⟩ := Cond.interfaceMethod_spec hface
  cases hn.symm.trans hn1
  have hr0cls : r0.cls = cL := Option.some.inj ((findClass_of_methodNamed hn).symm.trans hcL)
  obtain ⟨hnameR, hdescR⟩ := name_of_methodNamed hn hrm
  obtain ⟨mk, methM, hnamed, hmethM, -, habM⟩ := Cond.instanceMethod_spec hinst
  obtain ⟨c2, r2, m2, q1, q2, q3, q4, -⟩ := Cond.selects_spec hsel
  cases hcls.symm.trans q1
  cases hfoundL.symm.trans q2
  cases hnamed.symm.trans q3
  have hselP : selectMethod e.platform s.vm cellB.cls r0 = .method mk := by rw [Launch.admits_selectMethod X.admits]; exact q4
  have hpubM : hasFlag methM.accessFlags Acc.public_ = true := Cond.publicMethod_spec hnamed hmethM hpub
  have hway : ((cellB.cls :: s.vm.superclasses cellB.cls).any fun k => (declaredIn s.vm r.name r.desc k).any fun (_, z) => z.isPrivate || z.isStatic) = false := by
    rw [hnameR, hdescR]; exact Cond.unhidden_spec hcls hunh
  obtain ⟨c3, t3, w1, w2, w3⟩ := Cond.castable_spec hcast
  cases hcls.symm.trans w1
  cases hcL.symm.trans w2
  obtain ⟨vm₁, X₁, hstep₁⟩ := X.invokeinterface hexec hown hlink hn hrm hstR (by rw [hr0cls]; exact hkL) hiL hx (a := b) (cell := cellB) (kcell := kB) hcell
    (fun z h => by rw [h] at hobj; cases hobj) hkB (by rw [hr0cls]; exact w3) hselP hmethM hway hpubM habM (g := g) hg (argsL := argsL) (rest := rest) (hlen _ hsigR) hstack hdg
  rcases hK m meth c ⟨T.setVm vm₁, locs, cells, slots⟩ { g with stack := rest } (.invokeinterface index count) mk (Value.ref b :: argsL).toArray X₁ hg hsize hdg hW (X₁.named hnamed) (hpre vm₁ X₁.warmed) with ⟨v, B, X', hpost, hsteps⟩ | ⟨q, B, X', hpost, hsteps⟩
  · exact Or.inl ⟨v, vm₁, B, X₁.warmed, X', hpost, fun target h => hstep₁ _ fun acts => by rw [doInvoke_state]; exact hsteps.trans h⟩
  · exact Or.inr ⟨q, vm₁, B, X₁.warmed, X', hpost, hstep₁ _ fun acts => by rw [doInvoke_state]; exact hsteps⟩
theorem vx_runF {x y : MethodName} {bytes cc : ByteArray} {maxL nL mc ms n index count : Nat} {ret : Option FieldType} {ws : List Cond} {rm : Room} {Pc : Array Value → State → Prop} {Qc : Array Value → State → Outcome → State → Prop} {XC : String → State → State → Prop} {free : Addr → Prop} {Ts : List Cond} {own C : String} {cC : ClassId} {b : Addr} {As rest : List Value} {g : JFrame}
    (hat : ClassAt s C cC) (S : CallFix p m c cc nL s args Ts own) (hM : vx_Met l y ws rm Pc Qc XC mc ms free) (cw : va_CI R s args own C index x y bytes maxL ret ws rm mc ms n) (hp : PreV s H C b Pc As)
    (hg : g.method = m) (hn : As.length = n) (hsize : g.locals.size = nL) (hstack : g.stack = As.reverse ++ .ref b :: rest) (hW : 2 * g.monitorRoom + (rest.map fun v => v.category).sum ≤ 8) (hdg : decode cc g.pc = .ok (.invokeinterface index count, 5)) (hf : cells + mc ≤ R.cells ∧ slots + ms ≤ R.slots) :
    vx_Run5 p l e R s m args below meth c H locs cells slots mc ms g rest (Qc (Value.ref b :: As).toArray) XC free := by
  obtain ⟨hrc, hrs, hfr, hlo, hws, hcw⟩ := cw.back
  have hini := cw.init
  have hK : vx_Back l R p e below s args y 5 8 (PreOf R mc ms Pc) (PostOf Qc mc ms free) (vx_Post XC mc ms free) := vx_back (bytes := bytes) (maxL := maxL) (ret := ret) hM hp.1 hrc hrs hfr hlo hws hcw (fun a' U hW => word_at hW (Or.inl (by first | rfl | simp [Cond.onTables, Cond.keeps, Cond.steady])) hini)
  obtain ⟨hx, hb, hml, ho, -⟩ := S
  obtain ⟨-, ⟨cellB, hcB, hoB, hclB⟩, hPc⟩ := hp
  obtain ⟨hfc, kB, hkB, -⟩ := hat
  cases hfc.symm.trans hclB
  intro T hT X
  rcases vx_callIF X hx (C := C) (bytes := bytes) (maxL := maxL) (ret := ret) ho cw.link cw.decl cw.face cw.sel cw.inst cw.pub cw.unh cw.cast cw.code cw.notMH hK (by rw [hT]; exact hcB) hoB hclB hkB hg (hsize.trans hml.symm) (argsL := As) (rest := rest) (fun sig h => hn.trans (cw.len sig h)) hstack hW (by rw [hb]; exact hdg)
    (fun vm₁ hW₁ => ⟨hf.1, hf.2, hPc (T.setVm vm₁) hT hW₁⟩) with ⟨v, vm₁, ⟨U', l2, c2, s2⟩, hW₁, X', ⟨g', mk, t, L, e1, e2, hq, h1, hL, h2, h3⟩, st⟩ | ⟨q, vm₁, ⟨U', l2, c2, s2⟩, hW₁, X', ⟨g', mk, t, L, E, ce, e1, e2, hq, hce, hcv, hcl, h1, hL, h2, h3⟩, st⟩
  · dsimp only [Pt.U, Pt.locs, Pt.cells, Pt.slots] at X' e1 e2 h1 h2 h3 st
    subst h1; subst h2; subst h3
    exact Or.inl ⟨v, (T.setVm vm₁).calling g' mk (Value.ref b :: As).toArray, t, U', L, hT, X', hL, e1, e2, hq, st⟩
  · dsimp only [Pt.U, Pt.locs, Pt.cells, Pt.slots] at X' e1 e2 h1 h2 h3 st hcl
    subst h1; subst h2; subst h3
    exact Or.inr ⟨q, (T.setVm vm₁).calling g' mk (Value.ref b :: As).toArray, t, U', L, E, ce, hT, X', hL, e1, e2, hq, hce, hcv, vx_cls hW₁ hcl, st⟩
theorem vx_callFv {S SX : Type} {post : S → Prop} {px : SX → Prop} {B : S → State → Prop} {BX : String → SX → State → Prop} {AX : Nat → Prop} (hr : vx_Run5 p l e R s m args below meth c H locs cells slots mc ms (F0 m pc ls st0) rest (va_Qv post B A1 a) (vx_X px BX AX) free) (hS : va_S A0 H0 H locs) (hA : ∀ q, q < H.size → A1 q → A0 q) (hf : ∀ q, free q → A0 q) (hAX : ∀ q, q < H.size → AX q → A0 q)
    (kx : ∀ (E : String) (ce : Cell) (q9 : Addr) (u : SX) (t : State) (H1 : Heap) (locs1 : List Loc), t.heap = H1 → s.vm.Alike t.vm → px u → BX E u t → H.size ≤ H1.size → (∀ q : Nat, q < H.size → ¬ AX q → H1[q]? = H[q]?) → va_S A0 H0 H1 locs1 → H1[q9]? = some ce → ce.vm = .none → s.vm.findClass E = some ce.cls → vx_W p l e R s m args below meth c H1 locs1 (cells + mc) (slots + ms) Q (F0 m pc ls rest) q9)
    (kk : ∀ (u : S) (t : State) (H1 : Heap) (locs1 : List Loc), t.heap = H1 → s.vm.Alike t.vm → post u → B u t → H.size ≤ H1.size → (∀ q : Nat, q < H.size → ¬ A1 q → H1[q]? = H[q]?) → va_S A0 H0 H1 locs1 → W p l e R s m args below meth c H1 locs1 (cells + mc) (slots + ms) Q (F0 m (pc + 5) ls (rest))) : W p l e R s m args below meth c H locs cells slots Q (F0 m pc ls st0) := by
  intro T hT X
  rcases hr T hT X with ⟨v, st₀, t, T', L, h0, X', hL, e1, e2, ⟨⟨u, hv, hp, hb⟩, hF⟩, st⟩ | ⟨q, st₀, t, T', L, E, ce, h0, X', hL, e1, e2, ⟨u, hp, hb, hF⟩, hce, hcv, hcl, st⟩
  · cases hv
    obtain ⟨k1, k2, k3⟩ := vx_keep h0 e1 hS hA hf hL hF
    obtain ⟨t2, a1, b1⟩ := kk u t T'.heap (locs ++ L) e1.symm (by rw [← e2]; exact X'.warmed.alike) hp hb k1 k2 k3 T' rfl X'
    exact ⟨t2, st t2 a1, b1⟩
  · obtain ⟨k1, k2, k3⟩ := vx_keep h0 e1 hS hAX hf hL hF
    obtain ⟨t2, a1, b1⟩ := kx E ce q u t T'.heap (locs ++ L) e1.symm (by rw [← e2]; exact X'.warmed.alike) hp hb k1 k2 k3 (by rw [e1]; exact hce) hcv hcl T' rfl X'
    exact ⟨t2, st.trans a1, b1⟩
theorem vx_callFi {S SX : Type} {post : Int32 → S → Prop} {px : SX → Prop} {B : S → State → Prop} {BX : String → SX → State → Prop} {AX : Nat → Prop} (hr : vx_Run5 p l e R s m args below meth c H locs cells slots mc ms (F0 m pc ls st0) rest (va_Qi post B A1 a) (vx_X px BX AX) free) (hS : va_S A0 H0 H locs) (hA : ∀ q, q < H.size → A1 q → A0 q) (hf : ∀ q, free q → A0 q) (hAX : ∀ q, q < H.size → AX q → A0 q)
    (kx : ∀ (E : String) (ce : Cell) (q9 : Addr) (u : SX) (t : State) (H1 : Heap) (locs1 : List Loc), t.heap = H1 → s.vm.Alike t.vm → px u → BX E u t → H.size ≤ H1.size → (∀ q : Nat, q < H.size → ¬ AX q → H1[q]? = H[q]?) → va_S A0 H0 H1 locs1 → H1[q9]? = some ce → ce.vm = .none → s.vm.findClass E = some ce.cls → vx_W p l e R s m args below meth c H1 locs1 (cells + mc) (slots + ms) Q (F0 m pc ls rest) q9)
    (kk : ∀ (r : Int32) (u : S) (t : State) (H1 : Heap) (locs1 : List Loc), t.heap = H1 → s.vm.Alike t.vm → post r u → B u t → H.size ≤ H1.size → (∀ q : Nat, q < H.size → ¬ A1 q → H1[q]? = H[q]?) → va_S A0 H0 H1 locs1 → W p l e R s m args below meth c H1 locs1 (cells + mc) (slots + ms) Q (F0 m (pc + 5) ls (.int r :: rest))) : W p l e R s m args below meth c H locs cells slots Q (F0 m pc ls st0) := by
  intro T hT X
  rcases hr T hT X with ⟨v, st₀, t, T', L, h0, X', hL, e1, e2, ⟨⟨r, u, hv, hp, hb⟩, hF⟩, st⟩ | ⟨q, st₀, t, T', L, E, ce, h0, X', hL, e1, e2, ⟨u, hp, hb, hF⟩, hce, hcv, hcl, st⟩
  · cases hv
    obtain ⟨k1, k2, k3⟩ := vx_keep h0 e1 hS hA hf hL hF
    obtain ⟨t2, a1, b1⟩ := kk r u t T'.heap (locs ++ L) e1.symm (by rw [← e2]; exact X'.warmed.alike) hp hb k1 k2 k3 T' rfl X'
    exact ⟨t2, st t2 a1, b1⟩
  · obtain ⟨k1, k2, k3⟩ := vx_keep h0 e1 hS hAX hf hL hF
    obtain ⟨t2, a1, b1⟩ := kx E ce q u t T'.heap (locs ++ L) e1.symm (by rw [← e2]; exact X'.warmed.alike) hp hb k1 k2 k3 (by rw [e1]; exact hce) hcv hcl T' rfl X'
    exact ⟨t2, st.trans a1, b1⟩
theorem vx_callFl {S SX : Type} {post : Int64 → S → Prop} {px : SX → Prop} {B : S → State → Prop} {BX : String → SX → State → Prop} {AX : Nat → Prop} (hr : vx_Run5 p l e R s m args below meth c H locs cells slots mc ms (F0 m pc ls st0) rest (va_Ql post B A1 a) (vx_X px BX AX) free) (hS : va_S A0 H0 H locs) (hA : ∀ q, q < H.size → A1 q → A0 q) (hf : ∀ q, free q → A0 q) (hAX : ∀ q, q < H.size → AX q → A0 q)
    (kx : ∀ (E : String) (ce : Cell) (q9 : Addr) (u : SX) (t : State) (H1 : Heap) (locs1 : List Loc), t.heap = H1 → s.vm.Alike t.vm → px u → BX E u t → H.size ≤ H1.size → (∀ q : Nat, q < H.size → ¬ AX q → H1[q]? = H[q]?) → va_S A0 H0 H1 locs1 → H1[q9]? = some ce → ce.vm = .none → s.vm.findClass E = some ce.cls → vx_W p l e R s m args below meth c H1 locs1 (cells + mc) (slots + ms) Q (F0 m pc ls rest) q9)
    (kk : ∀ (r : Int64) (u : S) (t : State) (H1 : Heap) (locs1 : List Loc), t.heap = H1 → s.vm.Alike t.vm → post r u → B u t → H.size ≤ H1.size → (∀ q : Nat, q < H.size → ¬ A1 q → H1[q]? = H[q]?) → va_S A0 H0 H1 locs1 → W p l e R s m args below meth c H1 locs1 (cells + mc) (slots + ms) Q (F0 m (pc + 5) ls (.long r :: rest))) : W p l e R s m args below meth c H locs cells slots Q (F0 m pc ls st0) := by
  intro T hT X
  rcases hr T hT X with ⟨v, st₀, t, T', L, h0, X', hL, e1, e2, ⟨⟨r, u, hv, hp, hb⟩, hF⟩, st⟩ | ⟨q, st₀, t, T', L, E, ce, h0, X', hL, e1, e2, ⟨u, hp, hb, hF⟩, hce, hcv, hcl, st⟩
  · cases hv
    obtain ⟨k1, k2, k3⟩ := vx_keep h0 e1 hS hA hf hL hF
    obtain ⟨t2, a1, b1⟩ := kk r u t T'.heap (locs ++ L) e1.symm (by rw [← e2]; exact X'.warmed.alike) hp hb k1 k2 k3 T' rfl X'
    exact ⟨t2, st t2 a1, b1⟩
  · obtain ⟨k1, k2, k3⟩ := vx_keep h0 e1 hS hAX hf hL hF
    obtain ⟨t2, a1, b1⟩ := kx E ce q u t T'.heap (locs ++ L) e1.symm (by rw [← e2]; exact X'.warmed.alike) hp hb k1 k2 k3 (by rw [e1]; exact hce) hcv hcl T' rfl X'
    exact ⟨t2, st.trans a1, b1⟩
theorem vx_callFf {S SX : Type} {post : UInt32 → S → Prop} {px : SX → Prop} {B : S → State → Prop} {BX : String → SX → State → Prop} {AX : Nat → Prop} (hr : vx_Run5 p l e R s m args below meth c H locs cells slots mc ms (F0 m pc ls st0) rest (va_Qf post B A1 a) (vx_X px BX AX) free) (hS : va_S A0 H0 H locs) (hA : ∀ q, q < H.size → A1 q → A0 q) (hf : ∀ q, free q → A0 q) (hAX : ∀ q, q < H.size → AX q → A0 q)
    (kx : ∀ (E : String) (ce : Cell) (q9 : Addr) (u : SX) (t : State) (H1 : Heap) (locs1 : List Loc), t.heap = H1 → s.vm.Alike t.vm → px u → BX E u t → H.size ≤ H1.size → (∀ q : Nat, q < H.size → ¬ AX q → H1[q]? = H[q]?) → va_S A0 H0 H1 locs1 → H1[q9]? = some ce → ce.vm = .none → s.vm.findClass E = some ce.cls → vx_W p l e R s m args below meth c H1 locs1 (cells + mc) (slots + ms) Q (F0 m pc ls rest) q9)
    (kk : ∀ (r : UInt32) (u : S) (t : State) (H1 : Heap) (locs1 : List Loc), t.heap = H1 → s.vm.Alike t.vm → post r u → B u t → H.size ≤ H1.size → (∀ q : Nat, q < H.size → ¬ A1 q → H1[q]? = H[q]?) → va_S A0 H0 H1 locs1 → W p l e R s m args below meth c H1 locs1 (cells + mc) (slots + ms) Q (F0 m (pc + 5) ls (.float r :: rest))) : W p l e R s m args below meth c H locs cells slots Q (F0 m pc ls st0) := by
  intro T hT X
  rcases hr T hT X with ⟨v, st₀, t, T', L, h0, X', hL, e1, e2, ⟨⟨r, u, hv, hp, hb⟩, hF⟩, st⟩ | ⟨q, st₀, t, T', L, E, ce, h0, X', hL, e1, e2, ⟨u, hp, hb, hF⟩, hce, hcv, hcl, st⟩
  · cases hv
    obtain ⟨k1, k2, k3⟩ := vx_keep h0 e1 hS hA hf hL hF
    obtain ⟨t2, a1, b1⟩ := kk r u t T'.heap (locs ++ L) e1.symm (by rw [← e2]; exact X'.warmed.alike) hp hb k1 k2 k3 T' rfl X'
    exact ⟨t2, st t2 a1, b1⟩
  · obtain ⟨k1, k2, k3⟩ := vx_keep h0 e1 hS hAX hf hL hF
    obtain ⟨t2, a1, b1⟩ := kx E ce q u t T'.heap (locs ++ L) e1.symm (by rw [← e2]; exact X'.warmed.alike) hp hb k1 k2 k3 (by rw [e1]; exact hce) hcv hcl T' rfl X'
    exact ⟨t2, st.trans a1, b1⟩
theorem vx_callFd {S SX : Type} {post : UInt64 → S → Prop} {px : SX → Prop} {B : S → State → Prop} {BX : String → SX → State → Prop} {AX : Nat → Prop} (hr : vx_Run5 p l e R s m args below meth c H locs cells slots mc ms (F0 m pc ls st0) rest (va_Qd post B A1 a) (vx_X px BX AX) free) (hS : va_S A0 H0 H locs) (hA : ∀ q, q < H.size → A1 q → A0 q) (hf : ∀ q, free q → A0 q) (hAX : ∀ q, q < H.size → AX q → A0 q)
    (kx : ∀ (E : String) (ce : Cell) (q9 : Addr) (u : SX) (t : State) (H1 : Heap) (locs1 : List Loc), t.heap = H1 → s.vm.Alike t.vm → px u → BX E u t → H.size ≤ H1.size → (∀ q : Nat, q < H.size → ¬ AX q → H1[q]? = H[q]?) → va_S A0 H0 H1 locs1 → H1[q9]? = some ce → ce.vm = .none → s.vm.findClass E = some ce.cls → vx_W p l e R s m args below meth c H1 locs1 (cells + mc) (slots + ms) Q (F0 m pc ls rest) q9)
    (kk : ∀ (r : UInt64) (u : S) (t : State) (H1 : Heap) (locs1 : List Loc), t.heap = H1 → s.vm.Alike t.vm → post r u → B u t → H.size ≤ H1.size → (∀ q : Nat, q < H.size → ¬ A1 q → H1[q]? = H[q]?) → va_S A0 H0 H1 locs1 → W p l e R s m args below meth c H1 locs1 (cells + mc) (slots + ms) Q (F0 m (pc + 5) ls (.double r :: rest))) : W p l e R s m args below meth c H locs cells slots Q (F0 m pc ls st0) := by
  intro T hT X
  rcases hr T hT X with ⟨v, st₀, t, T', L, h0, X', hL, e1, e2, ⟨⟨r, u, hv, hp, hb⟩, hF⟩, st⟩ | ⟨q, st₀, t, T', L, E, ce, h0, X', hL, e1, e2, ⟨u, hp, hb, hF⟩, hce, hcv, hcl, st⟩
  · cases hv
    obtain ⟨k1, k2, k3⟩ := vx_keep h0 e1 hS hA hf hL hF
    obtain ⟨t2, a1, b1⟩ := kk r u t T'.heap (locs ++ L) e1.symm (by rw [← e2]; exact X'.warmed.alike) hp hb k1 k2 k3 T' rfl X'
    exact ⟨t2, st t2 a1, b1⟩
  · obtain ⟨k1, k2, k3⟩ := vx_keep h0 e1 hS hAX hf hL hF
    obtain ⟨t2, a1, b1⟩ := kx E ce q u t T'.heap (locs ++ L) e1.symm (by rw [← e2]; exact X'.warmed.alike) hp hb k1 k2 k3 (by rw [e1]; exact hce) hcv hcl T' rfl X'
    exact ⟨t2, st.trans a1, b1⟩
end
/-! ===== END ===== -/
/-! ===== BEGIN by an interface, a method with a table of its own that may throw (follows va_callIFW, va_runFW) ===== -/
section
variable {p : Program} {l : Launch} {e : Env} {R : Room} {s : State} {m : MethodId} {args : Array Value} {below : List Frame} {meth : Method} {c : Code} {H : Heap} {locs : List Loc} {cells slots : Nat}
theorem vx_callIFW {T : State} (X : Stand p l e R s m args below meth c T locs cells slots) (hexec : p.tables.exec = Jvm.exec) {own C : String} {index count : Nat} {x y : MethodName} {bytes : ByteArray} {maxL : Nat} {ret : Option FieldType} {hh : List (Nat × Nat × Nat × Nat)}
    (hown : s.vm.findClass own = some m.cls) (hlink : (Cond.methodLink own index x).before args s = true) (hdecl : (Cond.declares x).before args s = true) (hface : (Cond.interfaceMethod x.cls x.cls x.name x.desc).before args s = true)
    (hsel : (Cond.selects C x y).before args s = true) (hinst : (Cond.instanceMethod y).before args s = true) (hpub : (Cond.publicMethod y).before args s = true) (hunh : (Cond.unhidden C x.name x.desc).before args s = true)
    (hcast : (Cond.castable C x.cls).before args s = true) (hcode : (Cond.codeWith y bytes maxL ret hh).before args s = true) (hx : x.cls ≠ "java/lang/invoke/MethodHandle" ∧ x.cls ≠ "java/lang/invoke/VarHandle")
    {W : Nat} {Pre : Pt → Array Value → Prop} {Post : Pt → Array Value → Option Value → Pt → Prop} {PostX : Pt → Array Value → Addr → Pt → Prop} (hK : vx_Back l R p e below s args y 5 W Pre Post PostX)
    {b : Addr} {cellB : Cell} {kB : Class} (hcell : T.heap[b]? = some cellB) (hobj : cellB.vm.isStatics = false) (hcls : s.vm.findClass C = some cellB.cls) (hkB : s.vm.classes[cellB.cls]? = some kB)
    {g : JFrame} (hg : g.method = m) (hsize : g.locals.size = c.maxLocals) {argsL rest : List Value} (hlen : ∀ sig, parseMethodDescriptor x.desc = some sig → argsL.length = sig.parameters.length)
    (hstack : g.stack = argsL.reverse ++ .ref b :: rest) (hW : 2 * g.monitorRoom + (rest.map fun v => v.category).sum ≤ W) (hdg : decode c.code g.pc = .ok (.invokeinterface index count, 5))
    (hpre : ∀ vm₁, s.WarmedH vm₁ → Pre ⟨T.setVm vm₁, locs, cells, slots⟩ (Value.ref b :: argsL).toArray) :
    (∃ (v : Option Value) (vm₁ : Vm) (B : Pt), s.WarmedH vm₁ ∧ Stand p l e R s m args below meth c B.U B.locs B.cells B.slots ∧ Post ⟨T.setVm vm₁, locs, cells, slots⟩ (Value.ref b :: argsL).toArray v B ∧
      ∀ target, Steps p.tables e below (B.U.setTop { g with pc := g.pc + 5, stack := v.toList ++ rest }) target → Steps p.tables e below (T.setTop g) target) ∨
    (∃ (q : Addr) (vm₁ : Vm) (B : Pt), s.WarmedH vm₁ ∧ Stand p l e R s m args below meth c B.U B.locs B.cells B.slots ∧ PostX ⟨T.setVm vm₁, locs, cells, slots⟩ (Value.ref b :: argsL).toArray q B ∧
      Steps p.tables e below (T.setTop g) ((B.U.setTop { g with stack := rest }).pushFrame (.throwing q))) := by
  obtain ⟨r0, r, hn, hrm, hstR, hsigR⟩ := Cond.declares_spec hdecl
  obtain ⟨cL, kL, r1, hcL, hkL, hiL, hfoundL, hn1⟩ := Cond.interfaceMethod_spec hface
  cases hn.symm.trans hn1
  have hr0cls : r0.cls = cL := Option.some.inj ((findClass_of_methodNamed hn).symm.trans hcL)
  obtain ⟨hnameR, hdescR⟩ := name_of_methodNamed hn hrm
  obtain ⟨mk, methM, hnamed, hmethM, -, habM⟩ := Cond.instanceMethod_spec hinst
  obtain ⟨c2, r2, m2, q1, q2, q3, q4, -⟩ := Cond.selects_spec hsel
  cases hcls.symm.trans q1
  cases hfoundL.symm.trans q2
  cases hnamed.symm.trans q3
  have hselP : selectMethod e.platform s.vm cellB.cls r0 = .method mk := by rw [Launch.admits_selectMethod X.admits]; exact q4
  have hpubM : hasFlag methM.accessFlags Acc.public_ = true := Cond.publicMethod_spec hnamed hmethM hpub
  have hway : ((cellB.cls :: s.vm.superclasses cellB.cls).any fun k => (declaredIn s.vm r.name r.desc k).any fun (_, z) => z.isPrivate || z.isStatic) = false := by
    rw [hnameR, hdescR]; exact Cond.unhidden_spec hcls hunh
  obtain ⟨c3, t3, w1, w2, w3⟩ := Cond.castable_spec hcast
  cases hcls.symm.trans w1
  cases hcL.symm.trans w2
  obtain ⟨vm₁, X₁, hstep₁⟩ := X.invokeinterface hexec hown hlink hn hrm hstR (by rw [hr0cls]; exact hkL) hiL hx (a := b) (cell := cellB) (kcell := kB) hcell
    (fun z h => by rw [h] at hobj; cases hobj) hkB (by rw [hr0cls]; exact w3) hselP hmethM hway hpubM habM (g := g) hg (argsL := argsL) (rest := rest) (hlen _ hsigR) hstack hdg
  rcases hK m meth c ⟨T.setVm vm₁, locs, cells, slots⟩ { g with stack := rest } (.invokeinterface index count) mk (Value.ref b :: argsL).toArray X₁ hg hsize hdg hW (X₁.named hnamed) (hpre vm₁ X₁.warmed) with ⟨v, B, X', hpost, hsteps⟩ | ⟨q, B, X', hpost, hsteps⟩
  · exact Or.inl ⟨v, vm₁, B, X₁.warmed, X', hpost, fun target h => hstep₁ _ fun acts => by rw [doInvoke_state]; exact hsteps.trans h⟩
  · exact Or.inr ⟨q, vm₁, B, X₁.warmed, X', hpost, hstep₁ _ fun acts => by rw [doInvoke_state]; exact hsteps⟩
theorem vx_runFW {x y : MethodName} {bytes cc : ByteArray} {maxL nL mc ms n index count : Nat} {ret : Option FieldType} {hh : List (Nat × Nat × Nat × Nat)} {ws : List Cond} {rm : Room} {Pc : Array Value → State → Prop} {Qc : Array Value → State → Outcome → State → Prop} {XC : String → State → State → Prop} {free : Addr → Prop} {Ts : List Cond} {own C : String} {cC : ClassId} {b : Addr} {As rest : List Value} {g : JFrame}
    (hat : ClassAt s C cC) (S : CallFix p m c cc nL s args Ts own) (hM : vx_Met l y ws rm Pc Qc XC mc ms free) (cw : va_CIW R s args own C index x y bytes maxL ret hh ws rm mc ms n) (hp : PreV s H C b Pc As)
    (hg : g.method = m) (hn : As.length = n) (hsize : g.locals.size = nL) (hstack : g.stack = As.reverse ++ .ref b :: rest) (hW : 2 * g.monitorRoom + (rest.map fun v => v.category).sum ≤ 8) (hdg : decode cc g.pc = .ok (.invokeinterface index count, 5)) (hf : cells + mc ≤ R.cells ∧ slots + ms ≤ R.slots) :
    vx_Run5 p l e R s m args below meth c H locs cells slots mc ms g rest (Qc (Value.ref b :: As).toArray) XC free := by
  obtain ⟨hrc, hrs, hfr, hlo, hws, hcw⟩ := cw.back
  have hini := cw.init
  have hK : vx_Back l R p e below s args y 5 8 (PreOf R mc ms Pc) (PostOf Qc mc ms free) (vx_Post XC mc ms free) := vx_backW (hh := hh) (bytes := bytes) (maxL := maxL) (ret := ret) hM hp.1 hrc hrs hfr hlo hws hcw (fun a' U hW => word_at hW (Or.inl (by first | rfl | simp [Cond.onTables, Cond.keeps, Cond.steady])) hini)
  obtain ⟨hx, hb, hml, ho, -⟩ := S
  obtain ⟨-, ⟨cellB, hcB, hoB, hclB⟩, hPc⟩ := hp
  obtain ⟨hfc, kB, hkB, -⟩ := hat
  cases hfc.symm.trans hclB
  intro T hT X
  rcases vx_callIFW X hx (C := C) (hh := hh) (bytes := bytes) (maxL := maxL) (ret := ret) ho cw.link cw.decl cw.face cw.sel cw.inst cw.pub cw.unh cw.cast cw.code cw.notMH hK (by rw [hT]; exact hcB) hoB hclB hkB hg (hsize.trans hml.symm) (argsL := As) (rest := rest) (fun sig h => hn.trans (cw.len sig h)) hstack hW (by rw [hb]; exact hdg)
    (fun vm₁ hW₁ => ⟨hf.1, hf.2, hPc (T.setVm vm₁) hT hW₁⟩) with ⟨v, vm₁, ⟨U', l2, c2, s2⟩, hW₁, X', ⟨g', mk, t, L, e1, e2, hq, h1, hL, h2, h3⟩, st⟩ | ⟨q, vm₁, ⟨U', l2, c2, s2⟩, hW₁, X', ⟨g', mk, t, L, E, ce, e1, e2, hq, hce, hcv, hcl, h1, hL, h2, h3⟩, st⟩
  · dsimp only [Pt.U, Pt.locs, Pt.cells, Pt.slots] at X' e1 e2 h1 h2 h3 st
    subst h1; subst h2; subst h3
    exact Or.inl ⟨v, (T.setVm vm₁).calling g' mk (Value.ref b :: As).toArray, t, U', L, hT, X', hL, e1, e2, hq, st⟩
  · dsimp only [Pt.U, Pt.locs, Pt.cells, Pt.slots] at X' e1 e2 h1 h2 h3 st hcl
    subst h1; subst h2; subst h3
    exact Or.inr ⟨q, (T.setVm vm₁).calling g' mk (Value.ref b :: As).toArray, t, U', L, E, ce, hT, X', hL, e1, e2, hq, hce, hcv, vx_cls hW₁ hcl, st⟩
end
/-! ===== END ===== -/
end
section
section HK2
variable {G : hk_G} {l : Launch} {d : Nat} {y : MethodName} {b : ByteArray} {nL : Nat} {ret : Option FieldType} {hh : List (Nat × Nat × Nat × Nat)} {Q : Option Value → hk_H → Prop} {X : String → hk_H → Prop} {k n : Nat} {h : hk_H} {pc pc' : Nat} {lv : List (Option Value)} {st : List Value}
theorem hk_ireturn {v : Int32} {t : FieldType} (hr : ret = some t) (hv : narrow t (.int v) = .int v) (hd : decode b pc = .ok (.ireturn, 1)) (hq : Q (some (.int v)) h) : hk_W G l d y b nL ret hh Q X k n h pc lv [.int v] := by
  intro p e s m args below meth c H locs cells slots mc ms ls C hk hn hO hL hl
  refine vx_ret (W.widen (k := mc) (n := ms) (by omega) (by omega) ?_)
  exact W.zret C.exec C.bytes (C.returns.trans hr) hv (fun t ht hW => ⟨_, h, rfl, hq, by rw [ht]; exact hO.1, hO.2.F ht⟩) hO.2.2.2 hd C.locks
theorem hk_lreturn {v : Int64} (hr : ret = some .long) (hd : decode b pc = .ok (.lreturn, 1)) (hq : Q (some (.long v)) h) : hk_W G l d y b nL ret hh Q X k n h pc lv [.long v] := by
  intro p e s m args below meth c H locs cells slots mc ms ls C hk hn hO hL hl
  refine vx_ret (W.widen (k := mc) (n := ms) (by omega) (by omega) ?_)
  exact W.lret C.exec C.bytes (C.returns.trans hr) (fun t ht hW => ⟨_, h, rfl, hq, by rw [ht]; exact hO.1, hO.2.F ht⟩) hO.2.2.2 hd C.locks
theorem hk_freturn {v : UInt32} (hr : ret = some .float) (hd : decode b pc = .ok (.freturn, 1)) (hq : Q (some (.float v)) h) : hk_W G l d y b nL ret hh Q X k n h pc lv [.float v] := by
  intro p e s m args below meth c H locs cells slots mc ms ls C hk hn hO hL hl
  refine vx_ret (W.widen (k := mc) (n := ms) (by omega) (by omega) ?_)
  exact W.fret C.exec C.bytes (C.returns.trans hr) (fun t ht hW => ⟨_, h, rfl, hq, by rw [ht]; exact hO.1, hO.2.F ht⟩) hO.2.2.2 hd C.locks
theorem hk_dreturn {v : UInt64} (hr : ret = some .double) (hd : decode b pc = .ok (.dreturn, 1)) (hq : Q (some (.double v)) h) : hk_W G l d y b nL ret hh Q X k n h pc lv [.double v] := by
  intro p e s m args below meth c H locs cells slots mc ms ls C hk hn hO hL hl
  refine vx_ret (W.widen (k := mc) (n := ms) (by omega) (by omega) ?_)
  exact W.dret C.exec C.bytes (C.returns.trans hr) (fun t ht hW => ⟨_, h, rfl, hq, by rw [ht]; exact hO.1, hO.2.F ht⟩) hO.2.2.2 hd C.locks
theorem hk_areturn {v : Value} {t : FieldType} (hr : ret = some t) (hrt : (∃ n, t = .object n) ∨ ∃ t1, t = .array t1) (hv : v = .null ∨ ∃ a, v = .ref a) (hd : decode b pc = .ok (.areturn, 1)) (hq : Q (some (v)) h) : hk_W G l d y b nL ret hh Q X k n h pc lv [v] := by
  intro p e s m args below meth c H locs cells slots mc ms ls C hk hn hO hL hl
  refine vx_ret (W.widen (k := mc) (n := ms) (by omega) (by omega) ?_)
  exact W.aret C.exec C.bytes (C.returns.trans hr) hrt hv (fun t ht hW => ⟨_, h, rfl, hq, by rw [ht]; exact hO.1, hO.2.F ht⟩) hO.2.2.2 hd C.locks
theorem hk_vreturn (hr : ret = none) (hd : decode b pc = .ok (.return_, 1)) (hq : Q none h) : hk_W G l d y b nL ret hh Q X k n h pc lv [] := by
  intro p e s m args below meth c H locs cells slots mc ms ls C hk hn hO hL hl
  refine vx_ret (W.widen (k := mc) (n := ms) (by omega) (by omega) ?_)
  exact W.vret C.exec C.bytes (C.returns.trans hr) (fun t ht hW => ⟨_, h, rfl, hq, by rw [ht]; exact hO.1, hO.2.F ht⟩) hO.2.2.2 hd C.locks
theorem hk_out {E : String} (hx : X E h) : hk_WX G l d y b nL ret [] Q X k n h pc lv st E := by
  intro p e s m args below meth c H locs cells slots mc ms ls q ce C hk hn hO hL hl hce hcv hcl
  exact vx_out (by intro x hx; rw [C.table] at hx; cases hx) C.locks hce hcv hcl (fun t ht hA => ⟨h, hx, by rw [ht]; exact hO.1, hO.2.F ht⟩) hO.2.2.2 (by omega) (by omega)
-- a method's contract out of its walk
theorem hk_enter {As : List Value} {lv : List (Option Value)} (hp : plainName y.cls = true) (hfl : l.stackTraces = false) (hlen : (hk_l0 As).length ≤ nL) (hlv : hk_l0 As ++ List.replicate (nL - (hk_l0 As).length) none = lv) (hw : hk_W G l d y b nL ret [] Q X k n h 0 lv []) : hk_Ctr G l d y b nL ret k n As h Q X := by
  refine vx_ofW (cc := b) (maxL := nL) (ret := ret) hp rfl ?_
  intro p e s m args below meth c s₁ B hml htb hv
  obtain ⟨rfl, hF, hP, hB⟩ := hv
  have hts := atoms_spec (ws := hk_ws y b nL ret) B.pre
  have hl := lv_entry As (n := nL) (by rw [← hk_l0_len]; exact hlen)
  rw [lg_entry_eq]
  have hLv : lv.length = nL := by
    rw [← hlv, List.length_append, List.length_replicate]
    omega
  have ht0 : c.exceptionTable.toList = [] := List.eq_nil_iff_forall_not_mem.mpr (fun x hx => htb x hx)
  refine hw p e s m _ below meth c s.heap [] 0 0 k n _ ⟨B.exec, B.bytes, B.returns, hml, findClass_of_methodNamed B.named, fun w hw => hts w (List.mem_cons_of_mem _ hw), B.notSynchronized, (name_of_methodNamed B.named B.method).1, by rw [ht0]; rfl, hF, hfl, hB⟩ (by omega) (by omega) ⟨hP, va_S.rf⟩ hLv ⟨hl.1.trans hLv.symm, hl.2.1, fun i v hi => ?_⟩
  refine hl.2.2 (i, v) ?_
  have h9 : (hk_l0 As)[i]? = some (some v) := by
    rw [← hlv] at hi
    by_cases hlt : i < (hk_l0 As).length
    · rwa [List.getElem?_append_left hlt] at hi
    · rw [List.getElem?_append_right (by omega), List.getElem?_replicate] at hi
      split at hi <;> cases hi
  have h8 := hk_l0_in As 0 i v h9
  rwa [Nat.zero_add] at h8
-- what an answer says, by its kind
def hk_qi (P : Int32 → hk_H → Prop) : Option Value → hk_H → Prop := fun r h => ∃ v : Int32, r = some (.int v) ∧ P v h
def hk_ql (P : Int64 → hk_H → Prop) : Option Value → hk_H → Prop := fun r h => ∃ v : Int64, r = some (.long v) ∧ P v h
def hk_qf (P : UInt32 → hk_H → Prop) : Option Value → hk_H → Prop := fun r h => ∃ v : UInt32, r = some (.float v) ∧ P v h
def hk_qd (P : UInt64 → hk_H → Prop) : Option Value → hk_H → Prop := fun r h => ∃ v : UInt64, r = some (.double v) ∧ P v h
def hk_qv (P : hk_H → Prop) : Option Value → hk_H → Prop := fun r h => r = none ∧ P h
def hk_qr (P : Nat → hk_H → Prop) : Option Value → hk_H → Prop := fun r h => ∃ v : Nat, r = some (.ref v) ∧ P v h
def hk_qo (P : Option Nat → hk_H → Prop) : Option Value → hk_H → Prop := fun r h => ∃ v : Option Nat, r = some (va_rf v) ∧ P v h
def hk_no : String → hk_H → Prop := fun _ _ => False

theorem hk_ki {P : Int32 → hk_H → Prop} (kk : ∀ (v : Int32) (h' : hk_H), P v h' → hk_W G l d y b nL ret hh Q X k n h' pc lv (.int v :: st)) : ∀ (r : Option Value) (h' : hk_H), hk_qi P r h' → hk_W G l d y b nL ret hh Q X k n h' pc lv (r.toList ++ st) := fun r h' hq => by
  obtain ⟨v, rfl, hp⟩ := hq
  exact kk v h' hp
theorem hk_kl {P : Int64 → hk_H → Prop} (kk : ∀ (v : Int64) (h' : hk_H), P v h' → hk_W G l d y b nL ret hh Q X k n h' pc lv (.long v :: st)) : ∀ (r : Option Value) (h' : hk_H), hk_ql P r h' → hk_W G l d y b nL ret hh Q X k n h' pc lv (r.toList ++ st) := fun r h' hq => by
  obtain ⟨v, rfl, hp⟩ := hq
  exact kk v h' hp
theorem hk_kf {P : UInt32 → hk_H → Prop} (kk : ∀ (v : UInt32) (h' : hk_H), P v h' → hk_W G l d y b nL ret hh Q X k n h' pc lv (.float v :: st)) : ∀ (r : Option Value) (h' : hk_H), hk_qf P r h' → hk_W G l d y b nL ret hh Q X k n h' pc lv (r.toList ++ st) := fun r h' hq => by
  obtain ⟨v, rfl, hp⟩ := hq
  exact kk v h' hp
theorem hk_kd {P : UInt64 → hk_H → Prop} (kk : ∀ (v : UInt64) (h' : hk_H), P v h' → hk_W G l d y b nL ret hh Q X k n h' pc lv (.double v :: st)) : ∀ (r : Option Value) (h' : hk_H), hk_qd P r h' → hk_W G l d y b nL ret hh Q X k n h' pc lv (r.toList ++ st) := fun r h' hq => by
  obtain ⟨v, rfl, hp⟩ := hq
  exact kk v h' hp
theorem hk_kr {P : Nat → hk_H → Prop} (kk : ∀ (v : Nat) (h' : hk_H), P v h' → hk_W G l d y b nL ret hh Q X k n h' pc lv (.ref v :: st)) : ∀ (r : Option Value) (h' : hk_H), hk_qr P r h' → hk_W G l d y b nL ret hh Q X k n h' pc lv (r.toList ++ st) := fun r h' hq => by
  obtain ⟨v, rfl, hp⟩ := hq
  exact kk v h' hp
theorem hk_ko {P : Option Nat → hk_H → Prop} (kk : ∀ (v : Option Nat) (h' : hk_H), P v h' → hk_W G l d y b nL ret hh Q X k n h' pc lv (va_rf v :: st)) : ∀ (r : Option Value) (h' : hk_H), hk_qo P r h' → hk_W G l d y b nL ret hh Q X k n h' pc lv (r.toList ++ st) := fun r h' hq => by
  obtain ⟨v, rfl, hp⟩ := hq
  exact kk v h' hp
theorem hk_kv {P : hk_H → Prop} (kk : ∀ (h' : hk_H), P h' → hk_W G l d y b nL ret hh Q X k n h' pc lv st) : ∀ (r : Option Value) (h' : hk_H), hk_qv P r h' → hk_W G l d y b nL ret hh Q X k n h' pc lv (r.toList ++ st) := fun r h' hq => by
  obtain ⟨rfl, hp⟩ := hq
  exact kk h' hp
theorem hk_kx {X' : String → hk_H → Prop} (hx : ∀ (E : String) (h' : hk_H), X' E h' → X E h') : ∀ (E : String) (h' : hk_H), X' E h' → hk_WX G l d y b nL ret [] Q X k n h' pc lv st E := fun E h' z => hk_out (hx E h' z)
theorem hk_nx : ∀ (E : String) (h' : hk_H), hk_no E h' → hk_WX G l d y b nL ret hh Q X k n h' pc lv st E := fun E h' z => z.elim
-- behind a call
theorem hk_after {p : Program} {e : Env} {s : State} {m : MethodId} {args : Array Value} {below : List Frame} {meth : Method} {c : Code} {H : Heap} {locs : List Loc} {cells slots mc ms k' n' : Nat} {ls : Array Slot} {st0 : List Value} {Q' : Option Value → hk_H → Prop} {X' : String → hk_H → Prop} {A9 : Array Value}
    (hr : vx_Run p l e (hk_rm d mc ms) s m args below meth c H locs cells slots k' n' (F0 m pc ls st0) st (hk_Qc G Q' A9) (hk_XC G X') (hk_A G)) (C : hk_C G l y b nL ret hh p s m args meth c) (hk : cells + k ≤ mc) (hn : slots + n ≤ ms) (hO : hk_O G h s H locs) (hL : lv.length = nL) (hl : hk_L ls lv) (hkk : k' ≤ k) (hnn : n' ≤ n)
    (kk : ∀ (r : Option Value) (h' : hk_H), Q' r h' → hk_W G l d y b nL ret hh Q X (k - k') (n - n') h' (pc + 3) lv (r.toList ++ st))
    (kx : ∀ (E : String) (h' : hk_H), X' E h' → hk_WX G l d y b nL ret hh Q X (k - k') (n - n') h' pc lv st E) :
    W p l e (hk_rm d mc ms) s m args below meth c H locs cells slots (vx_MQ below (hk_Qc G Q) (hk_XC G X) args s mc ms (hk_A G)) (F0 m pc ls st0) := by
  intro T hT X0
  rcases hr T hT X0 with ⟨v, st₀, t, T', L, h0, X', hL', e1, e2, ⟨r, h', hv, hq, hP', hF'⟩, hg⟩ | ⟨q, st₀, t, T', L, E, ce, h0, X', hL', e1, e2, ⟨h', hx, hP', hF'⟩, hce, hcv, hcl, hg⟩
  · cases hv
    obtain ⟨k1, k2, k3⟩ := vx_keep h0 e1 hO.2 (fun q _ z => z) (fun q z => z) hL' hF'
    obtain ⟨t2, a1, b1⟩ := kk v h' hq p e s m args below meth c T'.heap (locs ++ L) (cells + k') (slots + n') mc ms ls C (by omega) (by omega) ⟨by rw [e1]; exact hP', k3⟩ hL hl T' rfl X'
    exact ⟨t2, hg t2 a1, b1⟩
  · obtain ⟨k1, k2, k3⟩ := vx_keep h0 e1 hO.2 (fun q _ z => z) (fun q z => z) hL' hF'
    obtain ⟨t2, a1, b1⟩ := kx E h' hx p e s m args below meth c T'.heap (locs ++ L) (cells + k') (slots + n') mc ms ls q ce C (by omega) (by omega) ⟨by rw [e1]; exact hP', k3⟩ hL hl (by rw [e1]; exact hce) hcv hcl T' rfl X'
    exact ⟨t2, hg.trans a1, b1⟩
theorem hk_start {s : State} {H : Heap} {locs : List Loc} {As : List Value} {p : Program} {m : MethodId} {args : Array Value} {meth : Method} {c : Code} (C : hk_C G l y b nL ret hh p s m args meth c) (hO : hk_O G h s H locs) (U : State) (hU : U.heap = H) (hW : s.WarmedH U.vm) : hk_Pc G h As As.toArray U :=
  ⟨rfl, hk_F.warm hW (fun a h1 h2 => by rw [hU]; exact hO.2.2.1 a h1 h2) C.F, by rw [hU]; exact hO.1, by rw [hU]; exact Nat.le_trans C.base hO.2.1⟩
-- a method by its entry
def hk_mV (own : String) (idx : Nat) (y' : MethodName) (b' : ByteArray) (nL' : Nat) (ret' : Option FieldType) (na : Nat) : Prop := Cond.methodLink own idx y' ∈ hk_all ∧ Cond.instanceMethod y' ∈ hk_all ∧ Cond.selects y'.cls y' y' ∈ hk_all ∧ Cond.initialized y'.cls ∈ hk_all ∧ Cond.code y' b' nL' ret' ∈ hk_all ∧ (y'.cls ≠ "java/lang/invoke/MethodHandle" ∧ y'.cls ≠ "java/lang/invoke/VarHandle") ∧ (parseMethodDescriptor y'.desc).map (fun d => d.parameters.length) = some na
def hk_mS (own : String) (idx : Nat) (y' : MethodName) (b' : ByteArray) (nL' : Nat) (ret' : Option FieldType) (na : Nat) : Prop := Cond.methodLink own idx y' ∈ hk_all ∧ Cond.static y' ∈ hk_all ∧ Cond.initialized y'.cls ∈ hk_all ∧ Cond.code y' b' nL' ret' ∈ hk_all ∧ (y'.cls ≠ "java/lang/invoke/MethodHandle" ∧ y'.cls ≠ "java/lang/invoke/VarHandle") ∧ (parseMethodDescriptor y'.desc).map (fun d => d.parameters.length) = some na
def hk_mI (own : String) (idx : Nat) (y' : MethodName) (b' : ByteArray) (nL' : Nat) (na : Nat) : Prop := ((Cond.methodLink own idx y' ∈ hk_all) ∨ ∃ host : String, Cond.methodLinkNest own idx y' host ∈ lw_tbl) ∧ Cond.instanceMethod y' ∈ hk_all ∧ y'.name = "<init>" ∧ Cond.initialized y'.cls ∈ hk_all ∧ Cond.code y' b' nL' none ∈ hk_all ∧ (y'.cls ≠ "java/lang/invoke/MethodHandle" ∧ y'.cls ≠ "java/lang/invoke/VarHandle") ∧ (parseMethodDescriptor y'.desc).map (fun d => d.parameters.length) = some na
theorem hk_good {y' : MethodName} {b' : ByteArray} {nL' : Nat} {ret' : Option FieldType} (hc : Cond.code y' b' nL' ret' ∈ hk_all) : GoodIn hk_all (hk_ws y' b' nL' ret') := fun w hw => (List.mem_cons.mp hw).elim (fun e => by rw [e]; exact hk_all_good _ hc) (fun z => hk_all_good w z)
theorem hk_recv {s : State} {H : Heap} {locs : List Loc} {p : Program} {m : MethodId} {args : Array Value} {meth : Method} {c : Code} (C : hk_C G l y b nL ret hh p s m args meth c) (hO : hk_O G h s H locs) {a ci : Nat} {fs : List Value} (ha : h a = some (.inr (ci, fs))) {r : vw_C} (hc : vwCl[ci]? = some r) : ∃ cell : Cell, H[a]? = some cell ∧ cell.vm.isStatics = false ∧ s.vm.findClass r.1 = some cell.cls := by
  obtain ⟨q', h1, cell, g1, g2, g3, -⟩ := (hO.1 a _ ha).2
  exact ⟨cell, g1, by rw [g3]; rfl, by rw [g2]; exact (C.F.1 ci r hc).2.1⟩
theorem hk_callV {y' : MethodName} {b' : ByteArray} {nL' na k' n' d' idx : Nat} {a ci : Nat} {fs : List Value} {r : vw_C} {ret' : Option FieldType} {As st0 : List Value} {Q' : Option Value → hk_H → Prop} {X' : String → hk_H → Prop} (hd : decode b pc = .ok (.invokevirtual idx, 3)) (hp : pc + 3 = pc') (L : hk_mV y.cls idx y' b' nL' ret' na) (hc : hk_Ctr G l d' y' b' nL' ret' k' n' (.ref a :: As) h Q' X') (hst : st0 = As.reverse ++ .ref a :: st) (hna : As.length = na) (ha : h a = some (.inr (ci, fs))) (hcl : vwCl[ci]? = some r) (hrc : r.1 = y'.cls) (hdp : d' + 1 ≤ d ∧ 8 + (nL' + 11) + 64 * d' ≤ 64 * d) (hkk : k' ≤ k ∧ n' ≤ n) (hrm : (st.map fun v => v.category).sum ≤ 8)
    (kk : ∀ (r : Option Value) (h' : hk_H), Q' r h' → hk_W G l d y b nL ret hh Q X (k - k') (n - n') h' pc' lv (r.toList ++ st)) (kx : ∀ (E : String) (h' : hk_H), X' E h' → hk_WX G l d y b nL ret hh Q X (k - k') (n - n') h' pc lv st E) : hk_W G l d y b nL ret hh Q X k n h pc lv st0 := by
  subst hp
  subst hst
  intro p e s m args below meth c H locs cells slots mc ms ls C hk hn hO hL hl
  obtain ⟨l1, l2, l3, l4, l5, l6, l7⟩ := L
  have hrecv := hk_recv C hO ha hcl
  rw [hrc] at hrecv
  refine hk_after (vx_runV (own := y.cls) (C := y'.cls) (As := As) (rest := st) ⟨C.exec, C.bytes, C.maxL, C.own, C.words⟩ hc (cwV na C.words (fun w hw => ?_) rfl rfl rfl ⟨rfl, l6.1, l6.2, l7⟩ hdp) ⟨hk_Pc_blind, hrecv, fun U hU hW => hk_start C hO U hU hW⟩ rfl hna (hl.1.trans hL) rfl (lv_room hrm) hd ⟨Nat.le_trans (Nat.add_le_add_left hkk.1 _) hk, Nat.le_trans (Nat.add_le_add_left hkk.2 _) hn⟩) C hk hn hO hL hl hkk.1 hkk.2 kk kx
  rcases List.mem_append.mp hw with hw | hw
  · simp only [List.mem_cons, List.not_mem_nil, or_false] at hw
    rcases hw with rfl | rfl | rfl | rfl
    · exact hk_all_good _ l1
    · exact hk_all_good _ l2
    · exact hk_all_good _ l3
    · exact hk_all_good _ l4
  · exact hk_good l5 w hw
theorem hk_callS {y' : MethodName} {b' : ByteArray} {nL' na k' n' d' idx : Nat} {ret' : Option FieldType} {As st0 : List Value} {Q' : Option Value → hk_H → Prop} {X' : String → hk_H → Prop} (hd : decode b pc = .ok (.invokestatic idx, 3)) (hp : pc + 3 = pc') (L : hk_mS y.cls idx y' b' nL' ret' na) (hc : hk_Ctr G l d' y' b' nL' ret' k' n' As h Q' X') (hst : st0 = As.reverse ++ st) (hna : As.length = na) (hdp : d' + 1 ≤ d ∧ 8 + (nL' + 11) + 64 * d' ≤ 64 * d) (hkk : k' ≤ k ∧ n' ≤ n) (hrm : (st.map fun v => v.category).sum ≤ 8)
    (kk : ∀ (r : Option Value) (h' : hk_H), Q' r h' → hk_W G l d y b nL ret hh Q X (k - k') (n - n') h' pc' lv (r.toList ++ st)) (kx : ∀ (E : String) (h' : hk_H), X' E h' → hk_WX G l d y b nL ret hh Q X (k - k') (n - n') h' pc lv st E) : hk_W G l d y b nL ret hh Q X k n h pc lv st0 := by
  subst hp
  subst hst
  intro p e s m args below meth c H locs cells slots mc ms ls C hk hn hO hL hl
  obtain ⟨l1, l2, l4, l5, l6, l7⟩ := L
  exact hk_after (vx_runS (own := y.cls) (As := As) (rest := st) ⟨C.exec, C.bytes, C.maxL, C.own, C.words⟩ hc ⟨callB_of na C.words (hk_good l5) rfl rfl rfl (C.words _ l4) (C.words _ l1) ⟨l6.1, l6.2, l7⟩ hdp, C.words _ l2⟩ ⟨hk_Pc_blind, fun U hU hW => hk_start C hO U hU hW⟩ rfl hna (hl.1.trans hL) rfl (lv_room hrm) hd ⟨Nat.le_trans (Nat.add_le_add_left hkk.1 _) hk, Nat.le_trans (Nat.add_le_add_left hkk.2 _) hn⟩) C hk hn hO hL hl hkk.1 hkk.2 kk kx
theorem hk_callI {y' : MethodName} {b' : ByteArray} {nL' na k' n' d' idx : Nat} {a : Nat} {As st0 : List Value} {Q' : Option Value → hk_H → Prop} {X' : String → hk_H → Prop} (hd : decode b pc = .ok (.invokespecial idx, 3)) (hp : pc + 3 = pc') (L : hk_mI y.cls idx y' b' nL' na) (hc : hk_Ctr G l d' y' b' nL' none k' n' (.ref a :: As) h Q' X') (hst : st0 = As.reverse ++ .ref a :: st) (hna : As.length = na) (hdp : d' + 1 ≤ d ∧ 8 + (nL' + 11) + 64 * d' ≤ 64 * d) (hkk : k' ≤ k ∧ n' ≤ n) (hrm : (st.map fun v => v.category).sum ≤ 8)
    (kk : ∀ (r : Option Value) (h' : hk_H), Q' r h' → hk_W G l d y b nL ret hh Q X (k - k') (n - n') h' pc' lv (r.toList ++ st)) (kx : ∀ (E : String) (h' : hk_H), X' E h' → hk_WX G l d y b nL ret hh Q X (k - k') (n - n') h' pc lv st E) : hk_W G l d y b nL ret hh Q X k n h pc lv st0 := by
  subst hp
  subst hst
  intro p e s m args below meth c H locs cells slots mc ms ls C hk hn hO hL hl
  obtain ⟨l1, l2, l3, l4, l5, l6, l7⟩ := L
  rcases l1 with l1 | ⟨host, l1⟩
  · exact hk_after (vx_runI (own := y.cls) (As := As) (rest := st) ⟨C.exec, C.bytes, C.maxL, C.own, C.words⟩ hc ⟨callB_of na C.words (hk_good l5) rfl rfl rfl (C.words _ l4) (C.words _ l1) ⟨l6.1, l6.2, l7⟩ hdp, l3, C.words _ l2⟩ ⟨hk_Pc_blind, fun U hU hW => hk_start C hO U hU hW⟩ rfl hna (hl.1.trans hL) rfl (lv_room hrm) hd ⟨Nat.le_trans (Nat.add_le_add_left hkk.1 _) hk, Nat.le_trans (Nat.add_le_add_left hkk.2 _) hn⟩) C hk hn hO hL hl hkk.1 hkk.2 kk kx
  · exact hk_after (vx_runIN (own := y.cls) (host := host) (As := As) (rest := st) ⟨C.exec, C.bytes, C.maxL, C.own, C.words⟩ hc ⟨va_cnB na C.words (hk_good l5) rfl rfl rfl (C.F.2.2.2.2.2.1 _ l1 rfl) (C.words _ l4) ⟨l6.1, l6.2, l7⟩ hdp, l3, C.words _ l2⟩ ⟨hk_Pc_blind, fun U hU hW => hk_start C hO U hU hW⟩ rfl hna (hl.1.trans hL) rfl (lv_room hrm) hd ⟨Nat.le_trans (Nat.add_le_add_left hkk.1 _) hk, Nat.le_trans (Nat.add_le_add_left hkk.2 _) hn⟩) C hk hn hO hL hl hkk.1 hkk.2 kk kx
theorem hk_objInit {a idx : Nat} (hd : decode b pc = .ok (.invokespecial idx, 3)) (hp : pc + 3 = pc') (L : Cond.methodLink y.cls idx objectInit ∈ hk_all ∧ Cond.instanceMethod objectInit ∈ hk_all ∧ Cond.code objectInit ⟨#[0xb1]⟩ 1 none ∈ hk_all) (hd1 : 1 ≤ d) (hrm : st = []) (kk : hk_W G l d y b nL ret hh Q X k n h pc' lv st) : hk_W G l d y b nL ret hh Q X k n h pc lv (.ref a :: st) := by
  subst hp
  subst hrm
  intro p e s m args below meth c H locs cells slots mc ms ls C hk hn hO hL hl
  refine W.objInit C.exec C.bytes C.own (C.words _ L.1) (C.words _ L.2.1) (C.words _ L.2.2) rfl (by rw [C.maxL]; exact hl.1.trans hL) rfl hd ?_ ?_ ?_
  · show 1 ≤ d
    exact hd1
  · show _ ≤ 64 * d
    simp
    omega
  · exact W.eq (g2 := F0 m (pc + 3) ls []) rfl (kk p e s m args below meth c H locs cells slots mc ms ls C hk hn hO hL hl)
-- a new object of class ci
def hk_nw (own : String) (idx ci N : Nat) (fs : List Value) : Prop := ∃ (K : String) (T : u_T) (ty : Nat → FieldType), hk_cls ci K T N ty ∧ Cond.classLink own idx K ∈ hk_all ∧ Cond.instantiable K N ∈ hk_all ∧ Cond.initialized K ∈ hk_all ∧ ∀ j, j < N → defaultValue (ty j) = vp_V fs j
theorem hk_new {idx ci N : Nat} {fs : List Value} (hd : decode b pc = .ok (.new idx, 3)) (hp : pc + 3 = pc') (L : hk_nw y.cls idx ci N fs) (hb : 1 ≤ k ∧ N ≤ n) (kk : ∀ q : Nat, h q = none → hk_W G l d y b nL ret hh Q X (k - 1) (n - N) (hk_set h q (.inr (ci, fs))) pc' lv (.ref q :: st)) : hk_W G l d y b nL ret hh Q X k n h pc lv st := by
  subst hp
  intro p e s m args below meth c H locs cells slots mc ms ls C hk hn hO hL hl
  obtain ⟨K, T, ty, hc, h1, h2, h3, h4⟩ := L
  have hKn := C.F.1 ci _ hc.1
  refine W.newcK C.exec C.bytes C.own (C.words _ h1) (C.words _ h2) (C.words _ h3) rfl hd (by show cells + 1 ≤ mc; omega) (by show slots + N ≤ ms; omega) hKn.2.1 rfl fun H1 kC hkC e1 z1 o1 => ?_
  have hA : hk_A G H.size := Nat.le_trans C.base hO.2.1
  obtain ⟨g1, g2⟩ := hO.1.push (x' := .inr (ci, fs)) hA ⟨_, hc.1, (u_born ty C.words hc.2.1 hKn hkC e1 hc.2.2.1).to h4⟩ o1
  exact kk H.size g1 p e s m args below meth c H1 locs (cells + 1) (slots + N) mc ms ls C (by omega) (by omega) ⟨g2, ⟨Nat.le_trans hO.2.1 (by omega), fun x hx1 hx2 => (o1 x (Nat.lt_of_lt_of_le hx1 hO.2.1)).trans (hO.2.2.1 x hx1 hx2), hO.2.2.2⟩⟩ hL hl
theorem hk_newa {at9 : ArrayType} {t N : Nat} {z : Int32} (hd : decode b pc = .ok (.newarray at9, 2)) (hp : pc + 2 = pc') (ht : t < 7) (hty : newarray.typeOf at9 = hk_ty t) (hdf : defaultValue (hk_ty t) = .int 0) (hra : ∀ (U : State) (cA : ClassId), va_RA U cA (hk_ty t) → U.vm.findClass ("[" ++ (hk_ty t).toString) = some cA) (hw : Cond.arrayClass (hk_ty t) ∈ hk_all) (hz : ¬ z < 0) (hN : z.toNatClampNeg = N) (hby : N * componentBytes (hk_ty t) ≤ 536870912) (hb : 1 ≤ k ∧ N ≤ n) (kk : ∀ q : Nat, h q = none → hk_W G l d y b nL ret hh Q X (k - 1) (n - N) (hk_set h q (.inl (t, N, .inl (fun _ => 0)))) pc' lv (.ref q :: st)) : hk_W G l d y b nL ret hh Q X k n h pc lv (.int z :: st) := by
  subst hp
  intro p e s m args below meth c H locs cells slots mc ms ls C hk hn hO hL hl
  refine va_newaK C.exec C.bytes (by rw [hty]; exact C.words _ hw) rfl hd rfl hz hN (by rw [hty]; exact hby) (by show cells + 1 ≤ mc; omega) (by show slots + N ≤ ms; omega) rfl fun H1 cA e1 z1 o1 hAr hNm => ?_
  have hcA : cA = hk_dA G t := by
    have h1 := hra s _ (C.F.2.1 t ht).2
    rw [hty] at hNm
    exact Option.some.inj (hNm.symm.trans h1)
  subst hcA
  have hA : hk_A G H.size := Nat.le_trans C.base hO.2.1
  obtain ⟨g1, g2⟩ := hO.1.push (x' := .inl (t, N, .inl (fun _ => 0))) hA (by show H1[H.size]? = some (arrV (hk_dA G t) N (fun _ => .int 0)); rw [e1, hty, hdf]) o1
  exact kk H.size g1 p e s m args below meth c H1 locs (cells + 1) (slots + N) mc ms ls C (by omega) (by omega) ⟨g2, ⟨Nat.le_trans hO.2.1 (by omega), fun x hx1 hx2 => (o1 x (Nat.lt_of_lt_of_le hx1 hO.2.1)).trans (hO.2.2.1 x hx1 hx2), hO.2.2.2⟩⟩ hL hl
theorem hk_newaL {at9 : ArrayType} {t N : Nat} {z : Int32} (hd : decode b pc = .ok (.newarray at9, 2)) (hp : pc + 2 = pc') (ht : t < 7) (hty : newarray.typeOf at9 = hk_ty t) (hdf : defaultValue (hk_ty t) = .long 0) (hra : ∀ (U : State) (cA : ClassId), va_RA U cA (hk_ty t) → U.vm.findClass ("[" ++ (hk_ty t).toString) = some cA) (hw : Cond.arrayClass (hk_ty t) ∈ hk_all) (hz : ¬ z < 0) (hN : z.toNatClampNeg = N) (hby : N * componentBytes (hk_ty t) ≤ 536870912) (hb : 1 ≤ k ∧ N ≤ n) (kk : ∀ q : Nat, h q = none → hk_W G l d y b nL ret hh Q X (k - 1) (n - N) (hk_set h q (.inl (t, N, .inr (.inl (fun _ => 0))))) pc' lv (.ref q :: st)) : hk_W G l d y b nL ret hh Q X k n h pc lv (.int z :: st) := by
  subst hp
  intro p e s m args below meth c H locs cells slots mc ms ls C hk hn hO hL hl
  refine va_newaK C.exec C.bytes (by rw [hty]; exact C.words _ hw) rfl hd rfl hz hN (by rw [hty]; exact hby) (by show cells + 1 ≤ mc; omega) (by show slots + N ≤ ms; omega) rfl fun H1 cA e1 z1 o1 hAr hNm => ?_
  have hcA : cA = hk_dA G t := by
    have h1 := hra s _ (C.F.2.1 t ht).2
    rw [hty] at hNm
    exact Option.some.inj (hNm.symm.trans h1)
  subst hcA
  have hA : hk_A G H.size := Nat.le_trans C.base hO.2.1
  obtain ⟨g1, g2⟩ := hO.1.push (x' := .inl (t, N, .inr (.inl (fun _ => 0)))) hA (by show H1[H.size]? = some (arrV (hk_dA G t) N (fun _ => .long 0)); rw [e1, hty, hdf]) o1
  exact kk H.size g1 p e s m args below meth c H1 locs (cells + 1) (slots + N) mc ms ls C (by omega) (by omega) ⟨g2, ⟨Nat.le_trans hO.2.1 (by omega), fun x hx1 hx2 => (o1 x (Nat.lt_of_lt_of_le hx1 hO.2.1)).trans (hO.2.2.1 x hx1 hx2), hO.2.2.2⟩⟩ hL hl
theorem hk_newaD {at9 : ArrayType} {t N : Nat} {z : Int32} (hd : decode b pc = .ok (.newarray at9, 2)) (hp : pc + 2 = pc') (ht : t < 7) (hty : newarray.typeOf at9 = hk_ty t) (hdf : defaultValue (hk_ty t) = .double 0) (hra : ∀ (U : State) (cA : ClassId), va_RA U cA (hk_ty t) → U.vm.findClass ("[" ++ (hk_ty t).toString) = some cA) (hw : Cond.arrayClass (hk_ty t) ∈ hk_all) (hz : ¬ z < 0) (hN : z.toNatClampNeg = N) (hby : N * componentBytes (hk_ty t) ≤ 536870912) (hb : 1 ≤ k ∧ N ≤ n) (kk : ∀ q : Nat, h q = none → hk_W G l d y b nL ret hh Q X (k - 1) (n - N) (hk_set h q (.inl (t, N, .inr (.inr (.inr (.inl (fun _ => 0))))))) pc' lv (.ref q :: st)) : hk_W G l d y b nL ret hh Q X k n h pc lv (.int z :: st) := by
  subst hp
  intro p e s m args below meth c H locs cells slots mc ms ls C hk hn hO hL hl
  refine va_newaK C.exec C.bytes (by rw [hty]; exact C.words _ hw) rfl hd rfl hz hN (by rw [hty]; exact hby) (by show cells + 1 ≤ mc; omega) (by show slots + N ≤ ms; omega) rfl fun H1 cA e1 z1 o1 hAr hNm => ?_
  have hcA : cA = hk_dA G t := by
    have h1 := hra s _ (C.F.2.1 t ht).2
    rw [hty] at hNm
    exact Option.some.inj (hNm.symm.trans h1)
  subst hcA
  have hA : hk_A G H.size := Nat.le_trans C.base hO.2.1
  obtain ⟨g1, g2⟩ := hO.1.push (x' := .inl (t, N, .inr (.inr (.inr (.inl (fun _ => 0)))))) hA (by show H1[H.size]? = some (arrV (hk_dA G t) N (fun _ => .double 0)); rw [e1, hty, hdf]) o1
  exact kk H.size g1 p e s m args below meth c H1 locs (cells + 1) (slots + N) mc ms ls C (by omega) (by omega) ⟨g2, ⟨Nat.le_trans hO.2.1 (by omega), fun x hx1 hx2 => (o1 x (Nat.lt_of_lt_of_le hx1 hO.2.1)).trans (hO.2.2.1 x hx1 hx2), hO.2.2.2⟩⟩ hL hl
-- throw new E("text")
def hk_th (ik ic : Nat) (E : String) : Prop := Bundle.fit E = true ∧ Cond.classLink RX6 ik E ∈ hk_all ∧ Cond.initialized E ∈ hk_all ∧ (∀ w ∈ (vx_atS RX6 ic E ["java/lang/RuntimeException", "java/lang/Exception"]).filter goodWord, w ∈ lw_tbl) ∧ (∀ w ∈ (vx_atS RX6 ic E ["java/lang/RuntimeException", "java/lang/Exception"]).filter (fun w => !goodWord w), w ∈ lw_tbl ∧ hk_isN w = true) ∧ ∀ w ∈ Cond.classLink RX6 ik E :: Cond.initialized E :: vx_atS RX6 ic E ["java/lang/RuntimeException", "java/lang/Exception"], vx_ot w = true
theorem hk_Nw_use {w : Cond} (hw : hk_isN w = true) {A : Array Value} {U : State} (h : va_Nw w U) : w.before A U = true := va_Nw.use (by cases w <;> simp_all [hk_isN, Cond.onTables]) h
theorem hk_throw {ik ic is : Nat} {E tx : String} (hy : y.cls = RX6) (hh0 : hh = []) (L : hk_th ik ic E) (hs : (is, tx) ∈ hk_strs) (d0 : decode b pc = .ok (.new ik, 3)) (d3 : decode b (pc + 3) = .ok (.dup, 1)) (d4 : decode b (pc + 4) = .ok (.ldc is, 2)) (d6 : decode b (pc + 6) = .ok (.invokespecial ic, 3)) (d9 : decode b (pc + 9) = .ok (.athrow, 1)) (hd6 : 6 ≤ d) (hb : 1 ≤ k ∧ 6 ≤ n) (hrm : (st.map fun v => v.category).sum ≤ 8) (hx : X E h) : hk_W G l d y b nL ret hh Q X k n h pc lv st := by
  subst hh0
  intro p e s m args below meth c H locs cells slots mc ms ls C hk hn hO hL hl
  obtain ⟨l1, l2, l3, l4, l5, l6⟩ := L
  have hown := C.own
  rw [hy] at hown
  have hat : ∀ w ∈ vx_atS RX6 ic E ["java/lang/RuntimeException", "java/lang/Exception"], w.before args s = true := fun w hw => by
    by_cases g : goodWord w = true
    · exact C.words w (List.mem_filter.mpr ⟨l4 w (List.mem_filter.mpr ⟨hw, g⟩), g⟩)
    · obtain ⟨q1, q2⟩ := l5 w (List.mem_filter.mpr ⟨hw, by simp [g]⟩)
      exact hk_Nw_use q2 (C.F.2.2.2.2.2.1 w q1 q2)
  exact vx_throwS C.exec C.bytes C.flag hown l1 (by decide) (C.words _ l2) (C.words _ l3) (C.F.2.2.2.2.1 _ hs) hat l6 C.F.2.2.1 C.F.2.2.2.1 hO.2 ((hl.1.trans hL).trans C.maxL.symm) d0 d3 d4 d6 d9 (by intro x hx; rw [C.table] at hx; cases hx) (by show 2 + 3 < d; omega) (by show _ ≤ 64 * d; simp only [List.length_cons, List.length_nil]; omega) (by show cells + 1 ≤ mc; omega) (by show slots + 6 ≤ ms; omega) C.locks (fun t hA hz ho => ⟨h, hx, fun a x hax => ⟨(hO.1 a x hax).1, (hO.1 a x hax).2.kept (ho a (hO.1.lt hax))⟩, ⟨Nat.le_trans hO.2.1 hz, fun q h1 h2 => (ho q (Nat.lt_of_lt_of_le h1 hO.2.1)).trans (hO.2.2.1 q h1 h2)⟩⟩) hO.2.2.2 (by omega) (by omega)
theorem hk_throwW {ik ic is : Nat} {E tx : String} (hy : y.cls = RX6) (hh0 : hh = []) (L : hk_th ik ic E) (hs : (is, tx) ∈ hk_strs) (d0 : decode b pc = .ok (.new ik, 3)) (d3 : decode b (pc + 3) = .ok (.dup, 1)) (d4 : decode b (pc + 4) = .ok (.ldc_w is, 3)) (d6 : decode b (pc + 7) = .ok (.invokespecial ic, 3)) (d9 : decode b (pc + 10) = .ok (.athrow, 1)) (hd6 : 6 ≤ d) (hb : 1 ≤ k ∧ 6 ≤ n) (hrm : (st.map fun v => v.category).sum ≤ 8) (hx : X E h) : hk_W G l d y b nL ret hh Q X k n h pc lv st := by
  subst hh0
  intro p e s m args below meth c H locs cells slots mc ms ls C hk hn hO hL hl
  obtain ⟨l1, l2, l3, l4, l5, l6⟩ := L
  have hown := C.own
  rw [hy] at hown
  have hat : ∀ w ∈ vx_atS RX6 ic E ["java/lang/RuntimeException", "java/lang/Exception"], w.before args s = true := fun w hw => by
    by_cases g : goodWord w = true
    · exact C.words w (List.mem_filter.mpr ⟨l4 w (List.mem_filter.mpr ⟨hw, g⟩), g⟩)
    · obtain ⟨q1, q2⟩ := l5 w (List.mem_filter.mpr ⟨hw, by simp [g]⟩)
      exact hk_Nw_use q2 (C.F.2.2.2.2.2.1 w q1 q2)
  exact vx_throwSW C.exec C.bytes C.flag hown l1 (by decide) (C.words _ l2) (C.words _ l3) (C.F.2.2.2.2.1 _ hs) hat l6 C.F.2.2.1 C.F.2.2.2.1 hO.2 ((hl.1.trans hL).trans C.maxL.symm) d0 d3 d4 d6 d9 (by intro x hx; rw [C.table] at hx; cases hx) (by show 2 + 3 < d; omega) (by show _ ≤ 64 * d; simp only [List.length_cons, List.length_nil]; omega) (by show cells + 1 ≤ mc; omega) (by show slots + 6 ≤ ms; omega) C.locks (fun t hA hz ho => ⟨h, hx, fun a x hax => ⟨(hO.1 a x hax).1, (hO.1 a x hax).2.kept (ho a (hO.1.lt hax))⟩, ⟨Nat.le_trans hO.2.1 hz, fun q h1 h2 => (ho q (Nat.lt_of_lt_of_le h1 hO.2.1)).trans (hO.2.2.1 q h1 h2)⟩⟩) hO.2.2.2 (by omega) (by omega)
end HK2
end
