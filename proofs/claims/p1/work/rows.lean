section
-- ===== PART A: goes FIRST, ahead of the names: the tables' words, and 'selects' of the private methods out of them =====
/-- a private method of a class that the tables say can be made, by its rows of tables_1 -/
def lw_okq (q : MethodName × Nat) : Prop := (q.1.cls ≠ "java/lang/invoke/MethodHandle" ∧ q.1.cls ≠ "java/lang/invoke/VarHandle") ∧ Cond.instantiable q.1.cls q.2 ∈ tables_1 ∧ Cond.privateMethod q.1 ∈ tables_1 ∧ Cond.instanceMethod q.1 ∈ tables_1
theorem lw_p0 : lw_okq (⟨"WeekBank", "flatAt", "(I)LWeekBank$Flat;"⟩, 13) := ⟨⟨by decide +kernel, by decide +kernel⟩, List.mem_of_getElem? (i := 23) (by decide +kernel), List.mem_of_getElem? (i := 286) (by decide +kernel), List.mem_of_getElem? (i := 287) (by decide +kernel)⟩
theorem lw_p1 : lw_okq (⟨"WeekBank", "livingOwnerAt", "(I)LWeekBank$Owner;"⟩, 13) := ⟨⟨by decide +kernel, by decide +kernel⟩, List.mem_of_getElem? (i := 23) (by decide +kernel), List.mem_of_getElem? (i := 290) (by decide +kernel), List.mem_of_getElem? (i := 291) (by decide +kernel)⟩
theorem lw_p2 : lw_okq (⟨"WeekBank", "ownerAt", "(I)LWeekBank$Owner;"⟩, 13) := ⟨⟨by decide +kernel, by decide +kernel⟩, List.mem_of_getElem? (i := 23) (by decide +kernel), List.mem_of_getElem? (i := 294) (by decide +kernel), List.mem_of_getElem? (i := 295) (by decide +kernel)⟩
theorem lw_p3 : lw_okq (⟨"WeekBank$Reader", "readToken", "()V"⟩, 8) := ⟨⟨by decide +kernel, by decide +kernel⟩, List.mem_of_getElem? (i := 37) (by decide +kernel), List.mem_of_getElem? (i := 338) (by decide +kernel), List.mem_of_getElem? (i := 339) (by decide +kernel)⟩
theorem lw_p4 : lw_okq (⟨"WeekBank$Reader", "skipLetters", "()V"⟩, 8) := ⟨⟨by decide +kernel, by decide +kernel⟩, List.mem_of_getElem? (i := 37) (by decide +kernel), List.mem_of_getElem? (i := 348) (by decide +kernel), List.mem_of_getElem? (i := 349) (by decide +kernel)⟩
theorem lw_p5 : lw_okq (⟨"WeekBank$Reader", "readDigits", "()V"⟩, 8) := ⟨⟨by decide +kernel, by decide +kernel⟩, List.mem_of_getElem? (i := 37) (by decide +kernel), List.mem_of_getElem? (i := 355) (by decide +kernel), List.mem_of_getElem? (i := 356) (by decide +kernel)⟩
theorem lw_p6 : lw_okq (⟨"WeekBank$Reader", "readStatement", "(LWeekBank$Rules;)V"⟩, 8) := ⟨⟨by decide +kernel, by decide +kernel⟩, List.mem_of_getElem? (i := 37) (by decide +kernel), List.mem_of_getElem? (i := 359) (by decide +kernel), List.mem_of_getElem? (i := 360) (by decide +kernel)⟩
theorem lw_p7 : lw_okq (⟨"WeekBank$Reader", "statementKind", "()I"⟩, 8) := ⟨⟨by decide +kernel, by decide +kernel⟩, List.mem_of_getElem? (i := 37) (by decide +kernel), List.mem_of_getElem? (i := 363) (by decide +kernel), List.mem_of_getElem? (i := 364) (by decide +kernel)⟩
theorem lw_p8 : lw_okq (⟨"WeekBank$Reader", "isWord", "(Ljava/lang/String;)Z"⟩, 8) := ⟨⟨by decide +kernel, by decide +kernel⟩, List.mem_of_getElem? (i := 37) (by decide +kernel), List.mem_of_getElem? (i := 368) (by decide +kernel), List.mem_of_getElem? (i := 369) (by decide +kernel)⟩
theorem lw_p9 : lw_okq (⟨"WeekBank$Reader", "blame", "(I)V"⟩, 8) := ⟨⟨by decide +kernel, by decide +kernel⟩, List.mem_of_getElem? (i := 37) (by decide +kernel), List.mem_of_getElem? (i := 423) (by decide +kernel), List.mem_of_getElem? (i := 424) (by decide +kernel)⟩
theorem lw_p10 : lw_okq (⟨"WeekBank$Reader", "readRest", "(LWeekBank$Rules;I)V"⟩, 8) := ⟨⟨by decide +kernel, by decide +kernel⟩, List.mem_of_getElem? (i := 37) (by decide +kernel), List.mem_of_getElem? (i := 427) (by decide +kernel), List.mem_of_getElem? (i := 428) (by decide +kernel)⟩
theorem lw_p11 : lw_okq (⟨"WeekBank$Reader", "expectNumber", "(II)I"⟩, 8) := ⟨⟨by decide +kernel, by decide +kernel⟩, List.mem_of_getElem? (i := 37) (by decide +kernel), List.mem_of_getElem? (i := 431) (by decide +kernel), List.mem_of_getElem? (i := 432) (by decide +kernel)⟩
theorem lw_p12 : lw_okq (⟨"WeekBank$Reader", "expectBound", "()Z"⟩, 8) := ⟨⟨by decide +kernel, by decide +kernel⟩, List.mem_of_getElem? (i := 37) (by decide +kernel), List.mem_of_getElem? (i := 452) (by decide +kernel), List.mem_of_getElem? (i := 453) (by decide +kernel)⟩
theorem lw_p13 : lw_okq (⟨"WeekBank$Reader", "expectSign", "()V"⟩, 8) := ⟨⟨by decide +kernel, by decide +kernel⟩, List.mem_of_getElem? (i := 37) (by decide +kernel), List.mem_of_getElem? (i := 458) (by decide +kernel), List.mem_of_getElem? (i := 459) (by decide +kernel)⟩
theorem lw_p14 : lw_okq (⟨"WeekBank$Rules", "earlyOf", "(I)I"⟩, 5) := ⟨⟨by decide +kernel, by decide +kernel⟩, List.mem_of_getElem? (i := 72) (by decide +kernel), List.mem_of_getElem? (i := 475) (by decide +kernel), List.mem_of_getElem? (i := 476) (by decide +kernel)⟩
theorem lw_p15 : lw_okq (⟨"WeekBank", "countGifts", "(I)I"⟩, 13) := ⟨⟨by decide +kernel, by decide +kernel⟩, List.mem_of_getElem? (i := 23) (by decide +kernel), List.mem_of_getElem? (i := 486) (by decide +kernel), List.mem_of_getElem? (i := 487) (by decide +kernel)⟩
def lw_privs_1 : List (MethodName × Nat) := [(⟨"WeekBank", "flatAt", "(I)LWeekBank$Flat;"⟩, 13), (⟨"WeekBank", "livingOwnerAt", "(I)LWeekBank$Owner;"⟩, 13), (⟨"WeekBank", "ownerAt", "(I)LWeekBank$Owner;"⟩, 13), (⟨"WeekBank$Reader", "readToken", "()V"⟩, 8), (⟨"WeekBank$Reader", "skipLetters", "()V"⟩, 8), (⟨"WeekBank$Reader", "readDigits", "()V"⟩, 8), (⟨"WeekBank$Reader", "readStatement", "(LWeekBank$Rules;)V"⟩, 8), (⟨"WeekBank$Reader", "statementKind", "()I"⟩, 8), (⟨"WeekBank$Reader", "isWord", "(Ljava/lang/String;)Z"⟩, 8), (⟨"WeekBank$Reader", "blame", "(I)V"⟩, 8), (⟨"WeekBank$Reader", "readRest", "(LWeekBank$Rules;I)V"⟩, 8), (⟨"WeekBank$Reader", "expectNumber", "(II)I"⟩, 8), (⟨"WeekBank$Reader", "expectBound", "()Z"⟩, 8), (⟨"WeekBank$Reader", "expectSign", "()V"⟩, 8), (⟨"WeekBank$Rules", "earlyOf", "(I)I"⟩, 5), (⟨"WeekBank", "countGifts", "(I)I"⟩, 13)]
theorem lw_r1 : ∀ q ∈ lw_privs_1, lw_okq q := List.forall_mem_cons.mpr ⟨lw_p0, List.forall_mem_cons.mpr ⟨lw_p1, List.forall_mem_cons.mpr ⟨lw_p2, List.forall_mem_cons.mpr ⟨lw_p3, List.forall_mem_cons.mpr ⟨lw_p4, List.forall_mem_cons.mpr ⟨lw_p5, List.forall_mem_cons.mpr ⟨lw_p6, List.forall_mem_cons.mpr ⟨lw_p7, List.forall_mem_cons.mpr ⟨lw_p8, List.forall_mem_cons.mpr ⟨lw_p9, List.forall_mem_cons.mpr ⟨lw_p10, List.forall_mem_cons.mpr ⟨lw_p11, List.forall_mem_cons.mpr ⟨lw_p12, List.forall_mem_cons.mpr ⟨lw_p13, List.forall_mem_cons.mpr ⟨lw_p14, List.forall_mem_cons.mpr ⟨lw_p15, fun _ h => absurd h List.not_mem_nil⟩⟩⟩⟩⟩⟩⟩⟩⟩⟩⟩⟩⟩⟩⟩⟩
theorem lw_p16 : lw_okq (⟨"WeekBank", "addGift", "(LWeekBank$Owner;LWeekBank$Flat;I)I"⟩, 13) := ⟨⟨by decide +kernel, by decide +kernel⟩, List.mem_of_getElem? (i := 23) (by decide +kernel), List.mem_of_getElem? (i := 490) (by decide +kernel), List.mem_of_getElem? (i := 491) (by decide +kernel)⟩
theorem lw_p17 : lw_okq (⟨"WeekBank", "giftThatIs", "(II)LWeekBank$Gift;"⟩, 13) := ⟨⟨by decide +kernel, by decide +kernel⟩, List.mem_of_getElem? (i := 23) (by decide +kernel), List.mem_of_getElem? (i := 550) (by decide +kernel), List.mem_of_getElem? (i := 551) (by decide +kernel)⟩
theorem lw_p18 : lw_okq (⟨"WeekBank", "giftAt", "(I)LWeekBank$Gift;"⟩, 13) := ⟨⟨by decide +kernel, by decide +kernel⟩, List.mem_of_getElem? (i := 23) (by decide +kernel), List.mem_of_getElem? (i := 554) (by decide +kernel), List.mem_of_getElem? (i := 555) (by decide +kernel)⟩
theorem lw_p19 : lw_okq (⟨"WeekBank$RingSearch", "findSuiting", "()V"⟩, 7) := ⟨⟨by decide +kernel, by decide +kernel⟩, List.mem_of_getElem? (i := 101) (by decide +kernel), List.mem_of_getElem? (i := 604) (by decide +kernel), List.mem_of_getElem? (i := 605) (by decide +kernel)⟩
theorem lw_p20 : lw_okq (⟨"WeekBank$RingSearch", "forgetBefore", "(I)V"⟩, 7) := ⟨⟨by decide +kernel, by decide +kernel⟩, List.mem_of_getElem? (i := 101) (by decide +kernel), List.mem_of_getElem? (i := 612) (by decide +kernel), List.mem_of_getElem? (i := 613) (by decide +kernel)⟩
theorem lw_p21 : lw_okq (⟨"WeekBank$RingSearch", "goOnFrom", "(II)V"⟩, 7) := ⟨⟨by decide +kernel, by decide +kernel⟩, List.mem_of_getElem? (i := 101) (by decide +kernel), List.mem_of_getElem? (i := 617) (by decide +kernel), List.mem_of_getElem? (i := 618) (by decide +kernel)⟩
theorem lw_p22 : lw_okq (⟨"WeekBank$RingSearch", "lengthen", "(III)V"⟩, 7) := ⟨⟨by decide +kernel, by decide +kernel⟩, List.mem_of_getElem? (i := 101) (by decide +kernel), List.mem_of_getElem? (i := 636) (by decide +kernel), List.mem_of_getElem? (i := 637) (by decide +kernel)⟩
theorem lw_p23 : lw_okq (⟨"WeekBank$RingSearch", "firstWay", "(I)I"⟩, 7) := ⟨⟨by decide +kernel, by decide +kernel⟩, List.mem_of_getElem? (i := 101) (by decide +kernel), List.mem_of_getElem? (i := 640) (by decide +kernel), List.mem_of_getElem? (i := 641) (by decide +kernel)⟩
theorem lw_p24 : lw_okq (⟨"WeekBank$RingSearch", "isBetter", "(I)Z"⟩, 7) := ⟨⟨by decide +kernel, by decide +kernel⟩, List.mem_of_getElem? (i := 101) (by decide +kernel), List.mem_of_getElem? (i := 644) (by decide +kernel), List.mem_of_getElem? (i := 645) (by decide +kernel)⟩
theorem lw_p25 : lw_okq (⟨"WeekBank$RingSearch", "sumWorth", "(I)I"⟩, 7) := ⟨⟨by decide +kernel, by decide +kernel⟩, List.mem_of_getElem? (i := 101) (by decide +kernel), List.mem_of_getElem? (i := 648) (by decide +kernel), List.mem_of_getElem? (i := 649) (by decide +kernel)⟩
theorem lw_p26 : lw_okq (⟨"WeekBank$RingSearch", "wholeWay", "(I)I"⟩, 7) := ⟨⟨by decide +kernel, by decide +kernel⟩, List.mem_of_getElem? (i := 101) (by decide +kernel), List.mem_of_getElem? (i := 652) (by decide +kernel), List.mem_of_getElem? (i := 653) (by decide +kernel)⟩
theorem lw_p27 : lw_okq (⟨"WeekBank$RingSearch", "swap", "(LWeekBank$Gift;I)V"⟩, 7) := ⟨⟨by decide +kernel, by decide +kernel⟩, List.mem_of_getElem? (i := 101) (by decide +kernel), List.mem_of_getElem? (i := 660) (by decide +kernel), List.mem_of_getElem? (i := 661) (by decide +kernel)⟩
theorem lw_p28 : lw_okq (⟨"WeekBank", "firstInLine", "()LWeekBank$Owner;"⟩, 13) := ⟨⟨by decide +kernel, by decide +kernel⟩, List.mem_of_getElem? (i := 23) (by decide +kernel), List.mem_of_getElem? (i := 680) (by decide +kernel), List.mem_of_getElem? (i := 681) (by decide +kernel)⟩
theorem lw_p29 : lw_okq (⟨"WeekBank", "bestBankedFor", "(LWeekBank$Owner;)LWeekBank$Gift;"⟩, 13) := ⟨⟨by decide +kernel, by decide +kernel⟩, List.mem_of_getElem? (i := 23) (by decide +kernel), List.mem_of_getElem? (i := 684) (by decide +kernel), List.mem_of_getElem? (i := 685) (by decide +kernel)⟩
theorem lw_p30 : lw_okq (⟨"WeekBank", "endUnusedGifts", "(I)V"⟩, 13) := ⟨⟨by decide +kernel, by decide +kernel⟩, List.mem_of_getElem? (i := 23) (by decide +kernel), List.mem_of_getElem? (i := 702) (by decide +kernel), List.mem_of_getElem? (i := 703) (by decide +kernel)⟩
theorem lw_p31 : lw_okq (⟨"WeekBank", "passAllWeeks", "(LWeekBank$Owner;LWeekBank$Owner;)V"⟩, 13) := ⟨⟨by decide +kernel, by decide +kernel⟩, List.mem_of_getElem? (i := 23) (by decide +kernel), List.mem_of_getElem? (i := 718) (by decide +kernel), List.mem_of_getElem? (i := 719) (by decide +kernel)⟩
def lw_privs_2 : List (MethodName × Nat) := [(⟨"WeekBank", "addGift", "(LWeekBank$Owner;LWeekBank$Flat;I)I"⟩, 13), (⟨"WeekBank", "giftThatIs", "(II)LWeekBank$Gift;"⟩, 13), (⟨"WeekBank", "giftAt", "(I)LWeekBank$Gift;"⟩, 13), (⟨"WeekBank$RingSearch", "findSuiting", "()V"⟩, 7), (⟨"WeekBank$RingSearch", "forgetBefore", "(I)V"⟩, 7), (⟨"WeekBank$RingSearch", "goOnFrom", "(II)V"⟩, 7), (⟨"WeekBank$RingSearch", "lengthen", "(III)V"⟩, 7), (⟨"WeekBank$RingSearch", "firstWay", "(I)I"⟩, 7), (⟨"WeekBank$RingSearch", "isBetter", "(I)Z"⟩, 7), (⟨"WeekBank$RingSearch", "sumWorth", "(I)I"⟩, 7), (⟨"WeekBank$RingSearch", "wholeWay", "(I)I"⟩, 7), (⟨"WeekBank$RingSearch", "swap", "(LWeekBank$Gift;I)V"⟩, 7), (⟨"WeekBank", "firstInLine", "()LWeekBank$Owner;"⟩, 13), (⟨"WeekBank", "bestBankedFor", "(LWeekBank$Owner;)LWeekBank$Gift;"⟩, 13), (⟨"WeekBank", "endUnusedGifts", "(I)V"⟩, 13), (⟨"WeekBank", "passAllWeeks", "(LWeekBank$Owner;LWeekBank$Owner;)V"⟩, 13)]
theorem lw_r2 : ∀ q ∈ lw_privs_2, lw_okq q := List.forall_mem_cons.mpr ⟨lw_p16, List.forall_mem_cons.mpr ⟨lw_p17, List.forall_mem_cons.mpr ⟨lw_p18, List.forall_mem_cons.mpr ⟨lw_p19, List.forall_mem_cons.mpr ⟨lw_p20, List.forall_mem_cons.mpr ⟨lw_p21, List.forall_mem_cons.mpr ⟨lw_p22, List.forall_mem_cons.mpr ⟨lw_p23, List.forall_mem_cons.mpr ⟨lw_p24, List.forall_mem_cons.mpr ⟨lw_p25, List.forall_mem_cons.mpr ⟨lw_p26, List.forall_mem_cons.mpr ⟨lw_p27, List.forall_mem_cons.mpr ⟨lw_p28, List.forall_mem_cons.mpr ⟨lw_p29, List.forall_mem_cons.mpr ⟨lw_p30, List.forall_mem_cons.mpr ⟨lw_p31, fun _ h => absurd h List.not_mem_nil⟩⟩⟩⟩⟩⟩⟩⟩⟩⟩⟩⟩⟩⟩⟩⟩
theorem lw_p32 : lw_okq (⟨"WeekBank$FeeRounds", "countOwned", "()I"⟩, 6) := ⟨⟨by decide +kernel, by decide +kernel⟩, List.mem_of_getElem? (i := 130) (by decide +kernel), List.mem_of_getElem? (i := 739) (by decide +kernel), List.mem_of_getElem? (i := 740) (by decide +kernel)⟩
theorem lw_p33 : lw_okq (⟨"WeekBank$FeeRounds", "someLeave", "()Z"⟩, 6) := ⟨⟨by decide +kernel, by decide +kernel⟩, List.mem_of_getElem? (i := 130) (by decide +kernel), List.mem_of_getElem? (i := 743) (by decide +kernel), List.mem_of_getElem? (i := 744) (by decide +kernel)⟩
theorem lw_p34 : lw_okq (⟨"WeekBank", "sumPoints", "()I"⟩, 13) := ⟨⟨by decide +kernel, by decide +kernel⟩, List.mem_of_getElem? (i := 23) (by decide +kernel), List.mem_of_getElem? (i := 767) (by decide +kernel), List.mem_of_getElem? (i := 768) (by decide +kernel)⟩
theorem lw_p35 : lw_okq (⟨"java/lang/Throwable", "fillInStackTrace", "(I)Ljava/lang/Throwable;"⟩, 6) := ⟨⟨by decide +kernel, by decide +kernel⟩, List.mem_of_getElem? (i := 815) (by decide +kernel), List.mem_of_getElem? (i := 813) (by decide +kernel), List.mem_of_getElem? (i := 814) (by decide +kernel)⟩
theorem lw_p36 : lw_okq (⟨"WeekBankModel", "isPlace", "(II)Z"⟩, 47) := ⟨⟨by decide +kernel, by decide +kernel⟩, List.mem_of_getElem? (i := 849) (by decide +kernel), List.mem_of_getElem? (i := 1012) (by decide +kernel), List.mem_of_getElem? (i := 1013) (by decide +kernel)⟩
theorem lw_p37 : lw_okq (⟨"WeekBankModel", "isAlive", "(I)Z"⟩, 47) := ⟨⟨by decide +kernel, by decide +kernel⟩, List.mem_of_getElem? (i := 849) (by decide +kernel), List.mem_of_getElem? (i := 1016) (by decide +kernel), List.mem_of_getElem? (i := 1017) (by decide +kernel)⟩
theorem lw_p38 : lw_okq (⟨"WeekBankModel", "givenAt", "(II)I"⟩, 47) := ⟨⟨by decide +kernel, by decide +kernel⟩, List.mem_of_getElem? (i := 849) (by decide +kernel), List.mem_of_getElem? (i := 1020) (by decide +kernel), List.mem_of_getElem? (i := 1021) (by decide +kernel)⟩
theorem lw_p39 : lw_okq (⟨"WeekBankModel", "next", "()V"⟩, 47) := ⟨⟨by decide +kernel, by decide +kernel⟩, List.mem_of_getElem? (i := 849) (by decide +kernel), List.mem_of_getElem? (i := 1036) (by decide +kernel), List.mem_of_getElem? (i := 1037) (by decide +kernel)⟩
theorem lw_p40 : lw_okq (⟨"WeekBankModel", "see", "(I)I"⟩, 47) := ⟨⟨by decide +kernel, by decide +kernel⟩, List.mem_of_getElem? (i := 849) (by decide +kernel), List.mem_of_getElem? (i := 1043) (by decide +kernel), List.mem_of_getElem? (i := 1044) (by decide +kernel)⟩
theorem lw_p41 : lw_okq (⟨"WeekBankModel", "readStatement", "()V"⟩, 47) := ⟨⟨by decide +kernel, by decide +kernel⟩, List.mem_of_getElem? (i := 849) (by decide +kernel), List.mem_of_getElem? (i := 1050) (by decide +kernel), List.mem_of_getElem? (i := 1051) (by decide +kernel)⟩
theorem lw_p42 : lw_okq (⟨"WeekBankModel", "isWord", "(Ljava/lang/String;)Z"⟩, 47) := ⟨⟨by decide +kernel, by decide +kernel⟩, List.mem_of_getElem? (i := 849) (by decide +kernel), List.mem_of_getElem? (i := 1055) (by decide +kernel), List.mem_of_getElem? (i := 1056) (by decide +kernel)⟩
theorem lw_p43 : lw_okq (⟨"WeekBankModel", "fails", "(I)V"⟩, 47) := ⟨⟨by decide +kernel, by decide +kernel⟩, List.mem_of_getElem? (i := 849) (by decide +kernel), List.mem_of_getElem? (i := 1064) (by decide +kernel), List.mem_of_getElem? (i := 1065) (by decide +kernel)⟩
theorem lw_p44 : lw_okq (⟨"WeekBankModel", "number", "(II)I"⟩, 47) := ⟨⟨by decide +kernel, by decide +kernel⟩, List.mem_of_getElem? (i := 849) (by decide +kernel), List.mem_of_getElem? (i := 1070) (by decide +kernel), List.mem_of_getElem? (i := 1071) (by decide +kernel)⟩
theorem lw_p45 : lw_okq (⟨"WeekBankModel", "worthOf", "(II)I"⟩, 47) := ⟨⟨by decide +kernel, by decide +kernel⟩, List.mem_of_getElem? (i := 849) (by decide +kernel), List.mem_of_getElem? (i := 1082) (by decide +kernel), List.mem_of_getElem? (i := 1083) (by decide +kernel)⟩
theorem lw_p46 : lw_okq (⟨"WeekBankModel", "many", "(I)I"⟩, 47) := ⟨⟨by decide +kernel, by decide +kernel⟩, List.mem_of_getElem? (i := 849) (by decide +kernel), List.mem_of_getElem? (i := 1090) (by decide +kernel), List.mem_of_getElem? (i := 1091) (by decide +kernel)⟩
theorem lw_p47 : lw_okq (⟨"WeekBankModel", "isGift", "(II)Z"⟩, 47) := ⟨⟨by decide +kernel, by decide +kernel⟩, List.mem_of_getElem? (i := 849) (by decide +kernel), List.mem_of_getElem? (i := 1098) (by decide +kernel), List.mem_of_getElem? (i := 1099) (by decide +kernel)⟩
def lw_privs_3 : List (MethodName × Nat) := [(⟨"WeekBank$FeeRounds", "countOwned", "()I"⟩, 6), (⟨"WeekBank$FeeRounds", "someLeave", "()Z"⟩, 6), (⟨"WeekBank", "sumPoints", "()I"⟩, 13), (⟨"java/lang/Throwable", "fillInStackTrace", "(I)Ljava/lang/Throwable;"⟩, 6), (⟨"WeekBankModel", "isPlace", "(II)Z"⟩, 47), (⟨"WeekBankModel", "isAlive", "(I)Z"⟩, 47), (⟨"WeekBankModel", "givenAt", "(II)I"⟩, 47), (⟨"WeekBankModel", "next", "()V"⟩, 47), (⟨"WeekBankModel", "see", "(I)I"⟩, 47), (⟨"WeekBankModel", "readStatement", "()V"⟩, 47), (⟨"WeekBankModel", "isWord", "(Ljava/lang/String;)Z"⟩, 47), (⟨"WeekBankModel", "fails", "(I)V"⟩, 47), (⟨"WeekBankModel", "number", "(II)I"⟩, 47), (⟨"WeekBankModel", "worthOf", "(II)I"⟩, 47), (⟨"WeekBankModel", "many", "(I)I"⟩, 47), (⟨"WeekBankModel", "isGift", "(II)Z"⟩, 47)]
theorem lw_r3 : ∀ q ∈ lw_privs_3, lw_okq q := List.forall_mem_cons.mpr ⟨lw_p32, List.forall_mem_cons.mpr ⟨lw_p33, List.forall_mem_cons.mpr ⟨lw_p34, List.forall_mem_cons.mpr ⟨lw_p35, List.forall_mem_cons.mpr ⟨lw_p36, List.forall_mem_cons.mpr ⟨lw_p37, List.forall_mem_cons.mpr ⟨lw_p38, List.forall_mem_cons.mpr ⟨lw_p39, List.forall_mem_cons.mpr ⟨lw_p40, List.forall_mem_cons.mpr ⟨lw_p41, List.forall_mem_cons.mpr ⟨lw_p42, List.forall_mem_cons.mpr ⟨lw_p43, List.forall_mem_cons.mpr ⟨lw_p44, List.forall_mem_cons.mpr ⟨lw_p45, List.forall_mem_cons.mpr ⟨lw_p46, List.forall_mem_cons.mpr ⟨lw_p47, fun _ h => absurd h List.not_mem_nil⟩⟩⟩⟩⟩⟩⟩⟩⟩⟩⟩⟩⟩⟩⟩⟩
theorem lw_p48 : lw_okq (⟨"WeekBankModel", "wishes", "(IIIII)Z"⟩, 47) := ⟨⟨by decide +kernel, by decide +kernel⟩, List.mem_of_getElem? (i := 849) (by decide +kernel), List.mem_of_getElem? (i := 1102) (by decide +kernel), List.mem_of_getElem? (i := 1103) (by decide +kernel)⟩
theorem lw_p49 : lw_okq (⟨"WeekBankModel", "chooses", "(IIII)V"⟩, 47) := ⟨⟨by decide +kernel, by decide +kernel⟩, List.mem_of_getElem? (i := 849) (by decide +kernel), List.mem_of_getElem? (i := 1114) (by decide +kernel), List.mem_of_getElem? (i := 1115) (by decide +kernel)⟩
theorem lw_p50 : lw_okq (⟨"WeekBankModel", "meets", "(II)Z"⟩, 47) := ⟨⟨by decide +kernel, by decide +kernel⟩, List.mem_of_getElem? (i := 849) (by decide +kernel), List.mem_of_getElem? (i := 1118) (by decide +kernel), List.mem_of_getElem? (i := 1119) (by decide +kernel)⟩
theorem lw_p51 : lw_okq (⟨"WeekBankModel", "isShort", "(I)Z"⟩, 47) := ⟨⟨by decide +kernel, by decide +kernel⟩, List.mem_of_getElem? (i := 849) (by decide +kernel), List.mem_of_getElem? (i := 1122) (by decide +kernel), List.mem_of_getElem? (i := 1123) (by decide +kernel)⟩
theorem lw_p52 : lw_okq (⟨"WeekBankModel", "isEven", "(I)Z"⟩, 47) := ⟨⟨by decide +kernel, by decide +kernel⟩, List.mem_of_getElem? (i := 849) (by decide +kernel), List.mem_of_getElem? (i := 1126) (by decide +kernel), List.mem_of_getElem? (i := 1127) (by decide +kernel)⟩
theorem lw_p53 : lw_okq (⟨"WeekBankModel", "goesTo", "(II)V"⟩, 47) := ⟨⟨by decide +kernel, by decide +kernel⟩, List.mem_of_getElem? (i := 849) (by decide +kernel), List.mem_of_getElem? (i := 1138) (by decide +kernel), List.mem_of_getElem? (i := 1139) (by decide +kernel)⟩
theorem lw_p54 : lw_okq (⟨"WeekBankModel", "nextInRush", "()I"⟩, 47) := ⟨⟨by decide +kernel, by decide +kernel⟩, List.mem_of_getElem? (i := 849) (by decide +kernel), List.mem_of_getElem? (i := 1146) (by decide +kernel), List.mem_of_getElem? (i := 1147) (by decide +kernel)⟩
theorem lw_p55 : lw_okq (⟨"WeekBankModel", "passes", "(I)V"⟩, 47) := ⟨⟨by decide +kernel, by decide +kernel⟩, List.mem_of_getElem? (i := 849) (by decide +kernel), List.mem_of_getElem? (i := 1159) (by decide +kernel), List.mem_of_getElem? (i := 1160) (by decide +kernel)⟩
theorem lw_p56 : lw_okq (⟨"WeekBankModel", "isBound", "()Z"⟩, 47) := ⟨⟨by decide +kernel, by decide +kernel⟩, List.mem_of_getElem? (i := 849) (by decide +kernel), List.mem_of_getElem? (i := 1171) (by decide +kernel), List.mem_of_getElem? (i := 1172) (by decide +kernel)⟩
theorem lw_p57 : lw_okq (⟨"WeekBankModel", "owned", "(I)I"⟩, 47) := ⟨⟨by decide +kernel, by decide +kernel⟩, List.mem_of_getElem? (i := 849) (by decide +kernel), List.mem_of_getElem? (i := 1180) (by decide +kernel), List.mem_of_getElem? (i := 1181) (by decide +kernel)⟩
theorem lw_p58 : lw_okq (⟨"WeekBankModel", "weeksThatStay", "()I"⟩, 47) := ⟨⟨by decide +kernel, by decide +kernel⟩, List.mem_of_getElem? (i := 849) (by decide +kernel), List.mem_of_getElem? (i := 1184) (by decide +kernel), List.mem_of_getElem? (i := 1185) (by decide +kernel)⟩
def lw_privs_4 : List (MethodName × Nat) := [(⟨"WeekBankModel", "wishes", "(IIIII)Z"⟩, 47), (⟨"WeekBankModel", "chooses", "(IIII)V"⟩, 47), (⟨"WeekBankModel", "meets", "(II)Z"⟩, 47), (⟨"WeekBankModel", "isShort", "(I)Z"⟩, 47), (⟨"WeekBankModel", "isEven", "(I)Z"⟩, 47), (⟨"WeekBankModel", "goesTo", "(II)V"⟩, 47), (⟨"WeekBankModel", "nextInRush", "()I"⟩, 47), (⟨"WeekBankModel", "passes", "(I)V"⟩, 47), (⟨"WeekBankModel", "isBound", "()Z"⟩, 47), (⟨"WeekBankModel", "owned", "(I)I"⟩, 47), (⟨"WeekBankModel", "weeksThatStay", "()I"⟩, 47)]
theorem lw_r4 : ∀ q ∈ lw_privs_4, lw_okq q := List.forall_mem_cons.mpr ⟨lw_p48, List.forall_mem_cons.mpr ⟨lw_p49, List.forall_mem_cons.mpr ⟨lw_p50, List.forall_mem_cons.mpr ⟨lw_p51, List.forall_mem_cons.mpr ⟨lw_p52, List.forall_mem_cons.mpr ⟨lw_p53, List.forall_mem_cons.mpr ⟨lw_p54, List.forall_mem_cons.mpr ⟨lw_p55, List.forall_mem_cons.mpr ⟨lw_p56, List.forall_mem_cons.mpr ⟨lw_p57, List.forall_mem_cons.mpr ⟨lw_p58, fun _ h => absurd h List.not_mem_nil⟩⟩⟩⟩⟩⟩⟩⟩⟩⟩⟩
def lw_privs : List (MethodName × Nat) := lw_privs_1 ++ (lw_privs_2 ++ (lw_privs_3 ++ (lw_privs_4)))
def lw_tbl : List Cond := k2_sels lw_privs ++ tables_1
theorem lw_privs_ok : ∀ q ∈ lw_privs, lw_okq q := by
  show ∀ q ∈ lw_privs_1 ++ (lw_privs_2 ++ (lw_privs_3 ++ (lw_privs_4))), lw_okq q
  exact List.forall_mem_append.mpr ⟨lw_r1, List.forall_mem_append.mpr ⟨lw_r2, List.forall_mem_append.mpr ⟨lw_r3, lw_r4⟩⟩⟩
end
section
/-! ===== BEGIN words of one list among another's, by their places ===== -/
theorem goodIn_r {big : List Cond} (ws : List Cond) (ps : List Nat) (hp : ws = ps.filterMap (fun i => big[i]?)) (h : ws.all goodWord = true) : GoodIn big ws := by
  intro w hw
  have h1 := List.all_eq_true.mp h w hw
  rw [hp] at hw
  obtain ⟨i, -, hi⟩ := List.mem_filterMap.mp hw
  have hm : w ∈ big := by first | exact List.mem_of_getElem? hi | exact List.getElem?_mem hi
  exact ⟨hm, good_of_word h1⟩
theorem goodIn_app {big a b : List Cond} (ha : GoodIn big a) (hb : GoodIn big b) : GoodIn big (a ++ b) := fun w h => (List.mem_append.mp h).elim (ha w) (hb w)
theorem goodIn_ca {big a b : List Cond} {c : Cond} (ha : GoodIn big (c :: a)) (hb : GoodIn big b) : GoodIn big (c :: (a ++ b)) := fun w h => (List.mem_cons.mp h).elim (fun e => ha w (List.mem_cons.mpr (Or.inl e))) (fun h => (List.mem_append.mp h).elim (fun h => ha w (List.mem_cons.mpr (Or.inr h))) (hb w))
theorem goodIn_sub {big ws : List Cond} (hm : ∀ w ∈ ws, w ∈ big) (h : ws.all goodWord = true) : GoodIn big ws := fun w hw => ⟨hm w hw, good_of_word (List.all_eq_true.mp h w hw)⟩
/-! ===== END ===== -/

/-! ===== BEGIN exceptions that leave a method, and their catching by the caller (launches without stack traces) ===== -/
section VXA
/-! The laws vx_back, vx_callV, vx_callS, vx_callSW, vx_throw0, vx_throwS follow proofs of the library, with one case more: JvmDerived/Free/Laws.lean (Back.of_free), Shelf42/LK1.lean (callV, callS), Shelf/KitTraced.lean (throwNew0V, throwNewS). -/
/-- where a method has thrown q: the class by its name, the cell, what was written, the world -/
def vx_T (XC : String → State → State → Prop) (st : State) (q : Addr) (t : State) (mc ms : Nat) (free : Addr → Prop) : Prop :=
  ∃ (E : String) (ce : Cell) (L : List Loc), XC E st t ∧ t.heap[q]? = some ce ∧ ce.vm = .none ∧ st.vm.findClass E = some ce.cls ∧ st.WarmedH t.vm ∧ st.sameButNew ({ t with vm := st.vm } : State) L mc ms ∧ ∀ z ∈ L, free z.base
def vx_Q (Qc : Array Value → State → Outcome → State → Prop) (XC : String → State → State → Prop) (mc ms : Nat) (free : Addr → Prop) : Array Value → State → Outcome → State → Prop := fun a st o t =>
  (Qc a st o t ∧ ∃ L, FrameEnd st o t L mc ms ∧ ∀ q ∈ L, free q.base) ∨ ∃ q, o = .threw q ∧ vx_T XC st q t mc ms free
/-- a callee that returns or throws -/
def vx_Met (l : Launch) (y : MethodName) (ws : List Cond) (rm : Room) (Pc : Array Value → State → Prop) (Qc : Array Value → State → Outcome → State → Prop) (XC : String → State → State → Prop) (mc ms : Nat) (free : Addr → Prop) : Prop :=
  MetFree l y (headSpec ws rm) Pc (fun _ _ _ _ _ => True) (vx_Q Qc XC mc ms free)
def vx_Post (XC : String → State → State → Prop) (mc ms : Nat) (free : Addr → Prop) : Pt → Array Value → Addr → Pt → Prop := fun A a q B =>
  ∃ (g : JFrame) (mk : MethodId) (t : State) (L : List Loc) (E : String) (ce : Cell), B.U.heap = t.heap ∧ B.U.vm = t.vm ∧ XC E (A.U.calling g mk a) t ∧ t.heap[q]? = some ce ∧ ce.vm = .none ∧ A.U.vm.findClass E = some ce.cls ∧ B.locs = A.locs ++ L ∧ (∀ z ∈ L, free z.base) ∧ B.cells = A.cells + mc ∧ B.slots = A.slots + ms
def vx_Back (l : Launch) (R : Room) (p : Program) (e : Env) (below : List Frame) (s : State) (sargs : Array Value) (y : MethodName) (len W9 : Nat)
    (Pre : Pt → Array Value → Prop) (Post : Pt → Array Value → Option Value → Pt → Prop) (PostX : Pt → Array Value → Addr → Pt → Prop) : Prop :=
  ∀ (m : MethodId) (meth : Method) (c : Code) (A : Pt) (g : JFrame) (ig : Instr) (mk : MethodId) (a : Array Value),
    Stand p l e R s m sargs below meth c A.U A.locs A.cells A.slots → g.method = m → g.locals.size = c.maxLocals → decode c.code g.pc = .ok (ig, len) →
    2 * g.monitorRoom + (g.stack.map fun v => v.category).sum ≤ W9 → A.U.methodNamed? y = some mk → Pre A a →
    (∃ (v : Option Value) (B : Pt), Stand p l e R s m sargs below meth c B.U B.locs B.cells B.slots ∧ Post A a v B ∧
      Steps p.tables e below (doInvoke e (A.U.setTop g) [] mk a).1 (B.U.setTop { g with pc := g.pc + len, stack := v.toList ++ g.stack })) ∨
    (∃ (q : Addr) (B : Pt), Stand p l e R s m sargs below meth c B.U B.locs B.cells B.slots ∧ PostX A a q B ∧
      Steps p.tables e below (doInvoke e (A.U.setTop g) [] mk a).1 ((B.U.setTop g).pushFrame (.throwing q)))
section Payer
variable {l : Launch} {R : Room} {p : Program} {e : Env} {below : List Frame} {s : State} {sargs : Array Value} {y : MethodName} {len W9 : Nat}
theorem vx_back {ws : List Cond} {rm : Room} {Pc : Array Value → State → Prop} {Qc : Array Value → State → Outcome → State → Prop} {XC : String → State → State → Prop} {mc ms : Nat} {free : Addr → Prop} {bytes : ByteArray} {maxL : Nat} {ret : Option FieldType}
    (hM : vx_Met l y ws rm Pc Qc XC mc ms free) (hblind : FrameBlind Pc) (hrc : rm.cells = mc) (hrs : rm.slots = ms)
    (hframes : rm.frames + 1 ≤ R.frames) (hlocals : W9 + (maxL + 11) + rm.locals ≤ R.locals)
    (hws : ∀ w ∈ ws, ∀ a' U, s.WarmedH U.vm → w.before a' U = true) (hcode : Cond.code y bytes maxL ret ∈ ws) (hinit : ∀ a' U, s.WarmedH U.vm → (Cond.initialized y.cls).before a' U = true) :
    vx_Back l R p e below s sargs y len W9 (PreOf R mc ms Pc) (PostOf Qc mc ms free) (vx_Post XC mc ms free) := by
  intro m meth c A g ig mk a X hg hsize hdg hW hn hp
  have h1 : (headSpec ws rm).pre.before a A.U = true := atoms_intro fun w hw => hws w hw _ _ X.warmed
  have h2 : (Cond.code y bytes maxL ret).before a A.U = true := hws _ hcode _ _ X.warmed
  have h3 : (Cond.initialized y.cls).before a A.U = true := hinit _ _ X.warmed
  have h4 : A.cells + (headSpec ws rm).room.cells ≤ R.cells := by rw [show (headSpec ws rm).room.cells = mc from hrc]; exact hp.1
  have h5 : A.slots + (headSpec ws rm).room.slots ≤ R.slots := by rw [show (headSpec ws rm).room.slots = ms from hrs]; exact hp.2.1
  have hPc : Pc a (A.U.calling g mk a) := hblind _ _ _ _ hp.2.2
  obtain ⟨U, Ls, c0, s0⟩ := A
  dsimp only [Pt.U, Pt.locs, Pt.cells, Pt.slots] at h1 h2 h3 h4 h5 X hn hPc ⊢
  obtain ⟨methY, cY, hmY, hcY, -, hlY, -, -, -, -⟩ := Cond.code_spec hn h2
  obtain ⟨kY, hkY, -⟩ := className_of_methodNamed hn
  have hinitY : kY.init = .initialized := Cond.initialized_spec (findClass_of_methodNamed hn) hkY h3
  have h : At U g.method c below := by rw [hg]; exact X.here
  have hlocals9 : W9 + (maxL + 11) + (headSpec ws rm).room.locals ≤ R.locals := hlocals
  have happ : (headSpec ws rm).appliesLoose y e.platform (U.calling g mk a) = true :=
    Spec.appliesLoose_calling (g := g) h hdg hn hkY hinitY
      (X.room_calling (g := g) (R' := (headSpec ws rm).room) hsize hmY hcY hframes (by rw [hlY]; omega) h4 h5) h1
  obtain ⟨mid, hmid⟩ := h.above
  have hfr : (U.setTop g).frames = (.java g :: mid) ++ below := by rw [State.frames_setTop' g h.top, hmid]; rfl
  obtain ⟨o, s₂, hsteps, -, hend, hq⟩ := Steps.callFree hM p X.admits X.cas X.clock (acts := []) hfr happ hPc trivial
  have hq' : vx_Q Qc XC mc ms free a (U.calling g mk a) o s₂ := hq
  rw [State.frames_setTop' g h.top] at hend
  obtain ⟨g₀, hg0⟩ := Option.isSome_iff_exists.mp h.top
  obtain ⟨r, hr⟩ := State.topJava?_eq_some.mp hg0
  have hr' : (({ U with heap := s₂.heap, slotsUsed := s₂.slotsUsed } : State).setVm s₂.vm).frames = .java g₀ :: r := hr
  rcases hq' with ⟨hqc, L, hfe, hL⟩ | ⟨q, rfl, E, ce, L, hx, hce, hcv, hcl, hW₂, hsm, hL⟩
  · obtain ⟨⟨v, rfl⟩, hW₂, e2, q2, q3, q4, q5, q6⟩ := id hfe
    have e3 : s₂ = ({ (U.calling g mk a).setFrames s₂.frames with heap := s₂.heap, slotsUsed := s₂.slotsUsed } : State).setVm s₂.vm := by
      have : s₂ = ({ s₂ with vm := (U.calling g mk a).vm } : State).setVm s₂.vm := rfl
      rw [e2] at this
      exact this
    obtain ⟨c₂, i₂, len₂, hc₂, hd₂, hf₂⟩ := hend
    have hW' : U.WarmedH s₂.vm := hW₂
    have hcc : c₂ = c := by
      have h1 : s₂.code? g.method = U.code? g.method := by
        rw [State.code?_eq, State.code?_eq, hW'.alike.method?]
      exact Option.some.inj (hc₂.symm.trans (h1.trans h.code))
    subst hcc
    have hlen : len₂ = len := by rw [hdg] at hd₂; cases hd₂; rfl
    subst hlen
    have hs₂ : s₂ = (({ U with heap := s₂.heap, slotsUsed := s₂.slotsUsed } : State).setVm s₂.vm).setTop { g with pc := g.pc + len₂, stack := v.toList ++ g.stack } := by
      refine e3.trans ?_
      rw [hf₂, State.calling_eq h.top, State.setFrames_setFrames, State.setTop_of_frames _ hr', hr]
      rfl
    have hsame : U.sameButNew ({ U with heap := s₂.heap, slotsUsed := s₂.slotsUsed } : State) L mc ms := by
      refine ⟨?_, q2, q3, q4, q5, q6⟩
      obtain ⟨t, ht, -⟩ := State.frames_cons hr
      show ({ U with heap := s₂.heap, slotsUsed := s₂.slotsUsed } : State) = { U.setFrames U.frames with heap := s₂.heap, slotsUsed := s₂.slotsUsed }
      rw [State.setFrames_self ht]
    subst hg
    refine Or.inl ⟨v, ⟨(({ U with heap := s₂.heap, slotsUsed := s₂.slotsUsed } : State).setVm s₂.vm), Ls ++ L, c0 + mc, s0 + ms⟩,
      ⟨X.admits, X.cas, X.clock, X.frames, X.room, X.hears, X.method, X.code, (X.here.setHeapUsed s₂.heap s₂.slotsUsed).setVm hW'.alike, X.tail, State.WarmedH.trans X.warmed hW', X.limits, X.bytes, X.same.trans (hsame.setVm s.vm)⟩,
      ⟨g, mk, s₂, L, rfl, rfl, hqc, rfl, hL, rfl, rfl⟩, ?_⟩
    show Steps p.tables e below _ ((({ U with heap := s₂.heap, slotsUsed := s₂.slotsUsed } : State).setVm s₂.vm).setTop { g with pc := g.pc + len₂, stack := v.toList ++ g.stack })
    rw [← hs₂]
    exact hsteps
  · obtain ⟨e2, q2, q3, q4, q5, q6⟩ := id hsm
    have e3 : s₂ = ({ (U.calling g mk a).setFrames s₂.frames with heap := s₂.heap, slotsUsed := s₂.slotsUsed } : State).setVm s₂.vm := by
      have : s₂ = ({ s₂ with vm := (U.calling g mk a).vm } : State).setVm s₂.vm := rfl
      rw [e2] at this
      exact this
    have hf₂ : s₂.frames = .throwing q :: .java g :: U.frames.tail := hend
    have hW' : U.WarmedH s₂.vm := hW₂
    have hs₂ : s₂ = ((({ U with heap := s₂.heap, slotsUsed := s₂.slotsUsed } : State).setVm s₂.vm).setTop g).pushFrame (.throwing q) := by
      refine e3.trans ?_
      rw [hf₂, State.calling_eq h.top, State.setFrames_setFrames, State.pushFrame, State.frames_setTop _ hr', State.setTop_of_frames _ hr', State.setFrames_setFrames, hr]
      rfl
    have hsame : U.sameButNew ({ U with heap := s₂.heap, slotsUsed := s₂.slotsUsed } : State) L mc ms := by
      refine ⟨?_, q2, q3, q4, q5, q6⟩
      obtain ⟨t, ht, -⟩ := State.frames_cons hr
      show ({ U with heap := s₂.heap, slotsUsed := s₂.slotsUsed } : State) = { U.setFrames U.frames with heap := s₂.heap, slotsUsed := s₂.slotsUsed }
      rw [State.setFrames_self ht]
    subst hg
    refine Or.inr ⟨q, ⟨(({ U with heap := s₂.heap, slotsUsed := s₂.slotsUsed } : State).setVm s₂.vm), Ls ++ L, c0 + mc, s0 + ms⟩,
      ⟨X.admits, X.cas, X.clock, X.frames, X.room, X.hears, X.method, X.code, (X.here.setHeapUsed s₂.heap s₂.slotsUsed).setVm hW'.alike, X.tail, State.WarmedH.trans X.warmed hW', X.limits, X.bytes, X.same.trans (hsame.setVm s.vm)⟩,
      ⟨g, mk, s₂, L, E, ce, rfl, rfl, hx, hce, hcv, hcl, rfl, hL, rfl, rfl⟩, ?_⟩
    show Steps p.tables e below _ (((({ U with heap := s₂.heap, slotsUsed := s₂.slotsUsed } : State).setVm s₂.vm).setTop g).pushFrame (.throwing q))
    rw [← hs₂]
    exact hsteps
end Payer
section Calls
variable {p : Program} {l : Launch} {e : Env} {R : Room} {s : State} {m : MethodId} {args : Array Value} {below : List Frame} {meth : Method} {c : Code} {T : State} {locs : List Loc} {cells slots : Nat}
theorem vx_callV (X : Stand p l e R s m args below meth c T locs cells slots) (hexec : p.tables.exec = Jvm.exec) {own C : String} {index : Nat} {y : MethodName} {bytes : ByteArray} {maxL : Nat} {ret : Option FieldType}
    (hown : s.vm.findClass own = some m.cls) (hlink : (Cond.methodLink own index y).before args s = true) (hinst : (Cond.instanceMethod y).before args s = true) (hsel : (Cond.selects C y y).before args s = true)
    (hcode : (Cond.code y bytes maxL ret).before args s = true) (hy : y.cls ≠ "java/lang/invoke/MethodHandle" ∧ y.cls ≠ "java/lang/invoke/VarHandle")
    {W9 : Nat} {Pre : Pt → Array Value → Prop} {Post : Pt → Array Value → Option Value → Pt → Prop} {PostX : Pt → Array Value → Addr → Pt → Prop} (hK : vx_Back l R p e below s args y 3 W9 Pre Post PostX)
    {b : Addr} {cellB : Cell} (hcell : T.heap[b]? = some cellB) (hobj : cellB.vm.isStatics = false) (hcls : s.vm.findClass C = some cellB.cls)
    {g : JFrame} (hg : g.method = m) (hsize : g.locals.size = c.maxLocals) {argsL rest : List Value} (hlen : ∀ sig, parseMethodDescriptor y.desc = some sig → argsL.length = sig.parameters.length)
    (hstack : g.stack = argsL.reverse ++ .ref b :: rest) (hW : 2 * g.monitorRoom + (rest.map fun v => v.category).sum ≤ W9) (hdg : decode c.code g.pc = .ok (.invokevirtual index, 3))
    (hpre : ∀ vm₁, s.WarmedH vm₁ → Pre ⟨T.setVm vm₁, locs, cells, slots⟩ (Value.ref b :: argsL).toArray) :
    (∃ (v : Option Value) (vm₁ : Vm) (B : Pt), s.WarmedH vm₁ ∧ Stand p l e R s m args below meth c B.U B.locs B.cells B.slots ∧ Post ⟨T.setVm vm₁, locs, cells, slots⟩ (Value.ref b :: argsL).toArray v B ∧
      ∀ target, Steps p.tables e below (B.U.setTop { g with pc := g.pc + 3, stack := v.toList ++ rest }) target → Steps p.tables e below (T.setTop g) target) ∨
    (∃ (q : Addr) (vm₁ : Vm) (B : Pt), s.WarmedH vm₁ ∧ Stand p l e R s m args below meth c B.U B.locs B.cells B.slots ∧ PostX ⟨T.setVm vm₁, locs, cells, slots⟩ (Value.ref b :: argsL).toArray q B ∧
      Steps p.tables e below (T.setTop g) ((B.U.setTop { g with stack := rest }).pushFrame (.throwing q))) := by
  obtain ⟨mk, methM, hnamed, hmethM, hstM, habM⟩ := Cond.instanceMethod_spec hinst
  obtain ⟨methM', cM, hmethM', -, -, -, -, -, -, hsigM⟩ := Cond.code_spec hnamed hcode
  cases hmethM.symm.trans hmethM'
  obtain ⟨c2, r2, m2, q1, q2, q3, q4, kP, hkP, hkPi⟩ := Cond.selects_spec hsel
  cases hcls.symm.trans q1
  cases (State.methodFound?_of_named hnamed hy).symm.trans q2
  cases hnamed.symm.trans q3
  have hselP : selectMethod e.platform s.vm cellB.cls mk = .method mk := by rw [Launch.admits_selectMethod X.admits]; exact q4
  obtain ⟨vm₁, X₁, hstep₁⟩ := X.invokevirtual hexec hown hlink hnamed hmethM hstM hkP hkPi hy (a := b) (cell := cellB) hcell
    (fun z h => by rw [h] at hobj; cases hobj) hselP hmethM habM hkP hkPi (g := g) hg (argsL := argsL) (rest := rest) (hlen _ hsigM) hstack hdg
  rcases hK m meth c ⟨T.setVm vm₁, locs, cells, slots⟩ { g with stack := rest } (.invokevirtual index) mk (Value.ref b :: argsL).toArray X₁ hg hsize hdg hW (X₁.named hnamed) (hpre vm₁ X₁.warmed) with ⟨v, B, X', hpost, hsteps⟩ | ⟨q, B, X', hpost, hsteps⟩
  · exact Or.inl ⟨v, vm₁, B, X₁.warmed, X', hpost, fun target h => hstep₁ _ fun acts => by rw [doInvoke_state]; exact hsteps.trans h⟩
  · exact Or.inr ⟨q, vm₁, B, X₁.warmed, X', hpost, hstep₁ _ fun acts => by rw [doInvoke_state]; exact hsteps⟩
theorem vx_callS (X : Stand p l e R s m args below meth c T locs cells slots) (hexec : p.tables.exec = Jvm.exec) {own : String} {index : Nat} {y : MethodName} {bytes : ByteArray} {maxL : Nat} {ret : Option FieldType}
    (hown : s.vm.findClass own = some m.cls) (hlink : (Cond.methodLink own index y).before args s = true) (hstat : (Cond.static y).before args s = true) (hinit : (Cond.initialized y.cls).before args s = true)
    (hcode : (Cond.code y bytes maxL ret).before args s = true) (hy : y.cls ≠ "java/lang/invoke/MethodHandle" ∧ y.cls ≠ "java/lang/invoke/VarHandle")
    {W9 : Nat} {Pre : Pt → Array Value → Prop} {Post : Pt → Array Value → Option Value → Pt → Prop} {PostX : Pt → Array Value → Addr → Pt → Prop} (hK : vx_Back l R p e below s args y 3 W9 Pre Post PostX)
    {g : JFrame} (hg : g.method = m) (hsize : g.locals.size = c.maxLocals) {argsL rest : List Value} (hlen : ∀ sig, parseMethodDescriptor y.desc = some sig → argsL.length = sig.parameters.length)
    (hstack : g.stack = argsL.reverse ++ rest) (hW : 2 * g.monitorRoom + (rest.map fun v => v.category).sum ≤ W9) (hdg : decode c.code g.pc = .ok (.invokestatic index, 3))
    (hpre : ∀ vm₁, s.WarmedH vm₁ → Pre ⟨T.setVm vm₁, locs, cells, slots⟩ argsL.toArray) :
    (∃ (v : Option Value) (vm₁ : Vm) (B : Pt), s.WarmedH vm₁ ∧ Stand p l e R s m args below meth c B.U B.locs B.cells B.slots ∧ Post ⟨T.setVm vm₁, locs, cells, slots⟩ argsL.toArray v B ∧
      ∀ target, Steps p.tables e below (B.U.setTop { g with pc := g.pc + 3, stack := v.toList ++ rest }) target → Steps p.tables e below (T.setTop g) target) ∨
    (∃ (q : Addr) (vm₁ : Vm) (B : Pt), s.WarmedH vm₁ ∧ Stand p l e R s m args below meth c B.U B.locs B.cells B.slots ∧ PostX ⟨T.setVm vm₁, locs, cells, slots⟩ argsL.toArray q B ∧
      Steps p.tables e below (T.setTop g) ((B.U.setTop { g with stack := rest }).pushFrame (.throwing q))) := by
  obtain ⟨mk, hnamed⟩ := Cond.code_named hcode
  obtain ⟨methM, cM, hmethM, -, -, -, -, -, -, hsigM⟩ := Cond.code_spec hnamed hcode
  have hstatic : methM.isStatic = true := Cond.static_spec hnamed hmethM hstat
  obtain ⟨kP, hkP, -⟩ := className_of_methodNamed hnamed
  have hinitP : kP.init = .initialized := Cond.initialized_spec (findClass_of_methodNamed hnamed) hkP hinit
  obtain ⟨vm₁, X₁, hstep₁⟩ := X.invokestatic hexec hown hlink hnamed hmethM hstatic hkP hinitP hy (g := g) hg (argsL := argsL) (rest := rest) (hlen _ hsigM) hstack hdg
  rcases hK m meth c ⟨T.setVm vm₁, locs, cells, slots⟩ { g with stack := rest } (.invokestatic index) mk argsL.toArray X₁ hg hsize hdg hW (X₁.named hnamed) (hpre vm₁ X₁.warmed) with ⟨v, B, X', hpost, hsteps⟩ | ⟨q, B, X', hpost, hsteps⟩
  · exact Or.inl ⟨v, vm₁, B, X₁.warmed, X', hpost, fun target h => hstep₁ _ fun acts => by rw [doInvoke_state]; exact hsteps.trans h⟩
  · exact Or.inr ⟨q, vm₁, B, X₁.warmed, X', hpost, hstep₁ _ fun acts => by rw [doInvoke_state]; exact hsteps⟩
end Calls
theorem vx_cls {s : State} {T : State} {vm₁ : Vm} {E : String} {k : ClassId} (hW : s.WarmedH vm₁) (h : (T.setVm vm₁).vm.findClass E = some k) : s.vm.findClass E = some k := by
  have h1 : vm₁.findClass E = some k := h
  rw [hW.alike.findClass] at h1
  exact h1
/-- the method's frame g, with q thrown over it -/
def vx_W (p : Program) (l : Launch) (e : Env) (R : Room) (s : State) (m : MethodId) (args : Array Value) (below : List Frame) (meth : Method) (c : Code) (H : Heap) (locs : List Loc) (cells slots : Nat) (Q : State → Prop) (g : JFrame) (q : Addr) : Prop :=
  ∀ T : State, T.heap = H → Stand p l e R s m args below meth c T locs cells slots → ∃ t, Steps p.tables e below ((T.setTop g).pushFrame (.throwing q)) t ∧ Q t
def vx_Run (p : Program) (l : Launch) (e : Env) (R : Room) (s : State) (m : MethodId) (args : Array Value) (below : List Frame) (meth : Method) (c : Code) (H : Heap) (locs : List Loc) (cells slots mc ms : Nat) (g : JFrame) (rest : List Value) (Qa : State → Outcome → State → Prop) (XC : String → State → State → Prop) (free : Addr → Prop) : Prop :=
  ∀ T : State, T.heap = H → Stand p l e R s m args below meth c T locs cells slots →
    (∃ (v : Option Value) (st₀ t T' : State) (L : List Loc), st₀.heap = H ∧ Stand p l e R s m args below meth c T' (locs ++ L) (cells + mc) (slots + ms) ∧ (∀ q ∈ L, free q.base) ∧ T'.heap = t.heap ∧ T'.vm = t.vm ∧ Qa st₀ (.returned v) t ∧
      Goes p e below T g T' { g with pc := g.pc + 3, stack := v.toList ++ rest }) ∨
    (∃ (q : Addr) (st₀ t T' : State) (L : List Loc) (E : String) (ce : Cell), st₀.heap = H ∧ Stand p l e R s m args below meth c T' (locs ++ L) (cells + mc) (slots + ms) ∧ (∀ z ∈ L, free z.base) ∧ T'.heap = t.heap ∧ T'.vm = t.vm ∧ XC E st₀ t ∧ t.heap[q]? = some ce ∧ ce.vm = .none ∧ s.vm.findClass E = some ce.cls ∧
      Steps p.tables e below (T.setTop g) ((T'.setTop { g with stack := rest }).pushFrame (.throwing q)))
def vx_X {S : Type} (px : S → Prop) (B : String → S → State → Prop) (A : Nat → Prop) : String → State → State → Prop := fun E st t => ∃ u : S, px u ∧ B E u t ∧ va_F A st t
section Runs
variable {p : Program} {l : Launch} {e : Env} {R : Room} {s : State} {m : MethodId} {args : Array Value} {below : List Frame} {meth : Method} {c : Code} {H : Heap} {locs : List Loc} {cells slots : Nat}
variable {y : MethodName} {bytes cc : ByteArray} {maxL nL mc ms n index : Nat} {ret : Option FieldType} {ws : List Cond} {rm : Room} {Pc : Array Value → State → Prop} {Qc : Array Value → State → Outcome → State → Prop} {XC : String → State → State → Prop} {free : Addr → Prop} {Ts : List Cond} {own C : String} {b : Addr} {As rest : List Value} {g : JFrame}
theorem vx_callBack (cb : CallB R s args own index y bytes maxL ret ws rm mc ms n) (hM : vx_Met l y ws rm Pc Qc XC mc ms free) (hbl : FrameBlind Pc) : vx_Back l R p e below s args y 3 8 (PreOf R mc ms Pc) (PostOf Qc mc ms free) (vx_Post XC mc ms free) := by
  obtain ⟨hrc, hrs, hfr, hlo, hws, hcw, -, hini, -⟩ := cb
  exact vx_back (bytes := bytes) (maxL := maxL) (ret := ret) hM hbl hrc hrs hfr hlo hws hcw (fun a' U hW => word_at hW (Or.inl (by first | rfl | simp [Cond.onTables, Cond.keeps, Cond.steady])) hini)
theorem vx_runV (S : CallFix p m c cc nL s args Ts own) (hM : vx_Met l y ws rm Pc Qc XC mc ms free) (cw : CallW R s args own C index y bytes maxL ret ws rm mc ms n) (hp : PreV s H C b Pc As)
    (hg : g.method = m) (hn : As.length = n) (hsize : g.locals.size = nL) (hstack : g.stack = As.reverse ++ .ref b :: rest) (hW : 2 * g.monitorRoom + (rest.map fun v => v.category).sum ≤ 8) (hdg : decode cc g.pc = .ok (.invokevirtual index, 3)) (hf : cells + mc ≤ R.cells ∧ slots + ms ≤ R.slots) :
    vx_Run p l e R s m args below meth c H locs cells slots mc ms g rest (Qc (Value.ref b :: As).toArray) XC free := by
  have hK : vx_Back l R p e below s args y 3 8 (PreOf R mc ms Pc) (PostOf Qc mc ms free) (vx_Post XC mc ms free) := vx_callBack cw.1 hM hp.1
  obtain ⟨⟨-, -, -, -, -, -, hcode, -, hy, hlen, hl⟩, hin, hse⟩ := cw
  obtain ⟨hx, hb, hml, ho, -⟩ := S
  obtain ⟨-, ⟨cellB, hcB, hoB, hclB⟩, hPc⟩ := hp
  intro T hT X
  rcases vx_callV X hx (C := C) (bytes := bytes) (maxL := maxL) (ret := ret) ho hl hin hse hcode hy hK (by rw [hT]; exact hcB) hoB hclB hg (hsize.trans hml.symm) (argsL := As) (rest := rest) (fun sig h => hn.trans (hlen sig h)) hstack hW (by rw [hb]; exact hdg)
    (fun vm₁ hW₁ => ⟨hf.1, hf.2, hPc (T.setVm vm₁) hT hW₁⟩) with ⟨v, vm₁, ⟨U', l2, c2, s2⟩, hW₁, X', ⟨g', mk, t, L, e1, e2, hq, h1, hL, h2, h3⟩, st⟩ | ⟨q, vm₁, ⟨U', l2, c2, s2⟩, hW₁, X', ⟨g', mk, t, L, E, ce, e1, e2, hq, hce, hcv, hcl, h1, hL, h2, h3⟩, st⟩
  · dsimp only [Pt.U, Pt.locs, Pt.cells, Pt.slots] at X' e1 e2 h1 h2 h3 st
    subst h1; subst h2; subst h3
    exact Or.inl ⟨v, (T.setVm vm₁).calling g' mk (Value.ref b :: As).toArray, t, U', L, hT, X', hL, e1, e2, hq, st⟩
  · dsimp only [Pt.U, Pt.locs, Pt.cells, Pt.slots] at X' e1 e2 h1 h2 h3 st hcl
    subst h1; subst h2; subst h3
    exact Or.inr ⟨q, (T.setVm vm₁).calling g' mk (Value.ref b :: As).toArray, t, U', L, E, ce, hT, X', hL, e1, e2, hq, hce, hcv, vx_cls hW₁ hcl, st⟩
theorem vx_runS (S : CallFix p m c cc nL s args Ts own) (hM : vx_Met l y ws rm Pc Qc XC mc ms free) (cw : CallB R s args own index y bytes maxL ret ws rm mc ms n ∧ (Cond.static y).before args s = true) (hp : PreS s H Pc As)
    (hg : g.method = m) (hn : As.length = n) (hsize : g.locals.size = nL) (hstack : g.stack = As.reverse ++ rest) (hW : 2 * g.monitorRoom + (rest.map fun v => v.category).sum ≤ 8) (hdg : decode cc g.pc = .ok (.invokestatic index, 3)) (hf : cells + mc ≤ R.cells ∧ slots + ms ≤ R.slots) :
    vx_Run p l e R s m args below meth c H locs cells slots mc ms g rest (Qc As.toArray) XC free := by
  have hK : vx_Back l R p e below s args y 3 8 (PreOf R mc ms Pc) (PostOf Qc mc ms free) (vx_Post XC mc ms free) := vx_callBack cw.1 hM hp.1
  obtain ⟨⟨-, -, -, -, -, -, hcode, hini, hy, hlen, hl⟩, hstt⟩ := cw
  obtain ⟨hx, hb, hml, ho, -⟩ := S
  intro T hT X
  rcases vx_callS X hx (bytes := bytes) (maxL := maxL) (ret := ret) ho hl hstt hini hcode hy hK hg (hsize.trans hml.symm) (argsL := As) (rest := rest) (fun sig h => hn.trans (hlen sig h)) hstack hW (by rw [hb]; exact hdg)
    (fun vm₁ hW₁ => ⟨hf.1, hf.2, hp.2 (T.setVm vm₁) hT hW₁⟩) with ⟨v, vm₁, ⟨U', l2, c2, s2⟩, hW₁, X', ⟨g', mk, t, L, e1, e2, hq, h1, hL, h2, h3⟩, st⟩ | ⟨q, vm₁, ⟨U', l2, c2, s2⟩, hW₁, X', ⟨g', mk, t, L, E, ce, e1, e2, hq, hce, hcv, hcl, h1, hL, h2, h3⟩, st⟩
  · dsimp only [Pt.U, Pt.locs, Pt.cells, Pt.slots] at X' e1 e2 h1 h2 h3 st
    subst h1; subst h2; subst h3
    exact Or.inl ⟨v, (T.setVm vm₁).calling g' mk As.toArray, t, U', L, hT, X', hL, e1, e2, hq, st⟩
  · dsimp only [Pt.U, Pt.locs, Pt.cells, Pt.slots] at X' e1 e2 h1 h2 h3 st hcl
    subst h1; subst h2; subst h3
    exact Or.inr ⟨q, (T.setVm vm₁).calling g' mk As.toArray, t, U', L, E, ce, hT, X', hL, e1, e2, hq, hce, hcv, vx_cls hW₁ hcl, st⟩
end Runs
section Rows
variable {p : Program} {l : Launch} {e : Env} {R : Room} {s : State} {m : MethodId} {args : Array Value} {below : List Frame} {meth : Method} {c : Code} {H : Heap} {locs : List Loc} {cells slots : Nat} {Q : State → Prop}
variable {mc ms : Nat} {free : Addr → Prop} {A0 A1 : Nat → Prop} {H0 : Heap} {a : Array Value} {pc : Nat} {ls : Array Slot} {st0 rest : List Value}
theorem vx_keep {st₀ t T' : State} {L : List Loc} (h0 : st₀.heap = H) (e1 : T'.heap = t.heap) (hS : va_S A0 H0 H locs) (hA : ∀ q, q < H.size → A1 q → A0 q) (hf : ∀ q, free q → A0 q) (hL : ∀ q ∈ L, free q.base) (hF : va_F A1 st₀ t) :
    H.size ≤ T'.heap.size ∧ (∀ q : Nat, q < H.size → ¬ A1 q → T'.heap[q]? = H[q]?) ∧ va_S A0 H0 T'.heap (locs ++ L) := by
  obtain ⟨hz, hk⟩ := hF
  rw [h0] at hz hk
  exact ⟨by rw [e1]; exact hz, fun q h1 h2 => by rw [e1]; exact hk q h1 h2,
    ⟨Nat.le_trans hS.1 (by rw [e1]; exact hz), fun q h1 h2 => by rw [e1, hk q (Nat.lt_of_lt_of_le h1 hS.1) (fun z => h2 (hA q (Nat.lt_of_lt_of_le h1 hS.1) z))]; exact hS.2.1 q h1 h2, fun q hq => by
      rcases List.mem_append.mp hq with h | h
      · exact hS.2.2 q h
      · exact hf _ (hL q h)⟩⟩
theorem vx_calli {S SX : Type} {post : Int32 → S → Prop} {px : SX → Prop} {B : S → State → Prop} {BX : String → SX → State → Prop} {AX : Nat → Prop} (hr : vx_Run p l e R s m args below meth c H locs cells slots mc ms (F0 m pc ls st0) rest (va_Qi post B A1 a) (vx_X px BX AX) free) (hS : va_S A0 H0 H locs) (hA : ∀ q, q < H.size → A1 q → A0 q) (hf : ∀ q, free q → A0 q) (hAX : ∀ q, q < H.size → AX q → A0 q)
    (kx : ∀ (E : String) (ce : Cell) (q9 : Addr) (u : SX) (t : State) (H1 : Heap) (locs1 : List Loc), t.heap = H1 → s.vm.Alike t.vm → px u → BX E u t → H.size ≤ H1.size → (∀ q : Nat, q < H.size → ¬ AX q → H1[q]? = H[q]?) → va_S A0 H0 H1 locs1 → H1[q9]? = some ce → ce.vm = .none → s.vm.findClass E = some ce.cls → vx_W p l e R s m args below meth c H1 locs1 (cells + mc) (slots + ms) Q (F0 m pc ls rest) q9)
    (kk : ∀ (r : Int32) (u : S) (t : State) (H1 : Heap) (locs1 : List Loc), t.heap = H1 → s.vm.Alike t.vm → post r u → B u t → H.size ≤ H1.size → (∀ q : Nat, q < H.size → ¬ A1 q → H1[q]? = H[q]?) → va_S A0 H0 H1 locs1 → W p l e R s m args below meth c H1 locs1 (cells + mc) (slots + ms) Q (F0 m (pc + 3) ls (.int r :: rest))) : W p l e R s m args below meth c H locs cells slots Q (F0 m pc ls st0) := by
  intro T hT X
  rcases hr T hT X with ⟨v, st₀, t, T', L, h0, X', hL, e1, e2, ⟨⟨r, u, hv, hp, hb⟩, hF⟩, st⟩ | ⟨q, st₀, t, T', L, E, ce, h0, X', hL, e1, e2, ⟨u, hp, hb, hF⟩, hce, hcv, hcl, st⟩
  · cases hv
    obtain ⟨k1, k2, k3⟩ := vx_keep h0 e1 hS hA hf hL hF
    obtain ⟨t2, a1, b1⟩ := kk r u t T'.heap (locs ++ L) e1.symm (by rw [← e2]; exact X'.warmed.alike) hp hb k1 k2 k3 T' rfl X'
    exact ⟨t2, st t2 a1, b1⟩
  · obtain ⟨k1, k2, k3⟩ := vx_keep h0 e1 hS hAX hf hL hF
    obtain ⟨t2, a1, b1⟩ := kx E ce q u t T'.heap (locs ++ L) e1.symm (by rw [← e2]; exact X'.warmed.alike) hp hb k1 k2 k3 (by rw [e1]; exact hce) hcv hcl T' rfl X'
    exact ⟨t2, st.trans a1, b1⟩
theorem vx_calll {S SX : Type} {post : Int64 → S → Prop} {px : SX → Prop} {B : S → State → Prop} {BX : String → SX → State → Prop} {AX : Nat → Prop} (hr : vx_Run p l e R s m args below meth c H locs cells slots mc ms (F0 m pc ls st0) rest (va_Ql post B A1 a) (vx_X px BX AX) free) (hS : va_S A0 H0 H locs) (hA : ∀ q, q < H.size → A1 q → A0 q) (hf : ∀ q, free q → A0 q) (hAX : ∀ q, q < H.size → AX q → A0 q)
    (kx : ∀ (E : String) (ce : Cell) (q9 : Addr) (u : SX) (t : State) (H1 : Heap) (locs1 : List Loc), t.heap = H1 → s.vm.Alike t.vm → px u → BX E u t → H.size ≤ H1.size → (∀ q : Nat, q < H.size → ¬ AX q → H1[q]? = H[q]?) → va_S A0 H0 H1 locs1 → H1[q9]? = some ce → ce.vm = .none → s.vm.findClass E = some ce.cls → vx_W p l e R s m args below meth c H1 locs1 (cells + mc) (slots + ms) Q (F0 m pc ls rest) q9)
    (kk : ∀ (r : Int64) (u : S) (t : State) (H1 : Heap) (locs1 : List Loc), t.heap = H1 → s.vm.Alike t.vm → post r u → B u t → H.size ≤ H1.size → (∀ q : Nat, q < H.size → ¬ A1 q → H1[q]? = H[q]?) → va_S A0 H0 H1 locs1 → W p l e R s m args below meth c H1 locs1 (cells + mc) (slots + ms) Q (F0 m (pc + 3) ls (.long r :: rest))) : W p l e R s m args below meth c H locs cells slots Q (F0 m pc ls st0) := by
  intro T hT X
  rcases hr T hT X with ⟨v, st₀, t, T', L, h0, X', hL, e1, e2, ⟨⟨r, u, hv, hp, hb⟩, hF⟩, st⟩ | ⟨q, st₀, t, T', L, E, ce, h0, X', hL, e1, e2, ⟨u, hp, hb, hF⟩, hce, hcv, hcl, st⟩
  · cases hv
    obtain ⟨k1, k2, k3⟩ := vx_keep h0 e1 hS hA hf hL hF
    obtain ⟨t2, a1, b1⟩ := kk r u t T'.heap (locs ++ L) e1.symm (by rw [← e2]; exact X'.warmed.alike) hp hb k1 k2 k3 T' rfl X'
    exact ⟨t2, st t2 a1, b1⟩
  · obtain ⟨k1, k2, k3⟩ := vx_keep h0 e1 hS hAX hf hL hF
    obtain ⟨t2, a1, b1⟩ := kx E ce q u t T'.heap (locs ++ L) e1.symm (by rw [← e2]; exact X'.warmed.alike) hp hb k1 k2 k3 (by rw [e1]; exact hce) hcv hcl T' rfl X'
    exact ⟨t2, st.trans a1, b1⟩
theorem vx_callf {S SX : Type} {post : UInt32 → S → Prop} {px : SX → Prop} {B : S → State → Prop} {BX : String → SX → State → Prop} {AX : Nat → Prop} (hr : vx_Run p l e R s m args below meth c H locs cells slots mc ms (F0 m pc ls st0) rest (va_Qf post B A1 a) (vx_X px BX AX) free) (hS : va_S A0 H0 H locs) (hA : ∀ q, q < H.size → A1 q → A0 q) (hf : ∀ q, free q → A0 q) (hAX : ∀ q, q < H.size → AX q → A0 q)
    (kx : ∀ (E : String) (ce : Cell) (q9 : Addr) (u : SX) (t : State) (H1 : Heap) (locs1 : List Loc), t.heap = H1 → s.vm.Alike t.vm → px u → BX E u t → H.size ≤ H1.size → (∀ q : Nat, q < H.size → ¬ AX q → H1[q]? = H[q]?) → va_S A0 H0 H1 locs1 → H1[q9]? = some ce → ce.vm = .none → s.vm.findClass E = some ce.cls → vx_W p l e R s m args below meth c H1 locs1 (cells + mc) (slots + ms) Q (F0 m pc ls rest) q9)
    (kk : ∀ (r : UInt32) (u : S) (t : State) (H1 : Heap) (locs1 : List Loc), t.heap = H1 → s.vm.Alike t.vm → post r u → B u t → H.size ≤ H1.size → (∀ q : Nat, q < H.size → ¬ A1 q → H1[q]? = H[q]?) → va_S A0 H0 H1 locs1 → W p l e R s m args below meth c H1 locs1 (cells + mc) (slots + ms) Q (F0 m (pc + 3) ls (.float r :: rest))) : W p l e R s m args below meth c H locs cells slots Q (F0 m pc ls st0) := by
  intro T hT X
  rcases hr T hT X with ⟨v, st₀, t, T', L, h0, X', hL, e1, e2, ⟨⟨r, u, hv, hp, hb⟩, hF⟩, st⟩ | ⟨q, st₀, t, T', L, E, ce, h0, X', hL, e1, e2, ⟨u, hp, hb, hF⟩, hce, hcv, hcl, st⟩
  · cases hv
    obtain ⟨k1, k2, k3⟩ := vx_keep h0 e1 hS hA hf hL hF
    obtain ⟨t2, a1, b1⟩ := kk r u t T'.heap (locs ++ L) e1.symm (by rw [← e2]; exact X'.warmed.alike) hp hb k1 k2 k3 T' rfl X'
    exact ⟨t2, st t2 a1, b1⟩
  · obtain ⟨k1, k2, k3⟩ := vx_keep h0 e1 hS hAX hf hL hF
    obtain ⟨t2, a1, b1⟩ := kx E ce q u t T'.heap (locs ++ L) e1.symm (by rw [← e2]; exact X'.warmed.alike) hp hb k1 k2 k3 (by rw [e1]; exact hce) hcv hcl T' rfl X'
    exact ⟨t2, st.trans a1, b1⟩
theorem vx_calld {S SX : Type} {post : UInt64 → S → Prop} {px : SX → Prop} {B : S → State → Prop} {BX : String → SX → State → Prop} {AX : Nat → Prop} (hr : vx_Run p l e R s m args below meth c H locs cells slots mc ms (F0 m pc ls st0) rest (va_Qd post B A1 a) (vx_X px BX AX) free) (hS : va_S A0 H0 H locs) (hA : ∀ q, q < H.size → A1 q → A0 q) (hf : ∀ q, free q → A0 q) (hAX : ∀ q, q < H.size → AX q → A0 q)
    (kx : ∀ (E : String) (ce : Cell) (q9 : Addr) (u : SX) (t : State) (H1 : Heap) (locs1 : List Loc), t.heap = H1 → s.vm.Alike t.vm → px u → BX E u t → H.size ≤ H1.size → (∀ q : Nat, q < H.size → ¬ AX q → H1[q]? = H[q]?) → va_S A0 H0 H1 locs1 → H1[q9]? = some ce → ce.vm = .none → s.vm.findClass E = some ce.cls → vx_W p l e R s m args below meth c H1 locs1 (cells + mc) (slots + ms) Q (F0 m pc ls rest) q9)
    (kk : ∀ (r : UInt64) (u : S) (t : State) (H1 : Heap) (locs1 : List Loc), t.heap = H1 → s.vm.Alike t.vm → post r u → B u t → H.size ≤ H1.size → (∀ q : Nat, q < H.size → ¬ A1 q → H1[q]? = H[q]?) → va_S A0 H0 H1 locs1 → W p l e R s m args below meth c H1 locs1 (cells + mc) (slots + ms) Q (F0 m (pc + 3) ls (.double r :: rest))) : W p l e R s m args below meth c H locs cells slots Q (F0 m pc ls st0) := by
  intro T hT X
  rcases hr T hT X with ⟨v, st₀, t, T', L, h0, X', hL, e1, e2, ⟨⟨r, u, hv, hp, hb⟩, hF⟩, st⟩ | ⟨q, st₀, t, T', L, E, ce, h0, X', hL, e1, e2, ⟨u, hp, hb, hF⟩, hce, hcv, hcl, st⟩
  · cases hv
    obtain ⟨k1, k2, k3⟩ := vx_keep h0 e1 hS hA hf hL hF
    obtain ⟨t2, a1, b1⟩ := kk r u t T'.heap (locs ++ L) e1.symm (by rw [← e2]; exact X'.warmed.alike) hp hb k1 k2 k3 T' rfl X'
    exact ⟨t2, st t2 a1, b1⟩
  · obtain ⟨k1, k2, k3⟩ := vx_keep h0 e1 hS hAX hf hL hF
    obtain ⟨t2, a1, b1⟩ := kx E ce q u t T'.heap (locs ++ L) e1.symm (by rw [← e2]; exact X'.warmed.alike) hp hb k1 k2 k3 (by rw [e1]; exact hce) hcv hcl T' rfl X'
    exact ⟨t2, st.trans a1, b1⟩
theorem vx_callv {S SX : Type} {post : S → Prop} {px : SX → Prop} {B : S → State → Prop} {BX : String → SX → State → Prop} {AX : Nat → Prop} (hr : vx_Run p l e R s m args below meth c H locs cells slots mc ms (F0 m pc ls st0) rest (va_Qv post B A1 a) (vx_X px BX AX) free) (hS : va_S A0 H0 H locs) (hA : ∀ q, q < H.size → A1 q → A0 q) (hf : ∀ q, free q → A0 q) (hAX : ∀ q, q < H.size → AX q → A0 q)
    (kx : ∀ (E : String) (ce : Cell) (q9 : Addr) (u : SX) (t : State) (H1 : Heap) (locs1 : List Loc), t.heap = H1 → s.vm.Alike t.vm → px u → BX E u t → H.size ≤ H1.size → (∀ q : Nat, q < H.size → ¬ AX q → H1[q]? = H[q]?) → va_S A0 H0 H1 locs1 → H1[q9]? = some ce → ce.vm = .none → s.vm.findClass E = some ce.cls → vx_W p l e R s m args below meth c H1 locs1 (cells + mc) (slots + ms) Q (F0 m pc ls rest) q9)
    (kk : ∀ (u : S) (t : State) (H1 : Heap) (locs1 : List Loc), t.heap = H1 → s.vm.Alike t.vm → post u → B u t → H.size ≤ H1.size → (∀ q : Nat, q < H.size → ¬ A1 q → H1[q]? = H[q]?) → va_S A0 H0 H1 locs1 → W p l e R s m args below meth c H1 locs1 (cells + mc) (slots + ms) Q (F0 m (pc + 3) ls (rest))) : W p l e R s m args below meth c H locs cells slots Q (F0 m pc ls st0) := by
  intro T hT X
  rcases hr T hT X with ⟨v, st₀, t, T', L, h0, X', hL, e1, e2, ⟨⟨u, hv, hp, hb⟩, hF⟩, st⟩ | ⟨q, st₀, t, T', L, E, ce, h0, X', hL, e1, e2, ⟨u, hp, hb, hF⟩, hce, hcv, hcl, st⟩
  · cases hv
    obtain ⟨k1, k2, k3⟩ := vx_keep h0 e1 hS hA hf hL hF
    obtain ⟨t2, a1, b1⟩ := kk u t T'.heap (locs ++ L) e1.symm (by rw [← e2]; exact X'.warmed.alike) hp hb k1 k2 k3 T' rfl X'
    exact ⟨t2, st t2 a1, b1⟩
  · obtain ⟨k1, k2, k3⟩ := vx_keep h0 e1 hS hAX hf hL hF
    obtain ⟨t2, a1, b1⟩ := kx E ce q u t T'.heap (locs ++ L) e1.symm (by rw [← e2]; exact X'.warmed.alike) hp hb k1 k2 k3 (by rw [e1]; exact hce) hcv hcl T' rfl X'
    exact ⟨t2, st.trans a1, b1⟩
end Rows
section Ends
variable {p : Program} {l : Launch} {e : Env} {R : Room} {s : State} {m : MethodId} {args : Array Value} {below : List Frame} {meth : Method} {c : Code} {H : Heap} {locs : List Loc} {cells slots : Nat} {Q : State → Prop}
variable {mc ms : Nat} {free : Addr → Prop} {A0 A1 : Nat → Prop} {H0 : Heap} {a : Array Value} {ls : Array Slot} {st0 rest : List Value}
variable {Qc : Array Value → State → Outcome → State → Prop} {XC : String → State → State → Prop}
/-- what a body that may throw owes at its end -/
def vx_MQ (below : List Frame) (Qc : Array Value → State → Outcome → State → Prop) (XC : String → State → State → Prop) (a : Array Value) (s : State) (mc ms : Nat) (free : Addr → Prop) : State → Prop := fun t =>
  ∃ o, t.status = .running ∧ Ended t below o ∧ vx_Q Qc XC mc ms free a s o t
theorem vx_ret {g : JFrame} {mc ms : Nat} (k : W p l e R s m args below meth c H locs cells slots (MQ below Qc args s mc ms free) g) : W p l e R s m args below meth c H locs cells slots (vx_MQ below Qc XC args s mc ms free) g := by
  intro T hT X
  obtain ⟨t, a1, o, b1, b2, b3, b4⟩ := k T hT X
  exact ⟨t, a1, o, b1, b2, Or.inl ⟨b3, b4⟩⟩
/-- not caught here: it goes on to the caller -/
theorem vx_widen {g : JFrame} {q : Addr} {k n : Nat} (h1 : cells ≤ k) (h2 : slots ≤ n) (kk : vx_W p l e R s m args below meth c H locs k n Q g q) : vx_W p l e R s m args below meth c H locs cells slots Q g q := fun T hT X => kk T hT (stand_widen X h1 h2)
theorem vx_out {pc : Nat} {E : String} {ce : Cell} {q : Addr} {mc ms : Nat} (hout : ∀ x ∈ c.exceptionTable.toList, covers x pc = false) (hlocks : meth.locks = false) (hcell : H[q]? = some ce) (hv : ce.vm = .none) (hcl : s.vm.findClass E = some ce.cls)
    (hx : ∀ t : State, t.heap = H → s.vm.Alike t.vm → XC E s t) (hf : ∀ z ∈ locs, free z.base) (hc : cells ≤ mc) (hs : slots ≤ ms) :
    vx_W p l e R s m args below meth c H locs cells slots (vx_MQ below Qc XC args s mc ms free) (F0 m pc ls rest) q := by
  intro T hT X
  obtain ⟨st1, hrun, hend, hW, hsm⟩ := X.leaveThrown q (g := F0 m pc ls rest) rfl rfl rfl hout hlocks
  have hcell9 : (T.setFrames (.throwing q :: below)).heap[q]? = some ce := by
    show T.heap[q]? = some ce
    rw [hT]; exact hcell
  exact ⟨_, st1, .threw q, hrun, hend, Or.inr ⟨q, rfl, E, ce, locs, hx _ hT hW.alike, hcell9, hv, hcl, hW, hsm.mono hc hs, hf⟩⟩
theorem vx_frame {U : State} {k n : Nat} (h : s.sameButNew ({ U with vm := s.vm } : State) locs k n) : s.heap.size ≤ U.heap.size ∧ ∀ q : Nat, q < s.heap.size → (∀ z ∈ locs, z.base ≠ q) → U.heap[q]? = s.heap[q]? := by
  obtain ⟨-, h2, -, -, -, h6⟩ := h
  refine ⟨h2, fun q hq hz => ?_⟩
  obtain ⟨c9, e1, e2, e3, e4⟩ := h6 q _ (Array.getElem?_eq_getElem hq)
  have hs : c9.slots = (s.heap[q]).slots := Array.ext_getElem? fun i => e4 i fun hm => hz _ hm rfl
  have h9 : c9 = s.heap[q] := by
    rw [hs] at e2
    exact e2
  have e5 : U.heap[q]? = some c9 := e1
  rw [e5, h9, Array.getElem?_eq_getElem hq]
/-- the words of a throw but the four that speak of the heap -/
def vx_no (w : Cond) : Bool := decide (w ≠ .isRef (.static Bundle.tN "UNASSIGNED_STACK" Bundle.steD)) && decide (w ≠ .isRef (.static Bundle.tN "SUPPRESSED_SENTINEL" Bundle.listD)) && decide (w ≠ .laysStatic Bundle.tN "UNASSIGNED_STACK" Bundle.steD) && decide (w ≠ .laysStatic Bundle.tN "SUPPRESSED_SENTINEL" Bundle.listD)
def vx_at0 (own : String) (ic : Nat) (X : String) (names : List String) : List Cond := (Bundle.ownAtoms0 own ic X names).filter vx_no
def vx_atS (own : String) (ic : Nat) (X : String) (names : List String) : List Cond := (Bundle.ownAtoms own ic X names).filter vx_no
/-- a word that the tables alone decide, or a good one -/
def vx_ot (w : Cond) : Bool := w.onTables || goodWord w
theorem vx_ot_at {args a' : Array Value} {s U : State} {w : Cond} (hW : s.WarmedH U.vm) (hvm : s.vm = U.vm) (hg : vx_ot w = true) (h : w.before args s = true) : w.before a' U = true := by
  simp only [vx_ot, Bool.or_eq_true] at hg
  rcases hg with hg | hg
  · exact va_tabs hg hvm h
  · exact word_at hW (good_of_word hg) h
/-- a list's words: the good ones out of the method's own list, the others by premises of their own -/
theorem vx_hat {args : Array Value} {s : State} {L B : List Cond} (h1 : ∀ w ∈ L.filter goodWord, w.before args s = true) (h2 : ∀ w ∈ L.filter (fun w => !goodWord w), w ∈ B) (h3 : ∀ w ∈ B, w.before args s = true) : ∀ w ∈ L, w.before args s = true := by
  intro w hw
  by_cases g : goodWord w = true
  · exact h1 w (List.mem_filter.mpr ⟨hw, g⟩)
  · refine h3 w (h2 w (List.mem_filter.mpr ⟨hw, ?_⟩))
    show (!goodWord w) = true
    cases hgw : goodWord w
    · rfl
    · exact absurd hgw g
theorem vx_c {args : Array Value} {s : State} {w : Cond} {B : List Cond} (h : w.before args s = true) (t : ∀ w ∈ B, w.before args s = true) : ∀ w' ∈ w :: B, w'.before args s = true := fun w' h' => (List.mem_cons.mp h').elim (fun e => by rw [e]; exact h) (t w')
theorem vx_n {args : Array Value} {s : State} : ∀ w ∈ ([] : List Cond), w.before args s = true := fun _ h => nomatch h
theorem vx_own {args : Array Value} {s : State} {L : List Cond} (h1 : ∀ w ∈ L.filter vx_no, w.before args s = true)
    (hU : (Cond.isRef (.static Bundle.tN "UNASSIGNED_STACK" Bundle.steD)).before args s = true) (hN : (Cond.isRef (.static Bundle.tN "SUPPRESSED_SENTINEL" Bundle.listD)).before args s = true)
    (lU : (Cond.laysStatic Bundle.tN "UNASSIGNED_STACK" Bundle.steD).before args s = true) (lN : (Cond.laysStatic Bundle.tN "SUPPRESSED_SENTINEL" Bundle.listD).before args s = true) : ∀ w ∈ L, w.before args s = true := by
  intro w hw
  by_cases e1 : w = .isRef (.static Bundle.tN "UNASSIGNED_STACK" Bundle.steD)
  · rw [e1]; exact hU
  · by_cases e2 : w = .isRef (.static Bundle.tN "SUPPRESSED_SENTINEL" Bundle.listD)
    · rw [e2]; exact hN
    · by_cases e3 : w = .laysStatic Bundle.tN "UNASSIGNED_STACK" Bundle.steD
      · rw [e3]; exact lU
      · by_cases e4 : w = .laysStatic Bundle.tN "SUPPRESSED_SENTINEL" Bundle.listD
        · rw [e4]; exact lN
        · exact h1 w (List.mem_filter.mpr ⟨hw, by unfold vx_no; rw [decide_eq_true e1, decide_eq_true e2, decide_eq_true e3, decide_eq_true e4]; rfl⟩)
/-- where a static field lies, its class's statics cell in H -/
def vx_L (C n d : String) (A : Nat → Prop) (U : State) (H : Heap) : Prop := ∃ (c : ClassId) (k : Class) (i : Nat) (f : Field) (a : Nat) (cell : Cell), U.vm.findClass C = some c ∧ U.fieldFound? C n d = some (c, k, i, f) ∧ f.isStatic = true ∧ k.statics = some a ∧ H[a]? = some cell ∧ cell.vm.isStatics = true ∧ cell.cls = c ∧ f.slot < cell.slots.size ∧ k.staticTypes[f.slot]? = some f.type ∧ ¬ A a
theorem vx_L.moved {C n d : String} {A : Nat → Prop} {u U : State} {H : Heap} (hvm : u.vm.Alike U.vm) (h : vx_L C n d A u H) : vx_L C n d A U H := by
  obtain ⟨c, k, i, f, a, cell, h1, h2, h3, h4, h5, h6, h7, h8, h9, h10⟩ := h
  obtain ⟨k', hi', he⟩ := State.fieldFound?_setVm hvm h2
  exact ⟨c, k', i, f, a, cell, by rw [hvm.findClass]; exact h1, hi', h3, by rw [he]; exact h4, h5, h6, h7, h8, by rw [he]; exact h9, h10⟩
theorem vx_L.kept {C n d : String} {A : Nat → Prop} {U : State} {H H1 : Heap} (h : vx_L C n d A U H) (hq : ∀ a : Nat, a < H.size → ¬ A a → H1[a]? = H[a]?) : vx_L C n d A U H1 := by
  obtain ⟨c, k, i, f, a, cell, h1, h2, h3, h4, h5, h6, h7, h8, h9, h10⟩ := h
  exact ⟨c, k, i, f, a, cell, h1, h2, h3, h4, by rw [hq a (Array.getElem?_eq_some_iff.mp h5).1 h10]; exact h5, h6, h7, h8, h9, h10⟩
theorem vx_L.narrow {C n d : String} {A B : Nat → Prop} {U : State} {H : Heap} (h : vx_L C n d A U H) (hAB : ∀ q, B q → A q) : vx_L C n d B U H := by
  obtain ⟨c, k, i, f, a, cell, h1, h2, h3, h4, h5, h6, h7, h8, h9, h10⟩ := h
  exact ⟨c, k, i, f, a, cell, h1, h2, h3, h4, h5, h6, h7, h8, h9, fun z => h10 (hAB _ z)⟩
theorem vx_L.word {C n d : String} {A : Nat → Prop} {s : State} {args : Array Value} (h : vx_L C n d A s s.heap) : (Cond.laysStatic C n d).before args s = true := by
  obtain ⟨c, k, i, f, a, cell, h1, h2, h3, h4, h5, h6, h7, h8, h9, -⟩ := h
  show (Cond.laysStatic C n d).holds args s none s [] = true
  exact Cond.laysStatic_of h1 h2 h3 h4 h5 h6 h7 h8 h9
/-- .. and what it holds: null or some reference -/
def vx_Zq (C n d : String) (A : Nat → Prop) (U : State) (H : Heap) : Prop := va_Zq C n d A U H ∧ vx_L C n d A U H
theorem vx_Zq.moved {C n d : String} {A : Nat → Prop} {u U : State} {H : Heap} (hvm : u.vm.Alike U.vm) (h : vx_Zq C n d A u H) : vx_Zq C n d A U H := ⟨va_Zq.moved hvm h.1, vx_L.moved hvm h.2⟩
theorem vx_Zq.kept {C n d : String} {A : Nat → Prop} {U : State} {H H1 : Heap} (h : vx_Zq C n d A U H) (hq : ∀ a : Nat, a < H.size → ¬ A a → H1[a]? = H[a]?) : vx_Zq C n d A U H1 := ⟨va_Zq.kept h.1 hq, vx_L.kept h.2 hq⟩
theorem vx_Zq.narrow {C n d : String} {A B : Nat → Prop} {U : State} {H : Heap} (h : vx_Zq C n d A U H) (hAB : ∀ q, B q → A q) : vx_Zq C n d B U H := ⟨va_Zq.narrow h.1 hAB, vx_L.narrow h.2 hAB⟩
theorem vx_Zqof {args : Array Value} {s : State} {C n d : String} {A : Nat → Prop} (hl : (Cond.laysStatic C n d).before args s = true) (hini : (Cond.initialized C).before args s = true) (h : (Cond.isRef (.static C n d)).before args s = true) (hA : ∀ a : Nat, a < s.heap.size → ¬ A a) : vx_Zq C n d A s s.heap := by
  refine ⟨va_Zqof hl hini h hA, ?_⟩
  obtain ⟨c, k, i, f, a, cell, h1, h2, h3, h4, h5, h6, h7, h8, h9⟩ := Cond.laysStatic_spec hl
  exact ⟨c, k, i, f, a, cell, h1, h2, h3, h4, h5, h6, h7, h8, h9, hA a (Array.getElem?_eq_some_iff.mp h5).1⟩
theorem vx_isRef {C n d : String} {v : Value} {A : Nat → Prop} {s : State} {args : Array Value} (h : va_Z C n d v A s s.heap) (hv : v.isRef = true) : (Cond.isRef (.static C n d)).before args s = true := by
  obtain ⟨cf, kf, fi, f, a, cell, h1, h2, h3, h4, h5, h6, h7, -⟩ := h
  have he : (Term.static C n d).eval args s none [] s = some v := by
    simp [Term.eval, State.fieldNamed?, h1, h2, h4, h5, h6, h7]
  simp only [Cond.before, Cond.holds, Cond.value, he]
  cases v <;> simp_all [Value.isRef]
theorem vx_isRefq {C n d : String} {A : Nat → Prop} {s : State} {args : Array Value} (h : va_Zq C n d A s s.heap) : (Cond.isRef (.static C n d)).before args s = true := by
  rcases h with h | ⟨t, h⟩
  · exact vx_isRef h rfl
  · exact vx_isRef h rfl
/-- the same frame, seen from here: as if the method were called anew in this heap -/
theorem vx_rebase {T : State} (X : Stand p l e R s m args below meth c T locs cells slots) {R' : Room} (hf : R'.frames ≤ R.frames) (hl : R'.locals ≤ R.locals) (hc : cells + R'.cells ≤ R.cells) (hs : slots + R'.slots ≤ R.slots) :
    Stand p l e R' ((T.setVm s.vm).setFrames (.invoking m args :: below)) m args below meth c T [] 0 0 := by
  have htop : (T.setVm s.vm).topJava?.isSome := X.here.top
  have hF : ((T.setVm s.vm).setFrames (.invoking m args :: below)).frames = .invoking m args :: below := State.frames_setFrames _ (State.cur_lt_of_top htop)
  obtain ⟨g₀, hg0⟩ := Option.isSome_iff_exists.mp htop
  obtain ⟨r, hr⟩ := State.topJava?_eq_some.mp hg0
  have hl9 : e.platform.stackLimits (T.setVm s.vm).me = e.platform.stackLimits s.me := X.limits
  have hb9 : (T.setVm s.vm).me.stackBytes = s.me.stackBytes := X.bytes
  refine ⟨X.admits, X.cas, X.clock, hF, ?_, X.hears, X.method, X.code, X.here, X.tail, X.warmed, ?_, ?_, ?_⟩
  · have h := X.room
    have hU : ((T.setVm s.vm).setFrames (.invoking m args :: below)).localsInUse = s.localsInUse := by
      rw [State.localsInUse_invoking hF (meth := meth) (c := c) X.method X.code, State.localsInUse_invoking X.frames X.method X.code]
    simp only [State.hasRoom, Bool.and_eq_true, decide_eq_true_eq] at h ⊢
    obtain ⟨⟨⟨⟨h1, h2, h3, h4, h5, h6⟩, h7⟩, h8⟩, h9⟩ := h
    rw [X.frames, List.length_cons] at h2 h3
    have q1 := X.heapSize
    have q2 := X.used
    simp only [hF, hU, List.length_cons, State.stackLimits_setFrames, State.stackBytes_setFrames, hl9, hb9]
    refine ⟨⟨⟨⟨by omega, by omega, by omega, by omega, by omega, h6⟩, ?_⟩, ?_⟩, X.book⟩
    · show T.heap.size + R'.cells ≤ e.platform.maxCells
      omega
    · show T.slotsUsed + R'.slots ≤ e.platform.maxSlots
      omega
  · rw [State.stackLimits_setFrames]; rfl
  · rw [State.stackBytes_setFrames]; rfl
  · refine ⟨?_, Nat.le_refl _, Nat.le_refl _, ?_, ?_, fun a c9 h9 => ⟨c9, h9, rfl, rfl, fun _ _ => rfl⟩⟩
    · obtain ⟨t, ht, -⟩ := State.frames_cons hr
      show T.setVm s.vm = { ((T.setVm s.vm).setFrames (.invoking m args :: below)).setFrames (T.setVm s.vm).frames with heap := T.heap, slotsUsed := T.slotsUsed }
      rw [State.setFrames_setFrames, State.setFrames_self ht]
      rfl
    · show T.slotsUsed = T.slotsUsed + ((T.heap.toList.drop T.heap.size).map (·.slots.size)).sum
      rw [List.drop_eq_nil_of_le (Nat.le_of_eq Array.length_toList)]
      rfl
    · show ((T.heap.toList.drop T.heap.size).map (·.slots.size)).sum ≤ 0
      rw [List.drop_eq_nil_of_le (Nat.le_of_eq Array.length_toList)]
      exact Nat.le_refl _
/-- 'throw new E()': new; dup; invokespecial; athrow -/
theorem vx_throw0 {cc : ByteArray} {pc : Nat} (hexec : p.tables.exec = Jvm.exec) (hb : c.code = cc) (hl : l.stackTraces = false) {own cls : String} {names : List String} {ik ic mc ms : Nat} {A : Nat → Prop}
    (hown : s.vm.findClass own = some m.cls) (hcls : Bundle.fit cls = true) (hnames : ∀ n ∈ names, Bundle.fit n = true)
    (hk : (Cond.classLink own ik cls).before args s = true) (hini : (Cond.initialized cls).before args s = true) (hat : ∀ w ∈ vx_at0 own ic cls names, w.before args s = true)
    (hgood : ∀ w ∈ Cond.classLink own ik cls :: Cond.initialized cls :: vx_at0 own ic cls names, vx_ot w = true)
    (hU : vx_Zq Bundle.tN "UNASSIGNED_STACK" Bundle.steD A s s.heap) (hN : vx_Zq Bundle.tN "SUPPRESSED_SENTINEL" Bundle.listD A s s.heap) (hS : va_S A s.heap H locs) (hsize : ls.size = c.maxLocals)
    (d0 : decode cc pc = .ok (.new ik, 3)) (d3 : decode cc (pc + 3) = .ok (.dup, 1)) (d4 : decode cc (pc + 4) = .ok (.invokespecial ic, 3)) (d7 : decode cc (pc + 7) = .ok (.athrow, 1))
    (hout : ∀ x ∈ c.exceptionTable.toList, covers x (pc + 7) = false)
    (hRframes : names.length + 3 < R.frames) (hRlocals : (rest.map fun v => v.category).sum + (13 * (names.length + 1) + 42) ≤ R.locals) (hRcells : cells + 1 ≤ R.cells) (hRslots : slots + 6 ≤ R.slots) (hlocks : meth.locks = false)
    (hx : ∀ t : State, s.vm.Alike t.vm → H.size ≤ t.heap.size → (∀ q : Nat, q < H.size → t.heap[q]? = H[q]?) → XC cls s t)
    (hf : ∀ z ∈ locs, free z.base) (hc : cells + 1 ≤ mc) (hs : slots + 6 ≤ ms) :
    W p l e R s m args below meth c H locs cells slots (vx_MQ below Qc XC args s mc ms free) (F0 m pc ls rest) := by
  intro T hT X
  have htr : e.platform.stackTraces = false := (show e.platform.stackTraces = l.stackTraces by rw [X.admits.platform]).trans hl
  have Y := vx_rebase X (R' := { frames := R.frames, locals := R.locals, cells := 1, slots := 6 }) (Nat.le_refl _) (Nat.le_refl _) hRcells hRslots
  obtain ⟨s', hA⟩ : ∃ z, z = (T.setVm s.vm).setFrames (.invoking m args :: below) := ⟨_, rfl⟩
  rw [← hA] at Y
  have hvm : s'.vm = s.vm := by rw [hA]; rfl
  have hhp : s'.heap = H := by rw [hA]; exact hT
  have hW0 : s.WarmedH s'.vm := by rw [hvm]; exact State.WarmedH.refl s
  have hat' : ∀ w ∈ vx_at0 own ic cls names, w.before args s' = true := fun w hw => vx_ot_at hW0 hvm.symm (hgood w (List.mem_cons_of_mem _ (List.mem_cons_of_mem _ hw))) (hat w hw)
  have hk' : (Cond.classLink own ik cls).before args s' = true := vx_ot_at hW0 hvm.symm (hgood _ List.mem_cons_self) hk
  have hini' : (Cond.initialized cls).before args s' = true := vx_ot_at hW0 hvm.symm (hgood _ (List.mem_cons_of_mem _ List.mem_cons_self)) hini
  have hU' : vx_Zq Bundle.tN "UNASSIGNED_STACK" Bundle.steD A s' s'.heap := by rw [hhp]; exact vx_Zq.moved hW0.alike (hU.kept hS.2.1)
  have hN' : vx_Zq Bundle.tN "SUPPRESSED_SENTINEL" Bundle.listD A s' s'.heap := by rw [hhp]; exact vx_Zq.moved hW0.alike (hN.kept hS.2.1)
  have h : ∀ w ∈ Bundle.ownAtoms0 own ic cls names, w.before args s' = true := vx_own hat' (vx_isRefq hU'.1) (vx_isRefq hN'.1) hU'.2.word hN'.2.word
  have hown' : s'.vm.findClass own = some m.cls := by rw [hvm]; exact hown
  have hins : (Cond.instantiable cls 6).before args s' = true := h _ (by simp [Bundle.ownAtoms0])
  obtain ⟨vm₁, cX, kX, hfX, hkX, -, -, X₁, st1⟩ := Y.newCold hexec (own := own) (C := cls) (index := ik) (n := 6) hown' hk' hins hini'
    (g := F0 m pc ls rest) rfl (by rw [hb]; exact d0) (Nat.le_refl _) (Nat.le_refl _)
  generalize hT1 : (T.setVm vm₁).pushCell { cls := cX, slots := kX.instanceTypes.map defaultValue, vm := .none } = T1 at X₁ st1
  have hcat : (Value.ref T.heap.size).category = 1 := rfl
  have hcellA : T1.heap[T.heap.size]? = some (freshCell cX kX) := by rw [← hT1]; exact State.heap_pushCell_size _ _
  have d3' : decode c.code (pc + 3) = .ok (.dup, 1) := by rw [hb]; exact d3
  obtain ⟨U, hsteps, hrun, hend, hW, hsame, ce, hce, hO⟩ := X₁.ctorThrow0 hexec htr (own := own) (cls := cls) (names := names) (ic := ic) hown' hcls hnames h (fun x hx => nomatch hx) hfX hkX hcellA (by rw [hhp, hT]; exact Nat.le_refl _)
    (g := { method := m, pc := pc + 4, locals := ls, stack := .ref T.heap.size :: .ref T.heap.size :: rest, locked := none }) rfl hsize rfl rfl (rest := rest) rfl
    (by rw [hb]; exact d4) (by rw [hb]; exact d7) hout hRframes (by simp only [List.map_cons, List.sum_cons, hcat]; omega) hlocks
  obtain ⟨f1, f2⟩ := vx_frame hsame
  rw [hhp] at f1 f2
  have hWs : s.WarmedH U.vm := State.WarmedH.trans hW0 hW
  have hcl : s.vm.findClass cls = some ce.cls := by
    have h9 := hO.cls
    rw [hvm] at h9
    exact h9
  have hall : s.sameButNew ({ U with vm := s.vm } : State) locs mc ms := by
    subst hA
    obtain ⟨e1, e2⟩ := hsame
    rw [State.setFrames_setFrames] at e1
    have h2 : (T.setVm s.vm).sameButNew ({ U with vm := s.vm } : State) [] (0 + 1) (0 + 6) := ⟨e1, e2⟩
    have h3 := X.same.trans h2
    rw [List.append_nil] at h3
    exact h3.mono hc hs
  refine ⟨U, ?_, .threw T.heap.size, hrun, hend, Or.inr ⟨T.heap.size, rfl, cls, ce, locs, hx U hWs.alike f1 (fun q hq => f2 q hq (fun z hz => nomatch hz)), hce, hO.vm, hcl, hWs, hall, hf⟩⟩
  refine st1 _ ?_
  show Steps p.tables e below (T1.setTop { method := m, pc := pc + 3, locals := ls, stack := .ref T.heap.size :: rest, locked := none }) _
  jvm_step X₁.here [X₁.here.top, hexec, d3', Value.category]
  exact hsteps
/-- 'throw new E("text")': new; dup; ldc; invokespecial; athrow -/
theorem vx_throwS {cc : ByteArray} {pc : Nat} (hexec : p.tables.exec = Jvm.exec) (hb : c.code = cc) (hl : l.stackTraces = false) {own cls text : String} {names : List String} {ik is ic mc ms sa : Nat} {A : Nat → Prop}
    (hown : s.vm.findClass own = some m.cls) (hcls : Bundle.fit cls = true) (hnames : ∀ n ∈ names, Bundle.fit n = true)
    (hk : (Cond.classLink own ik cls).before args s = true) (hini : (Cond.initialized cls).before args s = true) (hstr : vk_R own is text sa s) (hat : ∀ w ∈ vx_atS own ic cls names, w.before args s = true)
    (hgood : ∀ w ∈ Cond.classLink own ik cls :: Cond.initialized cls :: vx_atS own ic cls names, vx_ot w = true)
    (hU : vx_Zq Bundle.tN "UNASSIGNED_STACK" Bundle.steD A s s.heap) (hN : vx_Zq Bundle.tN "SUPPRESSED_SENTINEL" Bundle.listD A s s.heap) (hS : va_S A s.heap H locs) (hsize : ls.size = c.maxLocals)
    (d0 : decode cc pc = .ok (.new ik, 3)) (d3 : decode cc (pc + 3) = .ok (.dup, 1)) (d4 : decode cc (pc + 4) = .ok (.ldc is, 2)) (d6 : decode cc (pc + 6) = .ok (.invokespecial ic, 3)) (d9 : decode cc (pc + 9) = .ok (.athrow, 1))
    (hout : ∀ x ∈ c.exceptionTable.toList, covers x (pc + 9) = false)
    (hRframes : names.length + 3 < R.frames) (hRlocals : (rest.map fun v => v.category).sum + (13 * (names.length + 1) + 43) ≤ R.locals) (hRcells : cells + 1 ≤ R.cells) (hRslots : slots + 6 ≤ R.slots) (hlocks : meth.locks = false)
    (hx : ∀ t : State, s.vm.Alike t.vm → H.size ≤ t.heap.size → (∀ q : Nat, q < H.size → t.heap[q]? = H[q]?) → XC cls s t)
    (hf : ∀ z ∈ locs, free z.base) (hc : cells + 1 ≤ mc) (hs : slots + 6 ≤ ms) :
    W p l e R s m args below meth c H locs cells slots (vx_MQ below Qc XC args s mc ms free) (F0 m pc ls rest) := by
  intro T hT X
  have htr : e.platform.stackTraces = false := (show e.platform.stackTraces = l.stackTraces by rw [X.admits.platform]).trans hl
  have Y := vx_rebase X (R' := { frames := R.frames, locals := R.locals, cells := 1, slots := 6 }) (Nat.le_refl _) (Nat.le_refl _) hRcells hRslots
  obtain ⟨s', hA⟩ : ∃ z, z = (T.setVm s.vm).setFrames (.invoking m args :: below) := ⟨_, rfl⟩
  rw [← hA] at Y
  have hvm : s'.vm = s.vm := by rw [hA]; rfl
  have hhp : s'.heap = H := by rw [hA]; exact hT
  have hW0 : s.WarmedH s'.vm := by rw [hvm]; exact State.WarmedH.refl s
  have hat' : ∀ w ∈ vx_atS own ic cls names, w.before args s' = true := fun w hw => vx_ot_at hW0 hvm.symm (hgood w (List.mem_cons_of_mem _ (List.mem_cons_of_mem _ hw))) (hat w hw)
  have hk' : (Cond.classLink own ik cls).before args s' = true := vx_ot_at hW0 hvm.symm (hgood _ List.mem_cons_self) hk
  have hini' : (Cond.initialized cls).before args s' = true := vx_ot_at hW0 hvm.symm (hgood _ (List.mem_cons_of_mem _ List.mem_cons_self)) hini
  have hU' : vx_Zq Bundle.tN "UNASSIGNED_STACK" Bundle.steD A s' s'.heap := by rw [hhp]; exact vx_Zq.moved hW0.alike (hU.kept hS.2.1)
  have hN' : vx_Zq Bundle.tN "SUPPRESSED_SENTINEL" Bundle.listD A s' s'.heap := by rw [hhp]; exact vx_Zq.moved hW0.alike (hN.kept hS.2.1)
  have h : ∀ w ∈ Bundle.ownAtoms own ic cls names, w.before args s' = true := vx_own hat' (vx_isRefq hU'.1) (vx_isRefq hN'.1) hU'.2.word hN'.2.word
  have hown' : s'.vm.findClass own = some m.cls := by rw [hvm]; exact hown
  have hins : (Cond.instantiable cls 6).before args s' = true := h _ (by simp [Bundle.ownAtoms])
  obtain ⟨vm₁, cX, kX, hfX, hkX, -, -, X₁, st1⟩ := Y.newCold hexec (own := own) (C := cls) (index := ik) (n := 6) hown' hk' hins hini'
    (g := F0 m pc ls rest) rfl (by rw [hb]; exact d0) (Nat.le_refl _) (Nat.le_refl _)
  generalize hT1 : (T.setVm vm₁).pushCell { cls := cX, slots := kX.instanceTypes.map defaultValue, vm := .none } = T1 at X₁ st1
  have hcat : (Value.ref T.heap.size).category = 1 := rfl
  have hcellA : T1.heap[T.heap.size]? = some (freshCell cX kX) := by rw [← hT1]; exact State.heap_pushCell_size _ _
  have d3' : decode c.code (pc + 3) = .ok (.dup, 1) := by rw [hb]; exact d3
  have d4' : decode c.code (pc + 4) = .ok (.ldc is, 2) := by rw [hb]; exact d4
  have hstr' : vk_R own is text sa s' := vk_R.warm hW0 hstr
  obtain ⟨U, hsteps, hrun, hend, hW, hsame, ce, hce, hO⟩ := X₁.ctorThrowS hexec htr (own := own) (cls := cls) (names := names) (ic := ic) hown' hcls hnames h (fun x hx => nomatch hx) hfX hkX hcellA (by rw [hhp, hT]; exact Nat.le_refl _) (msg := .ref sa) rfl
    (g := { method := m, pc := pc + 6, locals := ls, stack := .ref sa :: .ref T.heap.size :: .ref T.heap.size :: rest, locked := none }) rfl hsize rfl rfl (rest := rest) rfl
    (by rw [hb]; exact d6) (by rw [hb]; exact d9) hout hRframes (by simp only [List.map_cons, List.sum_cons, hcat]; omega) hlocks
  obtain ⟨f1, f2⟩ := vx_frame hsame
  rw [hhp] at f1 f2
  have hWs : s.WarmedH U.vm := State.WarmedH.trans hW0 hW
  have hcl : s.vm.findClass cls = some ce.cls := by
    have h9 := hO.cls
    rw [hvm] at h9
    exact h9
  have hall : s.sameButNew ({ U with vm := s.vm } : State) locs mc ms := by
    subst hA
    obtain ⟨e1, e2⟩ := hsame
    rw [State.setFrames_setFrames] at e1
    have h2 : (T.setVm s.vm).sameButNew ({ U with vm := s.vm } : State) [] (0 + 1) (0 + 6) := ⟨e1, e2⟩
    have h3 := X.same.trans h2
    rw [List.append_nil] at h3
    exact h3.mono hc hs
  refine ⟨U, ?_, .threw T.heap.size, hrun, hend, Or.inr ⟨T.heap.size, rfl, cls, ce, locs, hx U hWs.alike f1 (fun q hq => f2 q hq (fun z hz => nomatch hz)), hce, hO.vm, hcl, hWs, hall, hf⟩⟩
  refine st1 _ ?_
  show Steps p.tables e below (T1.setTop { method := m, pc := pc + 3, locals := ls, stack := .ref T.heap.size :: rest, locked := none }) _
  jvm_step X₁.here [X₁.here.top, hexec, d3', Value.category]
  exact X₁.ldcString hexec (own := own) (text := text) (index := is) (a := sa) hown' hstr'.1 hstr'.2
    (g := { method := m, pc := pc + 4, locals := ls, stack := .ref T.heap.size :: .ref T.heap.size :: rest, locked := none }) rfl d4' _ hsteps
/-- 'throw new E("text")', the text by a wide index -/
theorem vx_throwSW {cc : ByteArray} {pc : Nat} (hexec : p.tables.exec = Jvm.exec) (hb : c.code = cc) (hl : l.stackTraces = false) {own cls text : String} {names : List String} {ik is ic mc ms sa : Nat} {A : Nat → Prop}
    (hown : s.vm.findClass own = some m.cls) (hcls : Bundle.fit cls = true) (hnames : ∀ n ∈ names, Bundle.fit n = true)
    (hk : (Cond.classLink own ik cls).before args s = true) (hini : (Cond.initialized cls).before args s = true) (hstr : vk_R own is text sa s) (hat : ∀ w ∈ vx_atS own ic cls names, w.before args s = true)
    (hgood : ∀ w ∈ Cond.classLink own ik cls :: Cond.initialized cls :: vx_atS own ic cls names, vx_ot w = true)
    (hU : vx_Zq Bundle.tN "UNASSIGNED_STACK" Bundle.steD A s s.heap) (hN : vx_Zq Bundle.tN "SUPPRESSED_SENTINEL" Bundle.listD A s s.heap) (hS : va_S A s.heap H locs) (hsize : ls.size = c.maxLocals)
    (d0 : decode cc pc = .ok (.new ik, 3)) (d3 : decode cc (pc + 3) = .ok (.dup, 1)) (d4 : decode cc (pc + 4) = .ok (.ldc_w is, 3)) (d7 : decode cc (pc + 7) = .ok (.invokespecial ic, 3)) (d10 : decode cc (pc + 10) = .ok (.athrow, 1))
    (hout : ∀ x ∈ c.exceptionTable.toList, covers x (pc + 10) = false)
    (hRframes : names.length + 3 < R.frames) (hRlocals : (rest.map fun v => v.category).sum + (13 * (names.length + 1) + 43) ≤ R.locals) (hRcells : cells + 1 ≤ R.cells) (hRslots : slots + 6 ≤ R.slots) (hlocks : meth.locks = false)
    (hx : ∀ t : State, s.vm.Alike t.vm → H.size ≤ t.heap.size → (∀ q : Nat, q < H.size → t.heap[q]? = H[q]?) → XC cls s t)
    (hf : ∀ z ∈ locs, free z.base) (hc : cells + 1 ≤ mc) (hs : slots + 6 ≤ ms) :
    W p l e R s m args below meth c H locs cells slots (vx_MQ below Qc XC args s mc ms free) (F0 m pc ls rest) := by
  intro T hT X
  have htr : e.platform.stackTraces = false := (show e.platform.stackTraces = l.stackTraces by rw [X.admits.platform]).trans hl
  have Y := vx_rebase X (R' := { frames := R.frames, locals := R.locals, cells := 1, slots := 6 }) (Nat.le_refl _) (Nat.le_refl _) hRcells hRslots
  obtain ⟨s', hA⟩ : ∃ z, z = (T.setVm s.vm).setFrames (.invoking m args :: below) := ⟨_, rfl⟩
  rw [← hA] at Y
  have hvm : s'.vm = s.vm := by rw [hA]; rfl
  have hhp : s'.heap = H := by rw [hA]; exact hT
  have hW0 : s.WarmedH s'.vm := by rw [hvm]; exact State.WarmedH.refl s
  have hat' : ∀ w ∈ vx_atS own ic cls names, w.before args s' = true := fun w hw => vx_ot_at hW0 hvm.symm (hgood w (List.mem_cons_of_mem _ (List.mem_cons_of_mem _ hw))) (hat w hw)
  have hk' : (Cond.classLink own ik cls).before args s' = true := vx_ot_at hW0 hvm.symm (hgood _ List.mem_cons_self) hk
  have hini' : (Cond.initialized cls).before args s' = true := vx_ot_at hW0 hvm.symm (hgood _ (List.mem_cons_of_mem _ List.mem_cons_self)) hini
  have hU' : vx_Zq Bundle.tN "UNASSIGNED_STACK" Bundle.steD A s' s'.heap := by rw [hhp]; exact vx_Zq.moved hW0.alike (hU.kept hS.2.1)
  have hN' : vx_Zq Bundle.tN "SUPPRESSED_SENTINEL" Bundle.listD A s' s'.heap := by rw [hhp]; exact vx_Zq.moved hW0.alike (hN.kept hS.2.1)
  have h : ∀ w ∈ Bundle.ownAtoms own ic cls names, w.before args s' = true := vx_own hat' (vx_isRefq hU'.1) (vx_isRefq hN'.1) hU'.2.word hN'.2.word
  have hown' : s'.vm.findClass own = some m.cls := by rw [hvm]; exact hown
  have hins : (Cond.instantiable cls 6).before args s' = true := h _ (by simp [Bundle.ownAtoms])
  obtain ⟨vm₁, cX, kX, hfX, hkX, -, -, X₁, st1⟩ := Y.newCold hexec (own := own) (C := cls) (index := ik) (n := 6) hown' hk' hins hini'
    (g := F0 m pc ls rest) rfl (by rw [hb]; exact d0) (Nat.le_refl _) (Nat.le_refl _)
  generalize hT1 : (T.setVm vm₁).pushCell { cls := cX, slots := kX.instanceTypes.map defaultValue, vm := .none } = T1 at X₁ st1
  have hcat : (Value.ref T.heap.size).category = 1 := rfl
  have hcellA : T1.heap[T.heap.size]? = some (freshCell cX kX) := by rw [← hT1]; exact State.heap_pushCell_size _ _
  have d3' : decode c.code (pc + 3) = .ok (.dup, 1) := by rw [hb]; exact d3
  have d4' : decode c.code (pc + 4) = .ok (.ldc_w is, 3) := by rw [hb]; exact d4
  have hstr' : vk_R own is text sa s' := vk_R.warm hW0 hstr
  obtain ⟨U, hsteps, hrun, hend, hW, hsame, ce, hce, hO⟩ := X₁.ctorThrowS hexec htr (own := own) (cls := cls) (names := names) (ic := ic) hown' hcls hnames h (fun x hx => nomatch hx) hfX hkX hcellA (by rw [hhp, hT]; exact Nat.le_refl _) (msg := .ref sa) rfl
    (g := { method := m, pc := pc + 7, locals := ls, stack := .ref sa :: .ref T.heap.size :: .ref T.heap.size :: rest, locked := none }) rfl hsize rfl rfl (rest := rest) rfl
    (by rw [hb]; exact d7) (by rw [hb]; exact d10) hout hRframes (by simp only [List.map_cons, List.sum_cons, hcat]; omega) hlocks
  obtain ⟨f1, f2⟩ := vx_frame hsame
  rw [hhp] at f1 f2
  have hWs : s.WarmedH U.vm := State.WarmedH.trans hW0 hW
  have hcl : s.vm.findClass cls = some ce.cls := by
    have h9 := hO.cls
    rw [hvm] at h9
    exact h9
  have hall : s.sameButNew ({ U with vm := s.vm } : State) locs mc ms := by
    subst hA
    obtain ⟨e1, e2⟩ := hsame
    rw [State.setFrames_setFrames] at e1
    have h2 : (T.setVm s.vm).sameButNew ({ U with vm := s.vm } : State) [] (0 + 1) (0 + 6) := ⟨e1, e2⟩
    have h3 := X.same.trans h2
    rw [List.append_nil] at h3
    exact h3.mono hc hs
  refine ⟨U, ?_, .threw T.heap.size, hrun, hend, Or.inr ⟨T.heap.size, rfl, cls, ce, locs, hx U hWs.alike f1 (fun q hq => f2 q hq (fun z hz => nomatch hz)), hce, hO.vm, hcl, hWs, hall, hf⟩⟩
  refine st1 _ ?_
  show Steps p.tables e below (T1.setTop { method := m, pc := pc + 3, locals := ls, stack := .ref T.heap.size :: rest, locked := none }) _
  jvm_step X₁.here [X₁.here.top, hexec, d3', Value.category]
  exact X₁.ldcStringW hexec (own := own) (text := text) (index := is) (a := sa) hown' hstr'.1 hstr'.2
    (g := { method := m, pc := pc + 4, locals := ls, stack := .ref T.heap.size :: .ref T.heap.size :: rest, locked := none }) rfl d4' _ hsteps
end Ends
section Bodies
variable {l : Launch}
theorem vx_ofW {y : MethodName} {ws ws' : List Cond} {rm : Room} {Pc : Array Value → State → Prop} {Qc : Array Value → State → Outcome → State → Prop} {XC : String → State → State → Prop} {mc ms : Nat} {free : Addr → Prop} {cc : ByteArray} {maxL : Nat} {ret : Option FieldType}
    (hy : plainName y.cls = true) (hw : ws = Cond.code y cc maxL ret :: ws')
    (body : ∀ p e s m args below meth c s₁, BodyLoose p l y (headSpec ws rm) cc maxL ret e s m args below meth c s₁ → c.maxLocals = maxL → (∀ x ∈ c.exceptionTable.toList, False) → Pc args s →
      W p l e (headSpec ws rm).room s m args below meth c s.heap [] 0 0 (vx_MQ below Qc XC args s mc ms free) (entryFrame m args maxL)) : vx_Met l y ws rm Pc Qc XC mc ms free := by
  refine MetFree.of_bodyS (code := cc) (maxLocals := maxL) (ret := ret) hy ?_ ?_
  · intro args s m h hn
    obtain ⟨meth, c, h1, h2, h3, h4, h5, h6, -, -⟩ := Cond.code_spec hn (atoms_spec (ws := ws) h _ (by rw [hw]; exact List.mem_cons_self))
    exact ⟨meth, c, h1, h2, h3, h4, h5, h6⟩
  · intro p e s m args below meth c s₁ B hml hP _
    have hh0 : s₁.heap = s.heap := by rw [B.state]; rfl
    have ht : ∀ x ∈ c.exceptionTable.toList, False := by
      obtain ⟨meth9, c9, h1, h2, -, -, -, -, h7, -⟩ := Cond.code_spec B.named (atoms_spec (ws := ws) B.pre _ (by rw [hw]; exact List.mem_cons_self))
      cases Option.some.inj (h1.symm.trans B.method)
      cases Option.some.inj (h2.symm.trans (Stand.of_body B).code)
      intro x hx
      rw [Array.isEmpty_iff.mp h7] at hx
      cases hx
    obtain ⟨t, a1, o, b1, b2, b3⟩ := body p e s m args below meth c s₁ B hml ht hP s₁ hh0 (Stand.of_body B)
    exact ⟨t, o, a1, b1, b2, b3⟩
/-- the table of a body with handlers -/
theorem vx_table {p : Program} {x y : MethodName} {S : Spec} {cc bytes : ByteArray} {maxL maxL' : Nat} {ret ret' : Option FieldType} {e : Env} {s s₁ : State} {m : MethodId} {args : Array Value} {below : List Frame} {meth : Method} {c : Code} {hh : List (Nat × Nat × Nat × Nat)}
    (B : BodyLoose p l y S cc maxL ret e s m args below meth c s₁) (h : (Cond.codeWith y bytes maxL' ret' hh).before args s = true) : c.exceptionTable.toList = tableOf hh := by
  obtain ⟨m9, meth9, c9, hn9, h1, h2, -, -, h6, -⟩ := Cond.codeWith_spec h
  cases Option.some.inj (hn9.symm.trans B.named)
  cases Option.some.inj (h1.symm.trans B.method)
  cases Option.some.inj (h2.symm.trans (Stand.of_body B).code)
  rw [← h6, table_eq]
end Bodies
end VXA
/-! ===== END ===== -/
/-! ===== BEGIN a static call of a method with an exception table ===== -/
section VXS
variable {p : Program} {l : Launch} {e : Env} {R : Room} {s : State} {m : MethodId} {args : Array Value} {below : List Frame} {meth : Method} {c : Code} {T : State} {H : Heap} {locs : List Loc} {cells slots : Nat}
abbrev vx_CSW (R : Room) (s : State) (args : Array Value) (own : String) (index : Nat) (y : MethodName) (bytes : ByteArray) (maxL : Nat) (ret : Option FieldType) (hh : List (Nat × Nat × Nat × Nat)) (ws : List Cond) (rm : Room) (mc ms n : Nat) : Prop :=
  (rm.cells = mc ∧ rm.slots = ms ∧ rm.frames + 1 ≤ R.frames ∧ 8 + (maxL + 11) + rm.locals ≤ R.locals ∧ (∀ w ∈ ws, ∀ (a' : Array Value) (U : State), s.WarmedH U.vm → w.before a' U = true) ∧ Cond.codeWith y bytes maxL ret hh ∈ ws) ∧
  (Cond.codeWith y bytes maxL ret hh).before args s = true ∧ (Cond.initialized y.cls).before args s = true ∧ (y.cls ≠ "java/lang/invoke/MethodHandle" ∧ y.cls ≠ "java/lang/invoke/VarHandle") ∧
  (∀ sig, parseMethodDescriptor y.desc = some sig → n = sig.parameters.length) ∧ (Cond.methodLink own index y).before args s = true ∧ (Cond.static y).before args s = true
theorem vx_cwSW {own : String} {index maxL mc ms : Nat} {y : MethodName} {bytes : ByteArray} {ret : Option FieldType} {hh : List (Nat × Nat × Nat × Nat)} {Ts ws ws' : List Cond} {rm : Room} (n : Nat) (ht : ∀ w ∈ Ts, w.before args s = true) (hT : GoodIn Ts (va_wsS own index y ws)) (hw : ws = Cond.codeWith y bytes maxL ret hh :: ws') (hrc : rm.cells = mc) (hrs : rm.slots = ms)
    (hd : y.cls ≠ "java/lang/invoke/MethodHandle" ∧ y.cls ≠ "java/lang/invoke/VarHandle" ∧ (parseMethodDescriptor y.desc).map (fun d => d.parameters.length) = some n) (hR : rm.frames + 1 ≤ R.frames ∧ 8 + (maxL + 11) + rm.locals ≤ R.locals) :
    vx_CSW R s args own index y bytes maxL ret hh ws rm mc ms n := by
  have ok : ∀ w ∈ va_wsS own index y ws, w.before args s = true := fun w h => ht w (hT w h).1
  have hG : GoodIn Ts ws := fun w h => hT w (by unfold va_wsS; exact List.mem_append_right _ h)
  have hc : Cond.codeWith y bytes maxL ret hh ∈ ws := by rw [hw]; exact List.mem_cons_self
  refine ⟨⟨hrc, hrs, hR.1, hR.2, pay_in ht hG, hc⟩, ht _ (hG _ hc).1, ok _ (by simp [va_wsS]), ⟨hd.1, hd.2.1⟩, fun sig h => ?_, ok _ (by simp [va_wsS]), ok _ (by simp [va_wsS])⟩
  have h2 := hd.2.2
  rw [h] at h2
  exact (Option.some.inj h2).symm
theorem vx_callSW (X : Stand p l e R s m args below meth c T locs cells slots) (hexec : p.tables.exec = Jvm.exec) {own : String} {index : Nat} {y : MethodName} {bytes : ByteArray} {maxL : Nat} {ret : Option FieldType} {hh : List (Nat × Nat × Nat × Nat)}
    (hown : s.vm.findClass own = some m.cls) (hlink : (Cond.methodLink own index y).before args s = true) (hstat : (Cond.static y).before args s = true) (hinit : (Cond.initialized y.cls).before args s = true)
    (hcode : (Cond.codeWith y bytes maxL ret hh).before args s = true) (hy : y.cls ≠ "java/lang/invoke/MethodHandle" ∧ y.cls ≠ "java/lang/invoke/VarHandle")
    {W9 : Nat} {Pre : Pt → Array Value → Prop} {Post : Pt → Array Value → Option Value → Pt → Prop} (hK : Back l R p e below s args y 3 W9 Pre Post)
    {g : JFrame} (hg : g.method = m) (hsize : g.locals.size = c.maxLocals) {argsL rest : List Value} (hlen : ∀ sig, parseMethodDescriptor y.desc = some sig → argsL.length = sig.parameters.length)
    (hstack : g.stack = argsL.reverse ++ rest) (hW : 2 * g.monitorRoom + (rest.map fun v => v.category).sum ≤ W9) (hdg : decode c.code g.pc = .ok (.invokestatic index, 3))
    (hpre : ∀ vm₁, s.WarmedH vm₁ → Pre ⟨T.setVm vm₁, locs, cells, slots⟩ argsL.toArray) :
    ∃ (v : Option Value) (vm₁ : Vm) (B : Pt), s.WarmedH vm₁ ∧ Stand p l e R s m args below meth c B.U B.locs B.cells B.slots ∧ Post ⟨T.setVm vm₁, locs, cells, slots⟩ argsL.toArray v B ∧
      ∀ target, Steps p.tables e below (B.U.setTop { g with pc := g.pc + 3, stack := v.toList ++ rest }) target → Steps p.tables e below (T.setTop g) target := by
  obtain ⟨mk, methM, cM, hnamed, hmethM, -, -, -, -, -, -, hsigM⟩ := Cond.codeWith_spec hcode
  have hstatic : methM.isStatic = true := Cond.static_spec hnamed hmethM hstat
  obtain ⟨kP, hkP, -⟩ := className_of_methodNamed hnamed
  have hinitP : kP.init = .initialized := Cond.initialized_spec (findClass_of_methodNamed hnamed) hkP hinit
  obtain ⟨vm₁, X₁, hstep₁⟩ := X.invokestatic hexec hown hlink hnamed hmethM hstatic hkP hinitP hy (g := g) hg (argsL := argsL) (rest := rest) (hlen _ hsigM) hstack hdg
  obtain ⟨v, B, X', hpost, hsteps⟩ := hK m meth c ⟨T.setVm vm₁, locs, cells, slots⟩ { g with stack := rest } (.invokestatic index) mk argsL.toArray X₁ hg hsize hdg hW (X₁.named hnamed) (hpre vm₁ X₁.warmed)
  exact ⟨v, vm₁, B, X₁.warmed, X', hpost, fun target h => hstep₁ _ fun acts => by rw [doInvoke_state]; exact hsteps.trans h⟩
theorem vx_runSW {y : MethodName} {bytes cc : ByteArray} {maxL nL mc ms n index : Nat} {ret : Option FieldType} {hh : List (Nat × Nat × Nat × Nat)} {ws : List Cond} {rm : Room} {Pc : Array Value → State → Prop} {Qc : Array Value → State → Outcome → State → Prop} {free : Addr → Prop} {Ts : List Cond} {own : String} {As rest : List Value} {g : JFrame}
    (S : CallFix p m c cc nL s args Ts own) (hM : Met l y ws rm Pc Qc mc ms free) (cw : vx_CSW R s args own index y bytes maxL ret hh ws rm mc ms n) (hp : PreS s H Pc As)
    (hg : g.method = m) (hn : As.length = n) (hsize : g.locals.size = nL) (hstack : g.stack = As.reverse ++ rest) (hW : 2 * g.monitorRoom + (rest.map fun v => v.category).sum ≤ 8) (hdg : decode cc g.pc = .ok (.invokestatic index, 3)) (hf : cells + mc ≤ R.cells ∧ slots + ms ≤ R.slots) :
    va_Run p l e R s m args below meth c H locs cells slots mc ms g rest (Qc As.toArray) (free) := by
  obtain ⟨⟨hrc, hrs, hfr, hlo, hws, hcw⟩, hcode, hini, hy, hlen, hl, hstt⟩ := cw
  have hK : Back l R p e below s args y 3 8 (PreOf R mc ms Pc) (PostOf Qc mc ms free) := va_backW (hh := hh) (bytes := bytes) (maxL := maxL) (ret := ret) hM hp.1 hrc hrs hfr hlo hws hcw (fun a' U hW => word_at hW (Or.inl (by first | rfl | simp [Cond.onTables, Cond.keeps, Cond.steady])) hini)
  obtain ⟨hx, hb, hml, ho, -⟩ := S
  intro T hT X
  obtain ⟨v, vm₁, ⟨U', l2, c2, s2⟩, hW₁, X', ⟨g', mk, t, L, e1, e2, hq, h1, hL, h2, h3⟩, st⟩ := vx_callSW X hx (hh := hh) (bytes := bytes) (maxL := maxL) (ret := ret) ho hl hstt hini hcode hy hK hg (hsize.trans hml.symm) (argsL := As) (rest := rest) (fun sig h => hn.trans (hlen sig h)) hstack hW (by rw [hb]; exact hdg)
    (fun vm₁ hW₁ => ⟨hf.1, hf.2, hp.2 (T.setVm vm₁) hT hW₁⟩)
  dsimp only [Pt.U, Pt.locs, Pt.cells, Pt.slots] at X' e1 e2 h1 h2 h3 st
  subst h1; subst h2; subst h3
  exact ⟨v, (T.setVm vm₁).calling g' mk As.toArray, t, U', L, hT, X', hL, e1, e2, hq, st⟩
/-- a thing of a world lies in the heap -/
theorem vx_lt {D : va_G} {cl : List vw_C} {ws : va_W} {H1 : Heap} (h : va_P D cl ws H1) {k : Nat} {q : Nat × va_E} (hk : ws[k]? = some q) : q.1 < H1.size := (h k q hk).lt
end VXS
/-! ===== END ===== -/
/-! ===== BEGIN methods with a table of their own: called by a name, returning or throwing ===== -/
section VXH
/-! vx_backW, vx_callVX, vx_callSX, vx_callVW, vx_runVW, vx_runVX, vx_runSX, vx_ofWH follow the same proofs as their sisters above (Free/Laws.lean, Shelf42/LK1.lean); vx_outP calls Shelf42/NT130.lean (outThrough). -/
section
variable {l : Launch} {R : Room} {p : Program} {e : Env} {below : List Frame} {s : State} {sargs : Array Value} {y : MethodName} {len W9 : Nat}
theorem vx_backW {ws : List Cond} {rm : Room} {Pc : Array Value → State → Prop} {Qc : Array Value → State → Outcome → State → Prop} {XC : String → State → State → Prop} {mc ms : Nat} {free : Addr → Prop} {bytes : ByteArray} {maxL : Nat} {ret : Option FieldType} {hh : List (Nat × Nat × Nat × Nat)}
    (hM : vx_Met l y ws rm Pc Qc XC mc ms free) (hblind : FrameBlind Pc) (hrc : rm.cells = mc) (hrs : rm.slots = ms)
    (hframes : rm.frames + 1 ≤ R.frames) (hlocals : W9 + (maxL + 11) + rm.locals ≤ R.locals)
    (hws : ∀ w ∈ ws, ∀ a' U, s.WarmedH U.vm → w.before a' U = true) (hcode : Cond.codeWith y bytes maxL ret hh ∈ ws) (hinit : ∀ a' U, s.WarmedH U.vm → (Cond.initialized y.cls).before a' U = true) :
    vx_Back l R p e below s sargs y len W9 (PreOf R mc ms Pc) (PostOf Qc mc ms free) (vx_Post XC mc ms free) := by
  intro m meth c A g ig mk a X hg hsize hdg hW hn hp
  have h1 : (headSpec ws rm).pre.before a A.U = true := atoms_intro fun w hw => hws w hw _ _ X.warmed
  have h2 : (Cond.codeWith y bytes maxL ret hh).before a A.U = true := hws _ hcode _ _ X.warmed
  have h3 : (Cond.initialized y.cls).before a A.U = true := hinit _ _ X.warmed
  have h4 : A.cells + (headSpec ws rm).room.cells ≤ R.cells := by rw [show (headSpec ws rm).room.cells = mc from hrc]; exact hp.1
  have h5 : A.slots + (headSpec ws rm).room.slots ≤ R.slots := by rw [show (headSpec ws rm).room.slots = ms from hrs]; exact hp.2.1
  have hPc : Pc a (A.U.calling g mk a) := hblind _ _ _ _ hp.2.2
  obtain ⟨U, Ls, c0, s0⟩ := A
  dsimp only [Pt.U, Pt.locs, Pt.cells, Pt.slots] at h1 h2 h3 h4 h5 X hn hPc ⊢
  obtain ⟨m9, methY, cY, hn9, hmY, hcY, -, hlY, -⟩ := Cond.codeWith_spec h2
  cases Option.some.inj (hn9.symm.trans hn)
  obtain ⟨kY, hkY, -⟩ := className_of_methodNamed hn
  have hinitY : kY.init = .initialized := Cond.initialized_spec (findClass_of_methodNamed hn) hkY h3
  have h : At U g.method c below := by rw [hg]; exact X.here
  have hlocals9 : W9 + (maxL + 11) + (headSpec ws rm).room.locals ≤ R.locals := hlocals
  have happ : (headSpec ws rm).appliesLoose y e.platform (U.calling g mk a) = true :=
    Spec.appliesLoose_calling (g := g) h hdg hn hkY hinitY
      (X.room_calling (g := g) (R' := (headSpec ws rm).room) hsize hmY hcY hframes (by rw [hlY]; omega) h4 h5) h1
  obtain ⟨mid, hmid⟩ := h.above
  have hfr : (U.setTop g).frames = (.java g :: mid) ++ below := by rw [State.frames_setTop' g h.top, hmid]; rfl
  obtain ⟨o, s₂, hsteps, -, hend, hq⟩ := Steps.callFree hM p X.admits X.cas X.clock (acts := []) hfr happ hPc trivial
  have hq' : vx_Q Qc XC mc ms free a (U.calling g mk a) o s₂ := hq
  rw [State.frames_setTop' g h.top] at hend
  obtain ⟨g₀, hg0⟩ := Option.isSome_iff_exists.mp h.top
  obtain ⟨r, hr⟩ := State.topJava?_eq_some.mp hg0
  have hr' : (({ U with heap := s₂.heap, slotsUsed := s₂.slotsUsed } : State).setVm s₂.vm).frames = .java g₀ :: r := hr
  rcases hq' with ⟨hqc, L, hfe, hL⟩ | ⟨q, rfl, E, ce, L, hx, hce, hcv, hcl, hW₂, hsm, hL⟩
  · obtain ⟨⟨v, rfl⟩, hW₂, e2, q2, q3, q4, q5, q6⟩ := id hfe
    have e3 : s₂ = ({ (U.calling g mk a).setFrames s₂.frames with heap := s₂.heap, slotsUsed := s₂.slotsUsed } : State).setVm s₂.vm := by
      have : s₂ = ({ s₂ with vm := (U.calling g mk a).vm } : State).setVm s₂.vm := rfl
      rw [e2] at this
      exact this
    obtain ⟨c₂, i₂, len₂, hc₂, hd₂, hf₂⟩ := hend
    have hW' : U.WarmedH s₂.vm := hW₂
    have hcc : c₂ = c := by
      have h1 : s₂.code? g.method = U.code? g.method := by
        rw [State.code?_eq, State.code?_eq, hW'.alike.method?]
      exact Option.some.inj (hc₂.symm.trans (h1.trans h.code))
    subst hcc
    have hlen : len₂ = len := by rw [hdg] at hd₂; cases hd₂; rfl
    subst hlen
    have hs₂ : s₂ = (({ U with heap := s₂.heap, slotsUsed := s₂.slotsUsed } : State).setVm s₂.vm).setTop { g with pc := g.pc + len₂, stack := v.toList ++ g.stack } := by
      refine e3.trans ?_
      rw [hf₂, State.calling_eq h.top, State.setFrames_setFrames, State.setTop_of_frames _ hr', hr]
      rfl
    have hsame : U.sameButNew ({ U with heap := s₂.heap, slotsUsed := s₂.slotsUsed } : State) L mc ms := by
      refine ⟨?_, q2, q3, q4, q5, q6⟩
      obtain ⟨t, ht, -⟩ := State.frames_cons hr
      show ({ U with heap := s₂.heap, slotsUsed := s₂.slotsUsed } : State) = { U.setFrames U.frames with heap := s₂.heap, slotsUsed := s₂.slotsUsed }
      rw [State.setFrames_self ht]
    subst hg
    refine Or.inl ⟨v, ⟨(({ U with heap := s₂.heap, slotsUsed := s₂.slotsUsed } : State).setVm s₂.vm), Ls ++ L, c0 + mc, s0 + ms⟩,
      ⟨X.admits, X.cas, X.clock, X.frames, X.room, X.hears, X.method, X.code, (X.here.setHeapUsed s₂.heap s₂.slotsUsed).setVm hW'.alike, X.tail, State.WarmedH.trans X.warmed hW', X.limits, X.bytes, X.same.trans (hsame.setVm s.vm)⟩,
      ⟨g, mk, s₂, L, rfl, rfl, hqc, rfl, hL, rfl, rfl⟩, ?_⟩
    show Steps p.tables e below _ ((({ U with heap := s₂.heap, slotsUsed := s₂.slotsUsed } : State).setVm s₂.vm).setTop { g with pc := g.pc + len₂, stack := v.toList ++ g.stack })
    rw [← hs₂]
    exact hsteps
  · obtain ⟨e2, q2, q3, q4, q5, q6⟩ := id hsm
    have e3 : s₂ = ({ (U.calling g mk a).setFrames s₂.frames with heap := s₂.heap, slotsUsed := s₂.slotsUsed } : State).setVm s₂.vm := by
      have : s₂ = ({ s₂ with vm := (U.calling g mk a).vm } : State).setVm s₂.vm := rfl
      rw [e2] at this
      exact this
    have hf₂ : s₂.frames = .throwing q :: .java g :: U.frames.tail := hend
    have hW' : U.WarmedH s₂.vm := hW₂
    have hs₂ : s₂ = ((({ U with heap := s₂.heap, slotsUsed := s₂.slotsUsed } : State).setVm s₂.vm).setTop g).pushFrame (.throwing q) := by
      refine e3.trans ?_
      rw [hf₂, State.calling_eq h.top, State.setFrames_setFrames, State.pushFrame, State.frames_setTop _ hr', State.setTop_of_frames _ hr', State.setFrames_setFrames, hr]
      rfl
    have hsame : U.sameButNew ({ U with heap := s₂.heap, slotsUsed := s₂.slotsUsed } : State) L mc ms := by
      refine ⟨?_, q2, q3, q4, q5, q6⟩
      obtain ⟨t, ht, -⟩ := State.frames_cons hr
      show ({ U with heap := s₂.heap, slotsUsed := s₂.slotsUsed } : State) = { U.setFrames U.frames with heap := s₂.heap, slotsUsed := s₂.slotsUsed }
      rw [State.setFrames_self ht]
    subst hg
    refine Or.inr ⟨q, ⟨(({ U with heap := s₂.heap, slotsUsed := s₂.slotsUsed } : State).setVm s₂.vm), Ls ++ L, c0 + mc, s0 + ms⟩,
      ⟨X.admits, X.cas, X.clock, X.frames, X.room, X.hears, X.method, X.code, (X.here.setHeapUsed s₂.heap s₂.slotsUsed).setVm hW'.alike, X.tail, State.WarmedH.trans X.warmed hW', X.limits, X.bytes, X.same.trans (hsame.setVm s.vm)⟩,
      ⟨g, mk, s₂, L, E, ce, rfl, rfl, hx, hce, hcv, hcl, rfl, hL, rfl, rfl⟩, ?_⟩
    show Steps p.tables e below _ (((({ U with heap := s₂.heap, slotsUsed := s₂.slotsUsed } : State).setVm s₂.vm).setTop g).pushFrame (.throwing q))
    rw [← hs₂]
    exact hsteps
end
variable {p : Program} {l : Launch} {e : Env} {R : Room} {s : State} {m : MethodId} {args : Array Value} {below : List Frame} {meth : Method} {c : Code} {T : State} {H : Heap} {locs : List Loc} {cells slots : Nat}
theorem vx_callVX (X : Stand p l e R s m args below meth c T locs cells slots) (hexec : p.tables.exec = Jvm.exec) {own C : String} {index : Nat} {y : MethodName} {bytes : ByteArray} {maxL : Nat} {ret : Option FieldType} {hh : List (Nat × Nat × Nat × Nat)}
    (hown : s.vm.findClass own = some m.cls) (hlink : (Cond.methodLink own index y).before args s = true) (hinst : (Cond.instanceMethod y).before args s = true) (hsel : (Cond.selects C y y).before args s = true)
    (hcode : (Cond.codeWith y bytes maxL ret hh).before args s = true) (hy : y.cls ≠ "java/lang/invoke/MethodHandle" ∧ y.cls ≠ "java/lang/invoke/VarHandle")
    {W9 : Nat} {Pre : Pt → Array Value → Prop} {Post : Pt → Array Value → Option Value → Pt → Prop} {PostX : Pt → Array Value → Addr → Pt → Prop} (hK : vx_Back l R p e below s args y 3 W9 Pre Post PostX)
    {b : Addr} {cellB : Cell} (hcell : T.heap[b]? = some cellB) (hobj : cellB.vm.isStatics = false) (hcls : s.vm.findClass C = some cellB.cls)
    {g : JFrame} (hg : g.method = m) (hsize : g.locals.size = c.maxLocals) {argsL rest : List Value} (hlen : ∀ sig, parseMethodDescriptor y.desc = some sig → argsL.length = sig.parameters.length)
    (hstack : g.stack = argsL.reverse ++ .ref b :: rest) (hW : 2 * g.monitorRoom + (rest.map fun v => v.category).sum ≤ W9) (hdg : decode c.code g.pc = .ok (.invokevirtual index, 3))
    (hpre : ∀ vm₁, s.WarmedH vm₁ → Pre ⟨T.setVm vm₁, locs, cells, slots⟩ (Value.ref b :: argsL).toArray) :
    (∃ (v : Option Value) (vm₁ : Vm) (B : Pt), s.WarmedH vm₁ ∧ Stand p l e R s m args below meth c B.U B.locs B.cells B.slots ∧ Post ⟨T.setVm vm₁, locs, cells, slots⟩ (Value.ref b :: argsL).toArray v B ∧
      ∀ target, Steps p.tables e below (B.U.setTop { g with pc := g.pc + 3, stack := v.toList ++ rest }) target → Steps p.tables e below (T.setTop g) target) ∨
    (∃ (q : Addr) (vm₁ : Vm) (B : Pt), s.WarmedH vm₁ ∧ Stand p l e R s m args below meth c B.U B.locs B.cells B.slots ∧ PostX ⟨T.setVm vm₁, locs, cells, slots⟩ (Value.ref b :: argsL).toArray q B ∧
      Steps p.tables e below (T.setTop g) ((B.U.setTop { g with stack := rest }).pushFrame (.throwing q))) := by
  obtain ⟨mk, methM, hnamed, hmethM, hstM, habM⟩ := Cond.instanceMethod_spec hinst
  obtain ⟨m8, methM', cM, hn8, hmethM', -, -, -, -, -, -, hsigM⟩ := Cond.codeWith_spec hcode
  cases Option.some.inj (hn8.symm.trans hnamed)
  cases hmethM.symm.trans hmethM'
  obtain ⟨c2, r2, m2, q1, q2, q3, q4, kP, hkP, hkPi⟩ := Cond.selects_spec hsel
  cases hcls.symm.trans q1
  cases (State.methodFound?_of_named hnamed hy).symm.trans q2
  cases hnamed.symm.trans q3
  have hselP : selectMethod e.platform s.vm cellB.cls mk = .method mk := by rw [Launch.admits_selectMethod X.admits]; exact q4
  obtain ⟨vm₁, X₁, hstep₁⟩ := X.invokevirtual hexec hown hlink hnamed hmethM hstM hkP hkPi hy (a := b) (cell := cellB) hcell
    (fun z h => by rw [h] at hobj; cases hobj) hselP hmethM habM hkP hkPi (g := g) hg (argsL := argsL) (rest := rest) (hlen _ hsigM) hstack hdg
  rcases hK m meth c ⟨T.setVm vm₁, locs, cells, slots⟩ { g with stack := rest } (.invokevirtual index) mk (Value.ref b :: argsL).toArray X₁ hg hsize hdg hW (X₁.named hnamed) (hpre vm₁ X₁.warmed) with ⟨v, B, X', hpost, hsteps⟩ | ⟨q, B, X', hpost, hsteps⟩
  · exact Or.inl ⟨v, vm₁, B, X₁.warmed, X', hpost, fun target h => hstep₁ _ fun acts => by rw [doInvoke_state]; exact hsteps.trans h⟩
  · exact Or.inr ⟨q, vm₁, B, X₁.warmed, X', hpost, hstep₁ _ fun acts => by rw [doInvoke_state]; exact hsteps⟩
theorem vx_callSX (X : Stand p l e R s m args below meth c T locs cells slots) (hexec : p.tables.exec = Jvm.exec) {own : String} {index : Nat} {y : MethodName} {bytes : ByteArray} {maxL : Nat} {ret : Option FieldType} {hh : List (Nat × Nat × Nat × Nat)}
    (hown : s.vm.findClass own = some m.cls) (hlink : (Cond.methodLink own index y).before args s = true) (hstat : (Cond.static y).before args s = true) (hinit : (Cond.initialized y.cls).before args s = true)
    (hcode : (Cond.codeWith y bytes maxL ret hh).before args s = true) (hy : y.cls ≠ "java/lang/invoke/MethodHandle" ∧ y.cls ≠ "java/lang/invoke/VarHandle")
    {W9 : Nat} {Pre : Pt → Array Value → Prop} {Post : Pt → Array Value → Option Value → Pt → Prop} {PostX : Pt → Array Value → Addr → Pt → Prop} (hK : vx_Back l R p e below s args y 3 W9 Pre Post PostX)
    {g : JFrame} (hg : g.method = m) (hsize : g.locals.size = c.maxLocals) {argsL rest : List Value} (hlen : ∀ sig, parseMethodDescriptor y.desc = some sig → argsL.length = sig.parameters.length)
    (hstack : g.stack = argsL.reverse ++ rest) (hW : 2 * g.monitorRoom + (rest.map fun v => v.category).sum ≤ W9) (hdg : decode c.code g.pc = .ok (.invokestatic index, 3))
    (hpre : ∀ vm₁, s.WarmedH vm₁ → Pre ⟨T.setVm vm₁, locs, cells, slots⟩ argsL.toArray) :
    (∃ (v : Option Value) (vm₁ : Vm) (B : Pt), s.WarmedH vm₁ ∧ Stand p l e R s m args below meth c B.U B.locs B.cells B.slots ∧ Post ⟨T.setVm vm₁, locs, cells, slots⟩ argsL.toArray v B ∧
      ∀ target, Steps p.tables e below (B.U.setTop { g with pc := g.pc + 3, stack := v.toList ++ rest }) target → Steps p.tables e below (T.setTop g) target) ∨
    (∃ (q : Addr) (vm₁ : Vm) (B : Pt), s.WarmedH vm₁ ∧ Stand p l e R s m args below meth c B.U B.locs B.cells B.slots ∧ PostX ⟨T.setVm vm₁, locs, cells, slots⟩ argsL.toArray q B ∧
      Steps p.tables e below (T.setTop g) ((B.U.setTop { g with stack := rest }).pushFrame (.throwing q))) := by
  obtain ⟨mk, methM, cM, hnamed, hmethM, -, -, -, -, -, -, hsigM⟩ := Cond.codeWith_spec hcode
  have hstatic : methM.isStatic = true := Cond.static_spec hnamed hmethM hstat
  obtain ⟨kP, hkP, -⟩ := className_of_methodNamed hnamed
  have hinitP : kP.init = .initialized := Cond.initialized_spec (findClass_of_methodNamed hnamed) hkP hinit
  obtain ⟨vm₁, X₁, hstep₁⟩ := X.invokestatic hexec hown hlink hnamed hmethM hstatic hkP hinitP hy (g := g) hg (argsL := argsL) (rest := rest) (hlen _ hsigM) hstack hdg
  rcases hK m meth c ⟨T.setVm vm₁, locs, cells, slots⟩ { g with stack := rest } (.invokestatic index) mk argsL.toArray X₁ hg hsize hdg hW (X₁.named hnamed) (hpre vm₁ X₁.warmed) with ⟨v, B, X', hpost, hsteps⟩ | ⟨q, B, X', hpost, hsteps⟩
  · exact Or.inl ⟨v, vm₁, B, X₁.warmed, X', hpost, fun target h => hstep₁ _ fun acts => by rw [doInvoke_state]; exact hsteps.trans h⟩
  · exact Or.inr ⟨q, vm₁, B, X₁.warmed, X', hpost, hstep₁ _ fun acts => by rw [doInvoke_state]; exact hsteps⟩
theorem vx_callVW (X : Stand p l e R s m args below meth c T locs cells slots) (hexec : p.tables.exec = Jvm.exec) {own C : String} {index : Nat} {y : MethodName} {bytes : ByteArray} {maxL : Nat} {ret : Option FieldType} {hh : List (Nat × Nat × Nat × Nat)}
    (hown : s.vm.findClass own = some m.cls) (hlink : (Cond.methodLink own index y).before args s = true) (hinst : (Cond.instanceMethod y).before args s = true) (hsel : (Cond.selects C y y).before args s = true)
    (hcode : (Cond.codeWith y bytes maxL ret hh).before args s = true) (hy : y.cls ≠ "java/lang/invoke/MethodHandle" ∧ y.cls ≠ "java/lang/invoke/VarHandle")
    {W9 : Nat} {Pre : Pt → Array Value → Prop} {Post : Pt → Array Value → Option Value → Pt → Prop} (hK : Back l R p e below s args y 3 W9 Pre Post)
    {b : Addr} {cellB : Cell} (hcell : T.heap[b]? = some cellB) (hobj : cellB.vm.isStatics = false) (hcls : s.vm.findClass C = some cellB.cls)
    {g : JFrame} (hg : g.method = m) (hsize : g.locals.size = c.maxLocals) {argsL rest : List Value} (hlen : ∀ sig, parseMethodDescriptor y.desc = some sig → argsL.length = sig.parameters.length)
    (hstack : g.stack = argsL.reverse ++ .ref b :: rest) (hW : 2 * g.monitorRoom + (rest.map fun v => v.category).sum ≤ W9) (hdg : decode c.code g.pc = .ok (.invokevirtual index, 3))
    (hpre : ∀ vm₁, s.WarmedH vm₁ → Pre ⟨T.setVm vm₁, locs, cells, slots⟩ (Value.ref b :: argsL).toArray) :
    ∃ (v : Option Value) (vm₁ : Vm) (B : Pt), s.WarmedH vm₁ ∧ Stand p l e R s m args below meth c B.U B.locs B.cells B.slots ∧ Post ⟨T.setVm vm₁, locs, cells, slots⟩ (Value.ref b :: argsL).toArray v B ∧
      ∀ target, Steps p.tables e below (B.U.setTop { g with pc := g.pc + 3, stack := v.toList ++ rest }) target → Steps p.tables e below (T.setTop g) target := by
  obtain ⟨mk, methM, hnamed, hmethM, hstM, habM⟩ := Cond.instanceMethod_spec hinst
  obtain ⟨m8, methM', cM, hn8, hmethM', -, -, -, -, -, -, hsigM⟩ := Cond.codeWith_spec hcode
  cases Option.some.inj (hn8.symm.trans hnamed)
  cases hmethM.symm.trans hmethM'
  obtain ⟨c2, r2, m2, q1, q2, q3, q4, kP, hkP, hkPi⟩ := Cond.selects_spec hsel
  cases hcls.symm.trans q1
  cases (State.methodFound?_of_named hnamed hy).symm.trans q2
  cases hnamed.symm.trans q3
  have hselP : selectMethod e.platform s.vm cellB.cls mk = .method mk := by rw [Launch.admits_selectMethod X.admits]; exact q4
  obtain ⟨vm₁, X₁, hstep₁⟩ := X.invokevirtual hexec hown hlink hnamed hmethM hstM hkP hkPi hy (a := b) (cell := cellB) hcell
    (fun z h => by rw [h] at hobj; cases hobj) hselP hmethM habM hkP hkPi (g := g) hg (argsL := argsL) (rest := rest) (hlen _ hsigM) hstack hdg
  obtain ⟨v, B, X', hpost, hsteps⟩ := hK m meth c ⟨T.setVm vm₁, locs, cells, slots⟩ { g with stack := rest } (.invokevirtual index) mk (Value.ref b :: argsL).toArray X₁ hg hsize hdg hW (X₁.named hnamed) (hpre vm₁ X₁.warmed)
  exact ⟨v, vm₁, B, X₁.warmed, X', hpost, fun target h => hstep₁ _ fun acts => by rw [doInvoke_state]; exact hsteps.trans h⟩
abbrev vx_CVW (R : Room) (s : State) (args : Array Value) (own C : String) (index : Nat) (y : MethodName) (bytes : ByteArray) (maxL : Nat) (ret : Option FieldType) (hh : List (Nat × Nat × Nat × Nat)) (ws : List Cond) (rm : Room) (mc ms n : Nat) : Prop :=
  (rm.cells = mc ∧ rm.slots = ms ∧ rm.frames + 1 ≤ R.frames ∧ 8 + (maxL + 11) + rm.locals ≤ R.locals ∧ (∀ w ∈ ws, ∀ (a' : Array Value) (U : State), s.WarmedH U.vm → w.before a' U = true) ∧ Cond.codeWith y bytes maxL ret hh ∈ ws) ∧
  (Cond.codeWith y bytes maxL ret hh).before args s = true ∧ (Cond.initialized y.cls).before args s = true ∧ (y.cls ≠ "java/lang/invoke/MethodHandle" ∧ y.cls ≠ "java/lang/invoke/VarHandle") ∧
  (∀ sig, parseMethodDescriptor y.desc = some sig → n = sig.parameters.length) ∧ (Cond.methodLink own index y).before args s = true ∧ (Cond.instanceMethod y).before args s = true ∧ (Cond.selects C y y).before args s = true
theorem vx_cwVW {own C : String} {index maxL mc ms : Nat} {y : MethodName} {bytes : ByteArray} {ret : Option FieldType} {hh : List (Nat × Nat × Nat × Nat)} {Ts ws ws' : List Cond} {rm : Room} (n : Nat) (ht : ∀ w ∈ Ts, w.before args s = true) (hT : GoodIn Ts (wsV own index C y ws)) (hw : ws = Cond.codeWith y bytes maxL ret hh :: ws') (hrc : rm.cells = mc) (hrs : rm.slots = ms)
    (hd : y.cls = C ∧ y.cls ≠ "java/lang/invoke/MethodHandle" ∧ y.cls ≠ "java/lang/invoke/VarHandle" ∧ (parseMethodDescriptor y.desc).map (fun d => d.parameters.length) = some n) (hR : rm.frames + 1 ≤ R.frames ∧ 8 + (maxL + 11) + rm.locals ≤ R.locals) :
    vx_CVW R s args own C index y bytes maxL ret hh ws rm mc ms n := by
  obtain ⟨hC, hd⟩ := hd
  subst hC
  have ok : ∀ w ∈ wsV own index y.cls y ws, w.before args s = true := fun w h => ht w (hT w h).1
  have hG : GoodIn Ts ws := fun w h => hT w (by unfold wsV; exact List.mem_append_right _ h)
  have hc : Cond.codeWith y bytes maxL ret hh ∈ ws := by rw [hw]; exact List.mem_cons_self
  refine ⟨⟨hrc, hrs, hR.1, hR.2, pay_in ht hG, hc⟩, ht _ (hG _ hc).1, ok _ (by simp [wsV]), ⟨hd.1, hd.2.1⟩, fun sig h => ?_, ok _ (by simp [wsV]), ok _ (by simp [wsV]), ok _ (by simp [wsV])⟩
  have h2 := hd.2.2
  rw [h] at h2
  exact (Option.some.inj h2).symm
theorem vx_runVW {y : MethodName} {bytes cc : ByteArray} {maxL nL mc ms n index : Nat} {ret : Option FieldType} {hh : List (Nat × Nat × Nat × Nat)} {ws : List Cond} {rm : Room} {Pc : Array Value → State → Prop} {Qc : Array Value → State → Outcome → State → Prop} {free : Addr → Prop} {Ts : List Cond} {own C : String} {b : Addr} {As rest : List Value} {g : JFrame}
    (S : CallFix p m c cc nL s args Ts own) (hM : Met l y ws rm Pc Qc mc ms free) (cw : vx_CVW R s args own C index y bytes maxL ret hh ws rm mc ms n) (hp : PreV s H C b Pc As)
    (hg : g.method = m) (hn : As.length = n) (hsize : g.locals.size = nL) (hstack : g.stack = As.reverse ++ .ref b :: rest) (hW : 2 * g.monitorRoom + (rest.map fun v => v.category).sum ≤ 8) (hdg : decode cc g.pc = .ok (.invokevirtual index, 3)) (hf : cells + mc ≤ R.cells ∧ slots + ms ≤ R.slots) :
    va_Run p l e R s m args below meth c H locs cells slots mc ms g rest (Qc (Value.ref b :: As).toArray) free := by
  obtain ⟨⟨hrc, hrs, hfr, hlo, hws, hcw⟩, hcode, hini, hy, hlen, hl, hin, hse⟩ := cw
  have hK : Back l R p e below s args y 3 8 (PreOf R mc ms Pc) (PostOf Qc mc ms free) := va_backW (hh := hh) (bytes := bytes) (maxL := maxL) (ret := ret) hM hp.1 hrc hrs hfr hlo hws hcw (fun a' U hW => word_at hW (Or.inl (by first | rfl | simp [Cond.onTables, Cond.keeps, Cond.steady])) hini)
  obtain ⟨hx, hb, hml, ho, -⟩ := S
  obtain ⟨-, ⟨cellB, hcB, hoB, hclB⟩, hPc⟩ := hp
  intro T hT X
  obtain ⟨v, vm₁, ⟨U', l2, c2, s2⟩, hW₁, X', ⟨g', mk, t, L, e1, e2, hq, h1, hL, h2, h3⟩, st⟩ := vx_callVW X hx (C := C) (hh := hh) (bytes := bytes) (maxL := maxL) (ret := ret) ho hl hin hse hcode hy hK (by rw [hT]; exact hcB) hoB hclB hg (hsize.trans hml.symm) (argsL := As) (rest := rest) (fun sig h => hn.trans (hlen sig h)) hstack hW (by rw [hb]; exact hdg)
    (fun vm₁ hW₁ => ⟨hf.1, hf.2, hPc (T.setVm vm₁) hT hW₁⟩)
  dsimp only [Pt.U, Pt.locs, Pt.cells, Pt.slots] at X' e1 e2 h1 h2 h3 st
  subst h1; subst h2; subst h3
  exact ⟨v, (T.setVm vm₁).calling g' mk (Value.ref b :: As).toArray, t, U', L, hT, X', hL, e1, e2, hq, st⟩
section
variable {y : MethodName} {bytes cc : ByteArray} {maxL nL mc ms n index : Nat} {ret : Option FieldType} {ws : List Cond} {rm : Room} {Pc : Array Value → State → Prop} {Qc : Array Value → State → Outcome → State → Prop} {XC : String → State → State → Prop} {free : Addr → Prop} {Ts : List Cond} {own C : String} {b : Addr} {As rest : List Value} {g : JFrame}
theorem vx_runVX {hh : List (Nat × Nat × Nat × Nat)} (S : CallFix p m c cc nL s args Ts own) (hM : vx_Met l y ws rm Pc Qc XC mc ms free) (cw : vx_CVW R s args own C index y bytes maxL ret hh ws rm mc ms n) (hp : PreV s H C b Pc As)
    (hg : g.method = m) (hn : As.length = n) (hsize : g.locals.size = nL) (hstack : g.stack = As.reverse ++ .ref b :: rest) (hW : 2 * g.monitorRoom + (rest.map fun v => v.category).sum ≤ 8) (hdg : decode cc g.pc = .ok (.invokevirtual index, 3)) (hf : cells + mc ≤ R.cells ∧ slots + ms ≤ R.slots) :
    vx_Run p l e R s m args below meth c H locs cells slots mc ms g rest (Qc (Value.ref b :: As).toArray) XC free := by
  obtain ⟨⟨hrc, hrs, hfr, hlo, hws, hcw⟩, hcode, hini, hy, hlen, hl, hin, hse⟩ := cw
  have hK : vx_Back l R p e below s args y 3 8 (PreOf R mc ms Pc) (PostOf Qc mc ms free) (vx_Post XC mc ms free) := vx_backW (hh := hh) (bytes := bytes) (maxL := maxL) (ret := ret) hM hp.1 hrc hrs hfr hlo hws hcw (fun a' U hW => word_at hW (Or.inl (by first | rfl | simp [Cond.onTables, Cond.keeps, Cond.steady])) hini)
  obtain ⟨hx, hb, hml, ho, -⟩ := S
  obtain ⟨-, ⟨cellB, hcB, hoB, hclB⟩, hPc⟩ := hp
  intro T hT X
  rcases vx_callVX X hx (C := C) (hh := hh) (bytes := bytes) (maxL := maxL) (ret := ret) ho hl hin hse hcode hy hK (by rw [hT]; exact hcB) hoB hclB hg (hsize.trans hml.symm) (argsL := As) (rest := rest) (fun sig h => hn.trans (hlen sig h)) hstack hW (by rw [hb]; exact hdg)
    (fun vm₁ hW₁ => ⟨hf.1, hf.2, hPc (T.setVm vm₁) hT hW₁⟩) with ⟨v, vm₁, ⟨U', l2, c2, s2⟩, hW₁, X', ⟨g', mk, t, L, e1, e2, hq, h1, hL, h2, h3⟩, st⟩ | ⟨q, vm₁, ⟨U', l2, c2, s2⟩, hW₁, X', ⟨g', mk, t, L, E, ce, e1, e2, hq, hce, hcv, hcl, h1, hL, h2, h3⟩, st⟩
  · dsimp only [Pt.U, Pt.locs, Pt.cells, Pt.slots] at X' e1 e2 h1 h2 h3 st
    subst h1; subst h2; subst h3
    exact Or.inl ⟨v, (T.setVm vm₁).calling g' mk (Value.ref b :: As).toArray, t, U', L, hT, X', hL, e1, e2, hq, st⟩
  · dsimp only [Pt.U, Pt.locs, Pt.cells, Pt.slots] at X' e1 e2 h1 h2 h3 st hcl
    subst h1; subst h2; subst h3
    exact Or.inr ⟨q, (T.setVm vm₁).calling g' mk (Value.ref b :: As).toArray, t, U', L, E, ce, hT, X', hL, e1, e2, hq, hce, hcv, vx_cls hW₁ hcl, st⟩
theorem vx_runSX {hh : List (Nat × Nat × Nat × Nat)} (S : CallFix p m c cc nL s args Ts own) (hM : vx_Met l y ws rm Pc Qc XC mc ms free) (cw : vx_CSW R s args own index y bytes maxL ret hh ws rm mc ms n) (hp : PreS s H Pc As)
    (hg : g.method = m) (hn : As.length = n) (hsize : g.locals.size = nL) (hstack : g.stack = As.reverse ++ rest) (hW : 2 * g.monitorRoom + (rest.map fun v => v.category).sum ≤ 8) (hdg : decode cc g.pc = .ok (.invokestatic index, 3)) (hf : cells + mc ≤ R.cells ∧ slots + ms ≤ R.slots) :
    vx_Run p l e R s m args below meth c H locs cells slots mc ms g rest (Qc As.toArray) XC free := by
  obtain ⟨⟨hrc, hrs, hfr, hlo, hws, hcw⟩, hcode, hini, hy, hlen, hl, hstt⟩ := cw
  have hK : vx_Back l R p e below s args y 3 8 (PreOf R mc ms Pc) (PostOf Qc mc ms free) (vx_Post XC mc ms free) := vx_backW (hh := hh) (bytes := bytes) (maxL := maxL) (ret := ret) hM hp.1 hrc hrs hfr hlo hws hcw (fun a' U hW => word_at hW (Or.inl (by first | rfl | simp [Cond.onTables, Cond.keeps, Cond.steady])) hini)
  obtain ⟨hx, hb, hml, ho, -⟩ := S
  intro T hT X
  rcases vx_callSX X hx (hh := hh) (bytes := bytes) (maxL := maxL) (ret := ret) ho hl hstt hini hcode hy hK hg (hsize.trans hml.symm) (argsL := As) (rest := rest) (fun sig h => hn.trans (hlen sig h)) hstack hW (by rw [hb]; exact hdg)
    (fun vm₁ hW₁ => ⟨hf.1, hf.2, hp.2 (T.setVm vm₁) hT hW₁⟩) with ⟨v, vm₁, ⟨U', l2, c2, s2⟩, hW₁, X', ⟨g', mk, t, L, e1, e2, hq, h1, hL, h2, h3⟩, st⟩ | ⟨q, vm₁, ⟨U', l2, c2, s2⟩, hW₁, X', ⟨g', mk, t, L, E, ce, e1, e2, hq, hce, hcv, hcl, h1, hL, h2, h3⟩, st⟩
  · dsimp only [Pt.U, Pt.locs, Pt.cells, Pt.slots] at X' e1 e2 h1 h2 h3 st
    subst h1; subst h2; subst h3
    exact Or.inl ⟨v, (T.setVm vm₁).calling g' mk As.toArray, t, U', L, hT, X', hL, e1, e2, hq, st⟩
  · dsimp only [Pt.U, Pt.locs, Pt.cells, Pt.slots] at X' e1 e2 h1 h2 h3 st hcl
    subst h1; subst h2; subst h3
    exact Or.inr ⟨q, (T.setVm vm₁).calling g' mk As.toArray, t, U', L, E, ce, hT, X', hL, e1, e2, hq, hce, hcv, vx_cls hW₁ hcl, st⟩
end
end VXH
theorem vx_ofWH {l : Launch} {y : MethodName} {ws ws' : List Cond} {rm : Room} {Pc : Array Value → State → Prop} {Qc : Array Value → State → Outcome → State → Prop} {XC : String → State → State → Prop} {mc ms : Nat} {free : Addr → Prop} {cc : ByteArray} {maxL : Nat} {ret : Option FieldType} {hh : List (Nat × Nat × Nat × Nat)}
    (hy : plainName y.cls = true) (hw : ws = Cond.codeWith y cc maxL ret hh :: ws')
    (body : ∀ p e s m args below meth c s₁, BodyLoose p l y (headSpec ws rm) cc maxL ret e s m args below meth c s₁ → c.maxLocals = maxL → Pc args s →
      W p l e (headSpec ws rm).room s m args below meth c s.heap [] 0 0 (vx_MQ below Qc XC args s mc ms free) (entryFrame m args maxL)) : vx_Met l y ws rm Pc Qc XC mc ms free := by
  refine MetFree.of_bodyS (code := cc) (maxLocals := maxL) (ret := ret) hy ?_ ?_
  · intro args s m h hn
    obtain ⟨m9, meth, c, hn9, h1, h2, h3, h4, -, h5, h6, -⟩ := Cond.codeWith_spec (atoms_spec (ws := ws) h _ (by rw [hw]; exact List.mem_cons_self))
    cases hn.symm.trans hn9
    exact ⟨meth, c, h1, h2, h3, h4, h5, h6⟩
  · intro p e s m args below meth c s₁ B hml hP _
    have hh0 : s₁.heap = s.heap := by rw [B.state]; rfl
    obtain ⟨t, a1, o, b1, b2, b3⟩ := body p e s m args below meth c s₁ B hml hP s₁ hh0 (Stand.of_body B)
    exact ⟨t, o, a1, b1, b2, b3⟩
/-! ===== END ===== -/
end
section
def RX0 : String := "WeekBank$FeeRounds"
def TX0 : u_T := fun k => match k with
  | 0 => ("WeekBank$FeeRounds", "limits", "[I", true)
  | 1 => ("WeekBank$FeeRounds", "owned", "[I", true)
  | 2 => ("WeekBank$FeeRounds", "left", "[Z", true)
  | 3 => ("WeekBank$FeeRounds", "size", "I", false)
  | 4 => ("WeekBank$FeeRounds", "fee", "I", false)
  | _ => ("WeekBank$FeeRounds", "roundsLeft", "I", false)
def tyX0 : Nat → FieldType := fun k => match k with
  | 0 => .array .int
  | 1 => .array .int
  | 2 => .array .boolean
  | 3 => .int
  | 4 => .int
  | _ => .int
theorem nmX0 : ∀ a, a < 6 → ∀ b, b < 6 → a ≠ b → (TX0 a).2.1 ≠ (TX0 b).2.1 := by decide +kernel
theorem tyX0_ok : ∀ k, k < 6 → parseFieldDescriptor (TX0 k).2.2.1 = some (tyX0 k) := by decide +kernel
abbrev cX0_init : ByteArray := prog_2_method_1_code
def yX0_init : MethodName := ⟨RX0, "<init>", "()V"⟩
abbrev cX0_clear : ByteArray := prog_2_method_2_code
def yX0_clear : MethodName := ⟨RX0, "clear", "()V"⟩
abbrev cX0_add : ByteArray := prog_2_method_3_code
def yX0_add : MethodName := ⟨RX0, "add", "(II)V"⟩
abbrev cX0_reckon : ByteArray := prog_2_method_4_code
def yX0_reckon : MethodName := ⟨RX0, "reckon", "(I)V"⟩
abbrev cX0_countStaying : ByteArray := prog_2_method_5_code
def yX0_countStaying : MethodName := ⟨RX0, "countStaying", "()I"⟩
abbrev cX0_countOwned : ByteArray := prog_2_method_6_code
def yX0_countOwned : MethodName := ⟨RX0, "countOwned", "()I"⟩
abbrev cX0_someLeave : ByteArray := prog_2_method_7_code
def yX0_someLeave : MethodName := ⟨RX0, "someLeave", "()Z"⟩
def RX1 : String := "WeekBank$Flat"
def TX1 : u_T := fun k => match k with
  | 0 => ("WeekBank$Flat", "number", "I", true)
  | 1 => ("WeekBank$Flat", "town", "I", true)
  | 2 => ("WeekBank$Flat", "size", "I", true)
  | 3 => ("WeekBank$Flat", "owners", "[LWeekBank$Owner;", true)
  | 4 => ("WeekBank$Flat", "shut", "[Z", true)
  | _ => ("WeekBank$Flat", "gifts", "[LWeekBank$Gift;", true)
def tyX1 : Nat → FieldType := fun k => match k with
  | 0 => .int
  | 1 => .int
  | 2 => .int
  | 3 => .array (.object "WeekBank$Owner")
  | 4 => .array .boolean
  | _ => .array (.object "WeekBank$Gift")
theorem nmX1 : ∀ a, a < 6 → ∀ b, b < 6 → a ≠ b → (TX1 a).2.1 ≠ (TX1 b).2.1 := by decide +kernel
theorem tyX1_ok : ∀ k, k < 6 → parseFieldDescriptor (TX1 k).2.2.1 = some (tyX1 k) := by decide +kernel
abbrev cX1_init : ByteArray := prog_3_method_1_code
def yX1_init : MethodName := ⟨RX1, "<init>", "(III)V"⟩
abbrev cX1_passTo : ByteArray := prog_3_method_2_code
def yX1_passTo : MethodName := ⟨RX1, "passTo", "(ILWeekBank$Owner;)V"⟩
abbrev cX1_beginYear : ByteArray := prog_3_method_3_code
def yX1_beginYear : MethodName := ⟨RX1, "beginYear", "()V"⟩
def RX2 : String := "WeekBank$Gift"
def TX2 : u_T := fun k => match k with
  | 0 => ("WeekBank$Gift", "number", "I", true)
  | 1 => ("WeekBank$Gift", "owner", "LWeekBank$Owner;", true)
  | 2 => ("WeekBank$Gift", "flat", "LWeekBank$Flat;", true)
  | 3 => ("WeekBank$Gift", "week", "I", true)
  | 4 => ("WeekBank$Gift", "year", "I", false)
  | 5 => ("WeekBank$Gift", "worth", "I", false)
  | 6 => ("WeekBank$Gift", "state", "I", false)
  | 7 => ("WeekBank$Gift", "wish", "LWeekBank$Wish;", false)
  | 8 => ("WeekBank$Gift", "got", "LWeekBank$Gift;", false)
  | _ => ("WeekBank$Gift", "getter", "LWeekBank$Owner;", false)
def tyX2 : Nat → FieldType := fun k => match k with
  | 0 => .int
  | 1 => .object "WeekBank$Owner"
  | 2 => .object "WeekBank$Flat"
  | 3 => .int
  | 4 => .int
  | 5 => .int
  | 6 => .int
  | 7 => .object "WeekBank$Wish"
  | 8 => .object "WeekBank$Gift"
  | _ => .object "WeekBank$Owner"
theorem nmX2 : ∀ a, a < 10 → ∀ b, b < 10 → a ≠ b → (TX2 a).2.1 ≠ (TX2 b).2.1 := by decide +kernel
theorem tyX2_ok : ∀ k, k < 10 → parseFieldDescriptor (TX2 k).2.2.1 = some (tyX2 k) := by decide +kernel
abbrev cX2_init : ByteArray := prog_4_method_1_code
def yX2_init : MethodName := ⟨RX2, "<init>", "(ILWeekBank$Owner;LWeekBank$Flat;I)V"⟩
abbrev cX2_isGot : ByteArray := prog_4_method_2_code
def yX2_isGot : MethodName := ⟨RX2, "isGot", "()Z"⟩
abbrev cX2_isOut : ByteArray := prog_4_method_3_code
def yX2_isOut : MethodName := ⟨RX2, "isOut", "()Z"⟩
abbrev cX2_meets : ByteArray := prog_4_method_4_code
def yX2_meets : MethodName := ⟨RX2, "meets", "(LWeekBank$Wish;)Z"⟩
abbrev cX2_goTo : ByteArray := prog_4_method_5_code
def yX2_goTo : MethodName := ⟨RX2, "goTo", "(LWeekBank$Owner;)V"⟩
abbrev cX2_endByShutting : ByteArray := prog_4_method_6_code
def yX2_endByShutting : MethodName := ⟨RX2, "endByShutting", "()V"⟩
def RX3 : String := "WeekBank$Owner"
def TX3 : u_T := fun k => match k with
  | 0 => ("WeekBank$Owner", "number", "I", true)
  | 1 => ("WeekBank$Owner", "limit", "I", true)
  | 2 => ("WeekBank$Owner", "points", "I", false)
  | 3 => ("WeekBank$Owner", "luck", "I", false)
  | 4 => ("WeekBank$Owner", "weeksOwned", "I", false)
  | 5 => ("WeekBank$Owner", "isDead", "Z", false)
  | 6 => ("WeekBank$Owner", "inLine", "Z", false)
  | _ => ("WeekBank$Owner", "wish", "LWeekBank$Wish;", false)
def tyX3 : Nat → FieldType := fun k => match k with
  | 0 => .int
  | 1 => .int
  | 2 => .int
  | 3 => .int
  | 4 => .int
  | 5 => .boolean
  | 6 => .boolean
  | _ => .object "WeekBank$Wish"
theorem nmX3 : ∀ a, a < 8 → ∀ b, b < 8 → a ≠ b → (TX3 a).2.1 ≠ (TX3 b).2.1 := by decide +kernel
theorem tyX3_ok : ∀ k, k < 8 → parseFieldDescriptor (TX3 k).2.2.1 = some (tyX3 k) := by decide +kernel
abbrev cX3_init : ByteArray := prog_5_method_1_code
def yX3_init : MethodName := ⟨RX3, "<init>", "(II)V"⟩
def RX4 : String := "WeekBank$Reader"
def TX4 : u_T := fun k => match k with
  | 0 => ("WeekBank$Reader", "tape", "[I", true)
  | 1 => ("WeekBank$Reader", "length", "I", false)
  | 2 => ("WeekBank$Reader", "fault", "I", false)
  | 3 => ("WeekBank$Reader", "faultPlace", "I", false)
  | 4 => ("WeekBank$Reader", "at", "I", false)
  | 5 => ("WeekBank$Reader", "token", "I", false)
  | 6 => ("WeekBank$Reader", "tokenStart", "I", false)
  | _ => ("WeekBank$Reader", "tokenNumber", "I", false)
def tyX4 : Nat → FieldType := fun k => match k with
  | 0 => .array .int
  | 1 => .int
  | 2 => .int
  | 3 => .int
  | 4 => .int
  | 5 => .int
  | 6 => .int
  | _ => .int
theorem nmX4 : ∀ a, a < 8 → ∀ b, b < 8 → a ≠ b → (TX4 a).2.1 ≠ (TX4 b).2.1 := by decide +kernel
theorem tyX4_ok : ∀ k, k < 8 → parseFieldDescriptor (TX4 k).2.2.1 = some (tyX4 k) := by decide +kernel
abbrev cX4_init : ByteArray := prog_6_method_1_code
def yX4_init : MethodName := ⟨RX4, "<init>", "()V"⟩
abbrev cX4_addBytes : ByteArray := prog_6_method_2_code
def yX4_addBytes : MethodName := ⟨RX4, "addBytes", "(I)V"⟩
abbrev cX4_readInto : ByteArray := prog_6_method_3_code
def yX4_readInto : MethodName := ⟨RX4, "readInto", "(LWeekBank$Rules;)V"⟩
abbrev cX4_readStatement : ByteArray := prog_6_method_4_code
def yX4_readStatement : MethodName := ⟨RX4, "readStatement", "(LWeekBank$Rules;)V"⟩
abbrev cX4_statementKind : ByteArray := prog_6_method_5_code
def yX4_statementKind : MethodName := ⟨RX4, "statementKind", "()I"⟩
abbrev cX4_readRest : ByteArray := prog_6_method_6_code
def yX4_readRest : MethodName := ⟨RX4, "readRest", "(LWeekBank$Rules;I)V"⟩
abbrev cX4_expectNumber : ByteArray := prog_6_method_7_code
def yX4_expectNumber : MethodName := ⟨RX4, "expectNumber", "(II)I"⟩
abbrev cX4_expectBound : ByteArray := prog_6_method_8_code
def yX4_expectBound : MethodName := ⟨RX4, "expectBound", "()Z"⟩
abbrev cX4_expectSign : ByteArray := prog_6_method_9_code
def yX4_expectSign : MethodName := ⟨RX4, "expectSign", "()V"⟩
abbrev cX4_blame : ByteArray := prog_6_method_10_code
def yX4_blame : MethodName := ⟨RX4, "blame", "(I)V"⟩
abbrev cX4_readToken : ByteArray := prog_6_method_11_code
def yX4_readToken : MethodName := ⟨RX4, "readToken", "()V"⟩
abbrev cX4_skipLetters : ByteArray := prog_6_method_12_code
def yX4_skipLetters : MethodName := ⟨RX4, "skipLetters", "()V"⟩
abbrev cX4_readDigits : ByteArray := prog_6_method_13_code
def yX4_readDigits : MethodName := ⟨RX4, "readDigits", "()V"⟩
abbrev cX4_isWord : ByteArray := prog_6_method_14_code
def yX4_isWord : MethodName := ⟨RX4, "isWord", "(Ljava/lang/String;)Z"⟩
abbrev cX4_isBlank : ByteArray := prog_6_method_15_code
def yX4_isBlank : MethodName := ⟨RX4, "isBlank", "(I)Z"⟩
abbrev cX4_isLetter : ByteArray := prog_6_method_16_code
def yX4_isLetter : MethodName := ⟨RX4, "isLetter", "(I)Z"⟩
abbrev cX4_isDigit : ByteArray := prog_6_method_17_code
def yX4_isDigit : MethodName := ⟨RX4, "isDigit", "(I)Z"⟩
def RX5 : String := "WeekBank$RingSearch"
def TX5 : u_T := fun k => match k with
  | 0 => ("WeekBank$RingSearch", "members", "[LWeekBank$Gift;", true)
  | 1 => ("WeekBank$RingSearch", "size", "I", false)
  | 2 => ("WeekBank$RingSearch", "suits", "[I", true)
  | 3 => ("WeekBank$RingSearch", "paths", "[I", true)
  | 4 => ("WeekBank$RingSearch", "ringOf", "[I", true)
  | 5 => ("WeekBank$RingSearch", "wayOf", "[I", true)
  | _ => ("WeekBank$RingSearch", "best", "I", false)
def tyX5 : Nat → FieldType := fun k => match k with
  | 0 => .array (.object "WeekBank$Gift")
  | 1 => .int
  | 2 => .array .int
  | 3 => .array .int
  | 4 => .array .int
  | 5 => .array .int
  | _ => .int
theorem nmX5 : ∀ a, a < 7 → ∀ b, b < 7 → a ≠ b → (TX5 a).2.1 ≠ (TX5 b).2.1 := by decide +kernel
theorem tyX5_ok : ∀ k, k < 7 → parseFieldDescriptor (TX5 k).2.2.1 = some (tyX5 k) := by decide +kernel
abbrev cX5_init : ByteArray := prog_7_method_1_code
def yX5_init : MethodName := ⟨RX5, "<init>", "()V"⟩
abbrev cX5_clear : ByteArray := prog_7_method_2_code
def yX5_clear : MethodName := ⟨RX5, "clear", "()V"⟩
abbrev cX5_add : ByteArray := prog_7_method_3_code
def yX5_add : MethodName := ⟨RX5, "add", "(LWeekBank$Gift;)V"⟩
abbrev cX5_findBest : ByteArray := prog_7_method_4_code
def yX5_findBest : MethodName := ⟨RX5, "findBest", "(I)V"⟩
abbrev cX5_swapBest : ByteArray := prog_7_method_5_code
def yX5_swapBest : MethodName := ⟨RX5, "swapBest", "()I"⟩
abbrev cX5_swap : ByteArray := prog_7_method_6_code
def yX5_swap : MethodName := ⟨RX5, "swap", "(LWeekBank$Gift;I)V"⟩
abbrev cX5_forgetBefore : ByteArray := prog_7_method_7_code
def yX5_forgetBefore : MethodName := ⟨RX5, "forgetBefore", "(I)V"⟩
abbrev cX5_leastOf : ByteArray := prog_7_method_8_code
def yX5_leastOf : MethodName := ⟨RX5, "leastOf", "(I)I"⟩
abbrev cX5_has : ByteArray := prog_7_method_9_code
def yX5_has : MethodName := ⟨RX5, "has", "(II)Z"⟩
abbrev cX5_findSuiting : ByteArray := prog_7_method_10_code
def yX5_findSuiting : MethodName := ⟨RX5, "findSuiting", "()V"⟩
abbrev cX5_goOnFrom : ByteArray := prog_7_method_11_code
def yX5_goOnFrom : MethodName := ⟨RX5, "goOnFrom", "(II)V"⟩
abbrev cX5_lengthen : ByteArray := prog_7_method_12_code
def yX5_lengthen : MethodName := ⟨RX5, "lengthen", "(III)V"⟩
abbrev cX5_firstWay : ByteArray := prog_7_method_13_code
def yX5_firstWay : MethodName := ⟨RX5, "firstWay", "(I)I"⟩
abbrev cX5_isBetter : ByteArray := prog_7_method_14_code
def yX5_isBetter : MethodName := ⟨RX5, "isBetter", "(I)Z"⟩
abbrev cX5_sumWorth : ByteArray := prog_7_method_15_code
def yX5_sumWorth : MethodName := ⟨RX5, "sumWorth", "(I)I"⟩
abbrev cX5_wholeWay : ByteArray := prog_7_method_16_code
def yX5_wholeWay : MethodName := ⟨RX5, "wholeWay", "(I)I"⟩
def RX6 : String := "WeekBank$Rules"
def TX6 : u_T := fun k => match k with
  | 0 => ("WeekBank$Rules", "season", "[I", true)
  | 1 => ("WeekBank$Rules", "sizeAdds", "[I", true)
  | 2 => ("WeekBank$Rules", "earlyAdds", "[I", true)
  | 3 => ("WeekBank$Rules", "heirsAreBound", "Z", false)
  | _ => ("WeekBank$Rules", "statements", "I", false)
def tyX6 : Nat → FieldType := fun k => match k with
  | 0 => .array .int
  | 1 => .array .int
  | 2 => .array .int
  | 3 => .boolean
  | _ => .int
theorem nmX6 : ∀ a, a < 5 → ∀ b, b < 5 → a ≠ b → (TX6 a).2.1 ≠ (TX6 b).2.1 := by decide +kernel
theorem tyX6_ok : ∀ k, k < 5 → parseFieldDescriptor (TX6 k).2.2.1 = some (tyX6 k) := by decide +kernel
abbrev cX6_init : ByteArray := prog_8_method_1_code
def yX6_init : MethodName := ⟨RX6, "<init>", "()V"⟩
abbrev cX6_clear : ByteArray := prog_8_method_2_code
def yX6_clear : MethodName := ⟨RX6, "clear", "()V"⟩
abbrev cX6_setSeason : ByteArray := prog_8_method_3_code
def yX6_setSeason : MethodName := ⟨RX6, "setSeason", "(III)V"⟩
abbrev cX6_setSize : ByteArray := prog_8_method_4_code
def yX6_setSize : MethodName := ⟨RX6, "setSize", "(II)V"⟩
abbrev cX6_setEarly : ByteArray := prog_8_method_5_code
def yX6_setEarly : MethodName := ⟨RX6, "setEarly", "(II)V"⟩
abbrev cX6_worthOf : ByteArray := prog_8_method_6_code
def yX6_worthOf : MethodName := ⟨RX6, "worthOf", "(III)I"⟩
abbrev cX6_earlyOf : ByteArray := prog_8_method_7_code
def yX6_earlyOf : MethodName := ⟨RX6, "earlyOf", "(I)I"⟩
def RX7 : String := "WeekBank$Wish"
def TX7 : u_T := fun k => match k with
  | 0 => ("WeekBank$Wish", "town", "I", true)
  | 1 => ("WeekBank$Wish", "from", "I", true)
  | 2 => ("WeekBank$Wish", "to", "I", true)
  | _ => ("WeekBank$Wish", "leastSize", "I", true)
def tyX7 : Nat → FieldType := fun k => match k with
  | 0 => .int
  | 1 => .int
  | 2 => .int
  | _ => .int
theorem nmX7 : ∀ a, a < 4 → ∀ b, b < 4 → a ≠ b → (TX7 a).2.1 ≠ (TX7 b).2.1 := by decide +kernel
theorem tyX7_ok : ∀ k, k < 4 → parseFieldDescriptor (TX7 k).2.2.1 = some (tyX7 k) := by decide +kernel
abbrev cX7_init : ByteArray := prog_9_method_1_code
def yX7_init : MethodName := ⟨RX7, "<init>", "(IIII)V"⟩
def RX8 : String := "WeekBank"
def TX8 : u_T := fun k => match k with
  | 0 => ("WeekBank", "flats", "[LWeekBank$Flat;", true)
  | 1 => ("WeekBank", "flatCount", "I", false)
  | 2 => ("WeekBank", "owners", "[LWeekBank$Owner;", true)
  | 3 => ("WeekBank", "ownerCount", "I", false)
  | 4 => ("WeekBank", "gifts", "[LWeekBank$Gift;", true)
  | 5 => ("WeekBank", "giftCount", "I", false)
  | 6 => ("WeekBank", "reader", "LWeekBank$Reader;", true)
  | 7 => ("WeekBank", "told", "LWeekBank$Rules;", false)
  | 8 => ("WeekBank", "draft", "LWeekBank$Rules;", false)
  | 9 => ("WeekBank", "yearNow", "I", false)
  | 10 => ("WeekBank", "now", "I", false)
  | 11 => ("WeekBank", "search", "LWeekBank$RingSearch;", true)
  | _ => ("WeekBank", "feeRounds", "LWeekBank$FeeRounds;", true)
def tyX8 : Nat → FieldType := fun k => match k with
  | 0 => .array (.object "WeekBank$Flat")
  | 1 => .int
  | 2 => .array (.object "WeekBank$Owner")
  | 3 => .int
  | 4 => .array (.object "WeekBank$Gift")
  | 5 => .int
  | 6 => .object "WeekBank$Reader"
  | 7 => .object "WeekBank$Rules"
  | 8 => .object "WeekBank$Rules"
  | 9 => .int
  | 10 => .int
  | 11 => .object "WeekBank$RingSearch"
  | _ => .object "WeekBank$FeeRounds"
theorem nmX8 : ∀ a, a < 13 → ∀ b, b < 13 → a ≠ b → (TX8 a).2.1 ≠ (TX8 b).2.1 := by decide +kernel
theorem tyX8_ok : ∀ k, k < 13 → parseFieldDescriptor (TX8 k).2.2.1 = some (tyX8 k) := by decide +kernel
abbrev cX8_init : ByteArray := prog_1_method_1_code
def yX8_init : MethodName := ⟨RX8, "<init>", "()V"⟩
abbrev cX8_flat : ByteArray := prog_1_method_2_code
def yX8_flat : MethodName := ⟨RX8, "flat", "(II)I"⟩
abbrev cX8_owner : ByteArray := prog_1_method_3_code
def yX8_owner : MethodName := ⟨RX8, "owner", "(I)I"⟩
abbrev cX8_own : ByteArray := prog_1_method_4_code
def yX8_own : MethodName := ⟨RX8, "own", "(III)Z"⟩
abbrev cX8_feed : ByteArray := prog_1_method_5_code
def yX8_feed : MethodName := ⟨RX8, "feed", "(IIIII)I"⟩
abbrev cX8_end : ByteArray := prog_1_method_6_code
def yX8_end : MethodName := ⟨RX8, "end", "(I)I"⟩
abbrev cX8_rules : ByteArray := prog_1_method_7_code
def yX8_rules : MethodName := ⟨RX8, "rules", "()I"⟩
abbrev cX8_place : ByteArray := prog_1_method_8_code
def yX8_place : MethodName := ⟨RX8, "place", "()I"⟩
abbrev cX8_worth : ByteArray := prog_1_method_9_code
def yX8_worth : MethodName := ⟨RX8, "worth", "(II)I"⟩
abbrev cX8_give : ByteArray := prog_1_method_10_code
def yX8_give : MethodName := ⟨RX8, "give", "(III)I"⟩
abbrev cX8_wish : ByteArray := prog_1_method_11_code
def yX8_wish : MethodName := ⟨RX8, "wish", "(IIIII)Z"⟩
abbrev cX8_rushWish : ByteArray := prog_1_method_12_code
def yX8_rushWish : MethodName := ⟨RX8, "rushWish", "(IIIII)Z"⟩
abbrev cX8_rings : ByteArray := prog_1_method_13_code
def yX8_rings : MethodName := ⟨RX8, "rings", "(I)I"⟩
abbrev cX8_bank : ByteArray := prog_1_method_14_code
def yX8_bank : MethodName := ⟨RX8, "bank", "(I)I"⟩
abbrev cX8_take : ByteArray := prog_1_method_15_code
def yX8_take : MethodName := ⟨RX8, "take", "(II)I"⟩
abbrev cX8_rush : ByteArray := prog_1_method_16_code
def yX8_rush : MethodName := ⟨RX8, "rush", "()I"⟩
abbrev cX8_shut : ByteArray := prog_1_method_17_code
def yX8_shut : MethodName := ⟨RX8, "shut", "(III)I"⟩
abbrev cX8_weeks : ByteArray := prog_1_method_18_code
def yX8_weeks : MethodName := ⟨RX8, "weeks", "(I)I"⟩
abbrev cX8_year : ByteArray := prog_1_method_19_code
def yX8_year : MethodName := ⟨RX8, "year", "()I"⟩
abbrev cX8_dies : ByteArray := prog_1_method_20_code
def yX8_dies : MethodName := ⟨RX8, "dies", "(IIZ)I"⟩
abbrev cX8_fees : ByteArray := prog_1_method_21_code
def yX8_fees : MethodName := ⟨RX8, "fees", "(II)I"⟩
abbrev cX8_party : ByteArray := prog_1_method_22_code
def yX8_party : MethodName := ⟨RX8, "party", "(II)I"⟩
abbrev cX8_of : ByteArray := prog_1_method_23_code
def yX8_of : MethodName := ⟨RX8, "of", "(II)I"⟩
abbrev cX8_ownerOf : ByteArray := prog_1_method_24_code
def yX8_ownerOf : MethodName := ⟨RX8, "ownerOf", "(II)I"⟩
abbrev cX8_count : ByteArray := prog_1_method_25_code
def yX8_count : MethodName := ⟨RX8, "count", "(I)I"⟩
abbrev cX8_isWeek : ByteArray := prog_1_method_26_code
def yX8_isWeek : MethodName := ⟨RX8, "isWeek", "(I)Z"⟩
abbrev cX8_isSize : ByteArray := prog_1_method_27_code
def yX8_isSize : MethodName := ⟨RX8, "isSize", "(I)Z"⟩
abbrev cX8_canBeWished : ByteArray := prog_1_method_28_code
def yX8_canBeWished : MethodName := ⟨RX8, "canBeWished", "(IIII)Z"⟩
abbrev cX8_numberOf : ByteArray := prog_1_method_29_code
def yX8_numberOf : MethodName := ⟨RX8, "numberOf", "(LWeekBank$Owner;)I"⟩
abbrev cX8_flatAt : ByteArray := prog_1_method_30_code
def yX8_flatAt : MethodName := ⟨RX8, "flatAt", "(I)LWeekBank$Flat;"⟩
abbrev cX8_ownerAt : ByteArray := prog_1_method_31_code
def yX8_ownerAt : MethodName := ⟨RX8, "ownerAt", "(I)LWeekBank$Owner;"⟩
abbrev cX8_livingOwnerAt : ByteArray := prog_1_method_32_code
def yX8_livingOwnerAt : MethodName := ⟨RX8, "livingOwnerAt", "(I)LWeekBank$Owner;"⟩
abbrev cX8_giftAt : ByteArray := prog_1_method_33_code
def yX8_giftAt : MethodName := ⟨RX8, "giftAt", "(I)LWeekBank$Gift;"⟩
abbrev cX8_giftThatIs : ByteArray := prog_1_method_34_code
def yX8_giftThatIs : MethodName := ⟨RX8, "giftThatIs", "(II)LWeekBank$Gift;"⟩
abbrev cX8_addGift : ByteArray := prog_1_method_35_code
def yX8_addGift : MethodName := ⟨RX8, "addGift", "(LWeekBank$Owner;LWeekBank$Flat;I)I"⟩
abbrev cX8_countGifts : ByteArray := prog_1_method_36_code
def yX8_countGifts : MethodName := ⟨RX8, "countGifts", "(I)I"⟩
abbrev cX8_sumPoints : ByteArray := prog_1_method_37_code
def yX8_sumPoints : MethodName := ⟨RX8, "sumPoints", "()I"⟩
abbrev cX8_passAllWeeks : ByteArray := prog_1_method_38_code
def yX8_passAllWeeks : MethodName := ⟨RX8, "passAllWeeks", "(LWeekBank$Owner;LWeekBank$Owner;)V"⟩
abbrev cX8_endUnusedGifts : ByteArray := prog_1_method_39_code
def yX8_endUnusedGifts : MethodName := ⟨RX8, "endUnusedGifts", "(I)V"⟩
abbrev cX8_firstInLine : ByteArray := prog_1_method_40_code
def yX8_firstInLine : MethodName := ⟨RX8, "firstInLine", "()LWeekBank$Owner;"⟩
abbrev cX8_bestBankedFor : ByteArray := prog_1_method_41_code
def yX8_bestBankedFor : MethodName := ⟨RX8, "bestBankedFor", "(LWeekBank$Owner;)LWeekBank$Gift;"⟩
def RX9 : String := "WeekBankModel"
def TX9 : u_T := fun k => match k with
  | 0 => ("WeekBankModel", "thrown", "I", false)
  | 1 => ("WeekBankModel", "flats", "I", false)
  | 2 => ("WeekBankModel", "town", "[I", true)
  | 3 => ("WeekBankModel", "size", "[I", true)
  | 4 => ("WeekBankModel", "owners", "I", false)
  | 5 => ("WeekBankModel", "limit", "[I", true)
  | 6 => ("WeekBankModel", "points", "[I", true)
  | 7 => ("WeekBankModel", "luck", "[I", true)
  | 8 => ("WeekBankModel", "isDead", "[Z", true)
  | 9 => ("WeekBankModel", "ownerOf", "[I", true)
  | 10 => ("WeekBankModel", "isShut", "[Z", true)
  | 11 => ("WeekBankModel", "year", "I", false)
  | 12 => ("WeekBankModel", "now", "I", false)
  | 13 => ("WeekBankModel", "tape", "[B", true)
  | 14 => ("WeekBankModel", "taped", "I", false)
  | 15 => ("WeekBankModel", "at", "I", false)
  | 16 => ("WeekBankModel", "place", "I", false)
  | 17 => ("WeekBankModel", "sort", "I", false)
  | 18 => ("WeekBankModel", "value", "I", false)
  | 19 => ("WeekBankModel", "fault", "I", false)
  | 20 => ("WeekBankModel", "faultPlace", "I", false)
  | 21 => ("WeekBankModel", "lastPlace", "I", false)
  | 22 => ("WeekBankModel", "statements", "I", false)
  | 23 => ("WeekBankModel", "statement", "[I", true)
  | 24 => ("WeekBankModel", "newStatements", "I", false)
  | 25 => ("WeekBankModel", "newStatement", "[I", true)
  | 26 => ("WeekBankModel", "gifts", "I", false)
  | 27 => ("WeekBankModel", "giver", "[I", true)
  | 28 => ("WeekBankModel", "giftFlat", "[I", true)
  | 29 => ("WeekBankModel", "giftWeek", "[I", true)
  | 30 => ("WeekBankModel", "giftYear", "[I", true)
  | 31 => ("WeekBankModel", "worth", "[I", true)
  | 32 => ("WeekBankModel", "how", "[I", true)
  | 33 => ("WeekBankModel", "got", "[I", true)
  | 34 => ("WeekBankModel", "gotBy", "[I", true)
  | 35 => ("WeekBankModel", "wish", "[I", true)
  | 36 => ("WeekBankModel", "waits", "[I", true)
  | 37 => ("WeekBankModel", "waiting", "I", false)
  | 38 => ("WeekBankModel", "gets", "[I", true)
  | 39 => ("WeekBankModel", "bestGets", "[I", true)
  | 40 => ("WeekBankModel", "isGot", "[Z", true)
  | 41 => ("WeekBankModel", "bestMany", "I", false)
  | 42 => ("WeekBankModel", "bestWorth", "I", false)
  | 43 => ("WeekBankModel", "longest", "I", false)
  | 44 => ("WeekBankModel", "wasAsked", "[Z", true)
  | 45 => ("WeekBankModel", "luckThen", "[I", true)
  | _ => ("WeekBankModel", "stays", "[Z", true)
def tyX9 : Nat → FieldType := fun k => match k with
  | 0 => .int
  | 1 => .int
  | 2 => .array .int
  | 3 => .array .int
  | 4 => .int
  | 5 => .array .int
  | 6 => .array .int
  | 7 => .array .int
  | 8 => .array .boolean
  | 9 => .array .int
  | 10 => .array .boolean
  | 11 => .int
  | 12 => .int
  | 13 => .array .byte
  | 14 => .int
  | 15 => .int
  | 16 => .int
  | 17 => .int
  | 18 => .int
  | 19 => .int
  | 20 => .int
  | 21 => .int
  | 22 => .int
  | 23 => .array .int
  | 24 => .int
  | 25 => .array .int
  | 26 => .int
  | 27 => .array .int
  | 28 => .array .int
  | 29 => .array .int
  | 30 => .array .int
  | 31 => .array .int
  | 32 => .array .int
  | 33 => .array .int
  | 34 => .array .int
  | 35 => .array .int
  | 36 => .array .int
  | 37 => .int
  | 38 => .array .int
  | 39 => .array .int
  | 40 => .array .boolean
  | 41 => .int
  | 42 => .int
  | 43 => .int
  | 44 => .array .boolean
  | 45 => .array .int
  | _ => .array .boolean
theorem nmX9 : ∀ a, a < 47 → ∀ b, b < 47 → a ≠ b → (TX9 a).2.1 ≠ (TX9 b).2.1 := by decide +kernel
theorem tyX9_ok : ∀ k, k < 47 → parseFieldDescriptor (TX9 k).2.2.1 = some (tyX9 k) := by decide +kernel
abbrev cX9_thrown : ByteArray := prog_11_method_1_code
def yX9_thrown : MethodName := ⟨RX9, "thrown", "()I"⟩
abbrev cX9_within : ByteArray := prog_11_method_2_code
def yX9_within : MethodName := ⟨RX9, "within", "(III)Z"⟩
abbrev cX9_init : ByteArray := prog_11_method_3_code
def yX9_init : MethodName := ⟨RX9, "<init>", "()V"⟩
abbrev cX9_flat : ByteArray := prog_11_method_4_code
def yX9_flat : MethodName := ⟨RX9, "flat", "(II)I"⟩
abbrev cX9_owner : ByteArray := prog_11_method_5_code
def yX9_owner : MethodName := ⟨RX9, "owner", "(I)I"⟩
abbrev cX9_isPlace : ByteArray := prog_11_method_6_code
def yX9_isPlace : MethodName := ⟨RX9, "isPlace", "(II)Z"⟩
abbrev cX9_isAlive : ByteArray := prog_11_method_7_code
def yX9_isAlive : MethodName := ⟨RX9, "isAlive", "(I)Z"⟩
abbrev cX9_own : ByteArray := prog_11_method_8_code
def yX9_own : MethodName := ⟨RX9, "own", "(III)Z"⟩
abbrev cX9_feed : ByteArray := prog_11_method_9_code
def yX9_feed : MethodName := ⟨RX9, "feed", "(IIIII)I"⟩
abbrev cX9_end : ByteArray := prog_11_method_10_code
def yX9_end : MethodName := ⟨RX9, "end", "(I)I"⟩
abbrev cX9_see : ByteArray := prog_11_method_11_code
def yX9_see : MethodName := ⟨RX9, "see", "(I)I"⟩
abbrev cX9_isSmall : ByteArray := prog_11_method_12_code
def yX9_isSmall : MethodName := ⟨RX9, "isSmall", "(I)Z"⟩
abbrev cX9_isDigit : ByteArray := prog_11_method_13_code
def yX9_isDigit : MethodName := ⟨RX9, "isDigit", "(I)Z"⟩
abbrev cX9_next : ByteArray := prog_11_method_14_code
def yX9_next : MethodName := ⟨RX9, "next", "()V"⟩
abbrev cX9_isWord : ByteArray := prog_11_method_15_code
def yX9_isWord : MethodName := ⟨RX9, "isWord", "(Ljava/lang/String;)Z"⟩
abbrev cX9_fails : ByteArray := prog_11_method_16_code
def yX9_fails : MethodName := ⟨RX9, "fails", "(I)V"⟩
abbrev cX9_number : ByteArray := prog_11_method_17_code
def yX9_number : MethodName := ⟨RX9, "number", "(II)I"⟩
abbrev cX9_readStatement : ByteArray := prog_11_method_18_code
def yX9_readStatement : MethodName := ⟨RX9, "readStatement", "()V"⟩
abbrev cX9_rules : ByteArray := prog_11_method_19_code
def yX9_rules : MethodName := ⟨RX9, "rules", "()I"⟩
abbrev cX9_place : ByteArray := prog_11_method_20_code
def yX9_place : MethodName := ⟨RX9, "place", "()I"⟩
abbrev cX9_isBound : ByteArray := prog_11_method_21_code
def yX9_isBound : MethodName := ⟨RX9, "isBound", "()Z"⟩
abbrev cX9_worthOf : ByteArray := prog_11_method_22_code
def yX9_worthOf : MethodName := ⟨RX9, "worthOf", "(II)I"⟩
abbrev cX9_worth : ByteArray := prog_11_method_23_code
def yX9_worth : MethodName := ⟨RX9, "worth", "(II)I"⟩
abbrev cX9_givenAt : ByteArray := prog_11_method_24_code
def yX9_givenAt : MethodName := ⟨RX9, "givenAt", "(II)I"⟩
abbrev cX9_many : ByteArray := prog_11_method_25_code
def yX9_many : MethodName := ⟨RX9, "many", "(I)I"⟩
abbrev cX9_give : ByteArray := prog_11_method_26_code
def yX9_give : MethodName := ⟨RX9, "give", "(III)I"⟩
abbrev cX9_isGift : ByteArray := prog_11_method_27_code
def yX9_isGift : MethodName := ⟨RX9, "isGift", "(II)Z"⟩
abbrev cX9_wishes : ByteArray := prog_11_method_28_code
def yX9_wishes : MethodName := ⟨RX9, "wishes", "(IIIII)Z"⟩
abbrev cX9_wish : ByteArray := prog_11_method_29_code
def yX9_wish : MethodName := ⟨RX9, "wish", "(IIIII)Z"⟩
abbrev cX9_rushWish : ByteArray := prog_11_method_30_code
def yX9_rushWish : MethodName := ⟨RX9, "rushWish", "(IIIII)Z"⟩
abbrev cX9_meets : ByteArray := prog_11_method_31_code
def yX9_meets : MethodName := ⟨RX9, "meets", "(II)Z"⟩
abbrev cX9_isShort : ByteArray := prog_11_method_32_code
def yX9_isShort : MethodName := ⟨RX9, "isShort", "(I)Z"⟩
abbrev cX9_chooses : ByteArray := prog_11_method_33_code
def yX9_chooses : MethodName := ⟨RX9, "chooses", "(IIII)V"⟩
abbrev cX9_isEven : ByteArray := prog_11_method_34_code
def yX9_isEven : MethodName := ⟨RX9, "isEven", "(I)Z"⟩
abbrev cX9_rings : ByteArray := prog_11_method_35_code
def yX9_rings : MethodName := ⟨RX9, "rings", "(I)I"⟩
abbrev cX9_bank : ByteArray := prog_11_method_36_code
def yX9_bank : MethodName := ⟨RX9, "bank", "(I)I"⟩
abbrev cX9_goesTo : ByteArray := prog_11_method_37_code
def yX9_goesTo : MethodName := ⟨RX9, "goesTo", "(II)V"⟩
abbrev cX9_take : ByteArray := prog_11_method_38_code
def yX9_take : MethodName := ⟨RX9, "take", "(II)I"⟩
abbrev cX9_nextInRush : ByteArray := prog_11_method_39_code
def yX9_nextInRush : MethodName := ⟨RX9, "nextInRush", "()I"⟩
abbrev cX9_rush : ByteArray := prog_11_method_40_code
def yX9_rush : MethodName := ⟨RX9, "rush", "()I"⟩
abbrev cX9_shut : ByteArray := prog_11_method_41_code
def yX9_shut : MethodName := ⟨RX9, "shut", "(III)I"⟩
abbrev cX9_passes : ByteArray := prog_11_method_42_code
def yX9_passes : MethodName := ⟨RX9, "passes", "(I)V"⟩
abbrev cX9_weeks : ByteArray := prog_11_method_43_code
def yX9_weeks : MethodName := ⟨RX9, "weeks", "(I)I"⟩
abbrev cX9_year : ByteArray := prog_11_method_44_code
def yX9_year : MethodName := ⟨RX9, "year", "()I"⟩
abbrev cX9_owned : ByteArray := prog_11_method_45_code
def yX9_owned : MethodName := ⟨RX9, "owned", "(I)I"⟩
abbrev cX9_dies : ByteArray := prog_11_method_46_code
def yX9_dies : MethodName := ⟨RX9, "dies", "(IIZ)I"⟩
abbrev cX9_weeksThatStay : ByteArray := prog_11_method_47_code
def yX9_weeksThatStay : MethodName := ⟨RX9, "weeksThatStay", "()I"⟩
abbrev cX9_fees : ByteArray := prog_11_method_48_code
def yX9_fees : MethodName := ⟨RX9, "fees", "(II)I"⟩
abbrev cX9_party : ByteArray := prog_11_method_49_code
def yX9_party : MethodName := ⟨RX9, "party", "(II)I"⟩
abbrev cX9_of : ByteArray := prog_11_method_50_code
def yX9_of : MethodName := ⟨RX9, "of", "(II)I"⟩
abbrev cX9_ownerOf : ByteArray := prog_11_method_51_code
def yX9_ownerOf : MethodName := ⟨RX9, "ownerOf", "(II)I"⟩
abbrev cX9_count : ByteArray := prog_11_method_52_code
def yX9_count : MethodName := ⟨RX9, "count", "(I)I"⟩
def RJ6 : String := "java/lang/Integer"
def TJ6 : u_T := fun k => match k with
  | _ => ("", "", "", false)
def tyJ6 : Nat → FieldType := fun k => match k with
  | _ => .int
theorem nmJ6 : ∀ a, a < 0 → ∀ b, b < 0 → a ≠ b → (TJ6 a).2.1 ≠ (TJ6 b).2.1 := by decide +kernel
theorem tyJ6_ok : ∀ k, k < 0 → parseFieldDescriptor (TJ6 k).2.2.1 = some (tyJ6 k) := by decide +kernel
abbrev cJ6_bitCount_0f7a4 : ByteArray := prog_13_method_49_code
def yJ6_bitCount_0f7a4 : MethodName := ⟨RJ6, "bitCount", "(I)I"⟩
def RJ9 : String := "java/lang/Math"
def TJ9 : u_T := fun k => match k with
  | _ => ("", "", "", false)
def tyJ9 : Nat → FieldType := fun k => match k with
  | _ => .int
theorem nmJ9 : ∀ a, a < 0 → ∀ b, b < 0 → a ≠ b → (TJ9 a).2.1 ≠ (TJ9 b).2.1 := by decide +kernel
theorem tyJ9_ok : ∀ k, k < 0 → parseFieldDescriptor (TJ9 k).2.2.1 = some (tyJ9 k) := by decide +kernel
abbrev cJ9_max_7cf53 : ByteArray := prog_14_method_65_code
def yJ9_max_7cf53 : MethodName := ⟨RJ9, "max", "(II)I"⟩
abbrev cJ9_min_7cf53 : ByteArray := prog_14_method_69_code
def yJ9_min_7cf53 : MethodName := ⟨RJ9, "min", "(II)I"⟩
def RJ0 : String := "java/lang/String"
def TJ0 : u_T := fun k => match k with
  | _ => ("", "", "", false)
def tyJ0 : Nat → FieldType := fun k => match k with
  | _ => .int
theorem nmJ0 : ∀ a, a < 0 → ∀ b, b < 0 → a ≠ b → (TJ0 a).2.1 ≠ (TJ0 b).2.1 := by decide +kernel
theorem tyJ0_ok : ∀ k, k < 0 → parseFieldDescriptor (TJ0 k).2.2.1 = some (tyJ0 k) := by decide +kernel
abbrev cJ0_length_8abf5 : ByteArray := prog_16_method_54_code
def yJ0_length_8abf5 : MethodName := ⟨RJ0, "length", "()I"⟩
abbrev cJ0_charAt_5068e : ByteArray := prog_16_method_56_code
def yJ0_charAt_5068e : MethodName := ⟨RJ0, "charAt", "(I)C"⟩
abbrev cJ0_coder_7d493 : ByteArray := prog_16_method_152_code
def yJ0_coder_7d493 : MethodName := ⟨RJ0, "coder", "()B"⟩
abbrev cJ0_isLatin1_aae02 : ByteArray := prog_16_method_154_code
def yJ0_isLatin1_aae02 : MethodName := ⟨RJ0, "isLatin1", "()Z"⟩
abbrev cJ0_checkIndex_df160 : ByteArray := prog_16_method_155_code
def yJ0_checkIndex_df160 : MethodName := ⟨RJ0, "checkIndex", "(II)V"⟩
def RJ1 : String := "java/lang/StringLatin1"
def TJ1 : u_T := fun k => match k with
  | _ => ("", "", "", false)
def tyJ1 : Nat → FieldType := fun k => match k with
  | _ => .int
theorem nmJ1 : ∀ a, a < 0 → ∀ b, b < 0 → a ≠ b → (TJ1 a).2.1 ≠ (TJ1 b).2.1 := by decide +kernel
theorem tyJ1_ok : ∀ k, k < 0 → parseFieldDescriptor (TJ1 k).2.2.1 = some (tyJ1 k) := by decide +kernel
abbrev cJ1_charAt_3b067 : ByteArray := prog_17_method_2_code
def yJ1_charAt_3b067 : MethodName := ⟨RJ1, "charAt", "([BI)C"⟩
def RJ2 : String := "java/lang/StringUTF16"
def TJ2 : u_T := fun k => match k with
  | _ => ("", "", "", false)
def tyJ2 : Nat → FieldType := fun k => match k with
  | _ => .int
theorem nmJ2 : ∀ a, a < 0 → ∀ b, b < 0 → a ≠ b → (TJ2 a).2.1 ≠ (TJ2 b).2.1 := by decide +kernel
theorem tyJ2_ok : ∀ k, k < 0 → parseFieldDescriptor (TJ2 k).2.2.1 = some (tyJ2 k) := by decide +kernel
abbrev cJ2_getChar_3b067 : ByteArray := prog_18_method_5_code
def yJ2_getChar_3b067 : MethodName := ⟨RJ2, "getChar", "([BI)C"⟩
abbrev cJ2_length_9d52b : ByteArray := prog_18_method_6_code
def yJ2_length_9d52b : MethodName := ⟨RJ2, "length", "([B)I"⟩
abbrev cJ2_charAt_3b067 : ByteArray := prog_18_method_83_code
def yJ2_charAt_3b067 : MethodName := ⟨RJ2, "charAt", "([BI)C"⟩
abbrev cJ2_checkIndex_2214a : ByteArray := prog_18_method_91_code
def yJ2_checkIndex_2214a : MethodName := ⟨RJ2, "checkIndex", "(I[B)V"⟩
def RJ7 : String := "java/util/Arrays"
def TJ7 : u_T := fun k => match k with
  | _ => ("", "", "", false)
def tyJ7 : Nat → FieldType := fun k => match k with
  | _ => .int
theorem nmJ7 : ∀ a, a < 0 → ∀ b, b < 0 → a ≠ b → (TJ7 a).2.1 ≠ (TJ7 b).2.1 := by decide +kernel
theorem tyJ7_ok : ∀ k, k < 0 → parseFieldDescriptor (TJ7 k).2.2.1 = some (tyJ7 k) := by decide +kernel
abbrev cJ7_fill_53178 : ByteArray := prog_20_method_103_code
def yJ7_fill_53178 : MethodName := ⟨RJ7, "fill", "([II)V"⟩
def RJ3 : String := "jdk/internal/util/Preconditions"
def TJ3 : u_T := fun k => match k with
  | _ => ("", "", "", false)
def tyJ3 : Nat → FieldType := fun k => match k with
  | _ => .int
theorem nmJ3 : ∀ a, a < 0 → ∀ b, b < 0 → a ≠ b → (TJ3 a).2.1 ≠ (TJ3 b).2.1 := by decide +kernel
theorem tyJ3_ok : ∀ k, k < 0 → parseFieldDescriptor (TJ3 k).2.2.1 = some (tyJ3 k) := by decide +kernel
abbrev cJ3_checkIndex_8e157 : ByteArray := prog_22_method_11_code
def yJ3_checkIndex_8e157 : MethodName := ⟨RJ3, "checkIndex", "(IILjava/util/function/BiFunction;)I"⟩
def RL : String := "WeekBankLaw"
abbrev cL_of : ByteArray := method_3_code
def yL_of : MethodName := ⟨RL, "of", "(LWeekBank;II[J)I"⟩
abbrev cL_law : ByteArray := code
def yL_law : MethodName := ⟨RL, "law", "([I)Z"⟩
abbrev vwCl : List vw_C := [(RX0, TX0, 6), (RX1, TX1, 6), (RX2, TX2, 10), (RX3, TX3, 8), (RX4, TX4, 8), (RX5, TX5, 7), (RX6, TX6, 5), (RX7, TX7, 4), (RX8, TX8, 13), (RX9, TX9, 47)]
end
section
theorem dX0_init_0 : decode cX0_init 0 = .ok (.aload_n 0, 1) := by decide +kernel
theorem dX0_init_1 : decode cX0_init 1 = .ok (.invokespecial 3, 3) := by decide +kernel
theorem dX0_init_4 : decode cX0_init 4 = .ok (.aload_n 0, 1) := by decide +kernel
theorem dX0_init_5 : decode cX0_init 5 = .ok (.bipush 10, 2) := by decide +kernel
theorem dX0_init_7 : decode cX0_init 7 = .ok (.newarray .int, 2) := by decide +kernel
theorem dX0_init_9 : decode cX0_init 9 = .ok (.putfield 9, 3) := by decide +kernel
theorem dX0_init_12 : decode cX0_init 12 = .ok (.aload_n 0, 1) := by decide +kernel
theorem dX0_init_13 : decode cX0_init 13 = .ok (.bipush 10, 2) := by decide +kernel
theorem dX0_init_15 : decode cX0_init 15 = .ok (.newarray .int, 2) := by decide +kernel
theorem dX0_init_17 : decode cX0_init 17 = .ok (.putfield 15, 3) := by decide +kernel
theorem dX0_init_20 : decode cX0_init 20 = .ok (.aload_n 0, 1) := by decide +kernel
theorem dX0_init_21 : decode cX0_init 21 = .ok (.bipush 10, 2) := by decide +kernel
theorem dX0_init_23 : decode cX0_init 23 = .ok (.newarray .boolean, 2) := by decide +kernel
theorem dX0_init_25 : decode cX0_init 25 = .ok (.putfield 18, 3) := by decide +kernel
theorem dX0_init_28 : decode cX0_init 28 = .ok (.aload_n 0, 1) := by decide +kernel
theorem dX0_init_29 : decode cX0_init 29 = .ok (.iconst 0, 1) := by decide +kernel
theorem dX0_init_30 : decode cX0_init 30 = .ok (.putfield 22, 3) := by decide +kernel
theorem dX0_init_33 : decode cX0_init 33 = .ok (.aload_n 0, 1) := by decide +kernel
theorem dX0_init_34 : decode cX0_init 34 = .ok (.iconst 0, 1) := by decide +kernel
theorem dX0_init_35 : decode cX0_init 35 = .ok (.putfield 26, 3) := by decide +kernel
theorem dX0_init_38 : decode cX0_init 38 = .ok (.aload_n 0, 1) := by decide +kernel
theorem dX0_init_39 : decode cX0_init 39 = .ok (.iconst 0, 1) := by decide +kernel
theorem dX0_init_40 : decode cX0_init 40 = .ok (.putfield 29, 3) := by decide +kernel
theorem dX0_init_43 : decode cX0_init 43 = .ok (.return_, 1) := by decide +kernel
theorem dX0_clear_0 : decode cX0_clear 0 = .ok (.aload_n 0, 1) := by decide +kernel
theorem dX0_clear_1 : decode cX0_clear 1 = .ok (.iconst 0, 1) := by decide +kernel
theorem dX0_clear_2 : decode cX0_clear 2 = .ok (.putfield 22, 3) := by decide +kernel
theorem dX0_clear_5 : decode cX0_clear 5 = .ok (.aload_n 0, 1) := by decide +kernel
theorem dX0_clear_6 : decode cX0_clear 6 = .ok (.iconst 0, 1) := by decide +kernel
theorem dX0_clear_7 : decode cX0_clear 7 = .ok (.putfield 26, 3) := by decide +kernel
theorem dX0_clear_10 : decode cX0_clear 10 = .ok (.aload_n 0, 1) := by decide +kernel
theorem dX0_clear_11 : decode cX0_clear 11 = .ok (.iconst 0, 1) := by decide +kernel
theorem dX0_clear_12 : decode cX0_clear 12 = .ok (.putfield 29, 3) := by decide +kernel
theorem dX0_clear_15 : decode cX0_clear 15 = .ok (.return_, 1) := by decide +kernel
theorem dX0_add_0 : decode cX0_add 0 = .ok (.aload_n 0, 1) := by decide +kernel
theorem dX0_add_1 : decode cX0_add 1 = .ok (.getfield 22, 3) := by decide +kernel
theorem dX0_add_4 : decode cX0_add 4 = .ok (.bipush 10, 2) := by decide +kernel
theorem dX0_add_6 : decode cX0_add 6 = .ok (.if_icmp .ge 43, 3) := by decide +kernel
theorem dX0_add_9 : decode cX0_add 9 = .ok (.aload_n 0, 1) := by decide +kernel
theorem dX0_add_10 : decode cX0_add 10 = .ok (.getfield 9, 3) := by decide +kernel
theorem dX0_add_13 : decode cX0_add 13 = .ok (.aload_n 0, 1) := by decide +kernel
theorem dX0_add_14 : decode cX0_add 14 = .ok (.getfield 22, 3) := by decide +kernel
theorem dX0_add_17 : decode cX0_add 17 = .ok (.iload_n 1, 1) := by decide +kernel
theorem dX0_add_18 : decode cX0_add 18 = .ok (.iastore, 1) := by decide +kernel
theorem dX0_add_19 : decode cX0_add 19 = .ok (.aload_n 0, 1) := by decide +kernel
theorem dX0_add_20 : decode cX0_add 20 = .ok (.getfield 15, 3) := by decide +kernel
theorem dX0_add_23 : decode cX0_add 23 = .ok (.aload_n 0, 1) := by decide +kernel
theorem dX0_add_24 : decode cX0_add 24 = .ok (.getfield 22, 3) := by decide +kernel
theorem dX0_add_27 : decode cX0_add 27 = .ok (.iload_n 2, 1) := by decide +kernel
theorem dX0_add_28 : decode cX0_add 28 = .ok (.iastore, 1) := by decide +kernel
theorem dX0_add_29 : decode cX0_add 29 = .ok (.aload_n 0, 1) := by decide +kernel
theorem dX0_add_30 : decode cX0_add 30 = .ok (.getfield 18, 3) := by decide +kernel
theorem dX0_add_33 : decode cX0_add 33 = .ok (.aload_n 0, 1) := by decide +kernel
theorem dX0_add_34 : decode cX0_add 34 = .ok (.getfield 22, 3) := by decide +kernel
theorem dX0_add_37 : decode cX0_add 37 = .ok (.iconst 0, 1) := by decide +kernel
theorem dX0_add_38 : decode cX0_add 38 = .ok (.bastore, 1) := by decide +kernel
theorem dX0_add_39 : decode cX0_add 39 = .ok (.aload_n 0, 1) := by decide +kernel
theorem dX0_add_40 : decode cX0_add 40 = .ok (.dup, 1) := by decide +kernel
theorem dX0_add_41 : decode cX0_add 41 = .ok (.getfield 22, 3) := by decide +kernel
theorem dX0_add_44 : decode cX0_add 44 = .ok (.iconst 1, 1) := by decide +kernel
theorem dX0_add_45 : decode cX0_add 45 = .ok (.iadd, 1) := by decide +kernel
theorem dX0_add_46 : decode cX0_add 46 = .ok (.putfield 22, 3) := by decide +kernel
theorem dX0_add_49 : decode cX0_add 49 = .ok (.return_, 1) := by decide +kernel
theorem dX0_reckon_0 : decode cX0_reckon 0 = .ok (.iconst 0, 1) := by decide +kernel
theorem dX0_reckon_1 : decode cX0_reckon 1 = .ok (.istore_n 2, 1) := by decide +kernel
theorem dX0_reckon_2 : decode cX0_reckon 2 = .ok (.iload_n 2, 1) := by decide +kernel
theorem dX0_reckon_3 : decode cX0_reckon 3 = .ok (.bipush 10, 2) := by decide +kernel
theorem dX0_reckon_5 : decode cX0_reckon 5 = .ok (.if_icmp .gt 53, 3) := by decide +kernel
theorem dX0_reckon_8 : decode cX0_reckon 8 = .ok (.aload_n 0, 1) := by decide +kernel
theorem dX0_reckon_9 : decode cX0_reckon 9 = .ok (.invokevirtual 32, 3) := by decide +kernel
theorem dX0_reckon_12 : decode cX0_reckon 12 = .ok (.istore_n 3, 1) := by decide +kernel
theorem dX0_reckon_13 : decode cX0_reckon 13 = .ok (.iload_n 3, 1) := by decide +kernel
theorem dX0_reckon_14 : decode cX0_reckon 14 = .ok (.ifCond .gt 9, 3) := by decide +kernel
theorem dX0_reckon_17 : decode cX0_reckon 17 = .ok (.aload_n 0, 1) := by decide +kernel
theorem dX0_reckon_18 : decode cX0_reckon 18 = .ok (.iconst 0, 1) := by decide +kernel
theorem dX0_reckon_19 : decode cX0_reckon 19 = .ok (.putfield 26, 3) := by decide +kernel
theorem dX0_reckon_22 : decode cX0_reckon 22 = .ok (.return_, 1) := by decide +kernel
theorem dX0_reckon_23 : decode cX0_reckon 23 = .ok (.aload_n 0, 1) := by decide +kernel
theorem dX0_reckon_24 : decode cX0_reckon 24 = .ok (.iload_n 1, 1) := by decide +kernel
theorem dX0_reckon_25 : decode cX0_reckon 25 = .ok (.iload_n 3, 1) := by decide +kernel
theorem dX0_reckon_26 : decode cX0_reckon 26 = .ok (.iadd, 1) := by decide +kernel
theorem dX0_reckon_27 : decode cX0_reckon 27 = .ok (.iconst 1, 1) := by decide +kernel
theorem dX0_reckon_28 : decode cX0_reckon 28 = .ok (.isub, 1) := by decide +kernel
theorem dX0_reckon_29 : decode cX0_reckon 29 = .ok (.iload_n 3, 1) := by decide +kernel
theorem dX0_reckon_30 : decode cX0_reckon 30 = .ok (.idiv, 1) := by decide +kernel
theorem dX0_reckon_31 : decode cX0_reckon 31 = .ok (.putfield 26, 3) := by decide +kernel
theorem dX0_reckon_34 : decode cX0_reckon 34 = .ok (.aload_n 0, 1) := by decide +kernel
theorem dX0_reckon_35 : decode cX0_reckon 35 = .ok (.invokevirtual 36, 3) := by decide +kernel
theorem dX0_reckon_38 : decode cX0_reckon 38 = .ok (.ifCond .ne 4, 3) := by decide +kernel
theorem dX0_reckon_41 : decode cX0_reckon 41 = .ok (.return_, 1) := by decide +kernel
theorem dX0_reckon_42 : decode cX0_reckon 42 = .ok (.aload_n 0, 1) := by decide +kernel
theorem dX0_reckon_43 : decode cX0_reckon 43 = .ok (.dup, 1) := by decide +kernel
theorem dX0_reckon_44 : decode cX0_reckon 44 = .ok (.getfield 29, 3) := by decide +kernel
theorem dX0_reckon_47 : decode cX0_reckon 47 = .ok (.iconst 1, 1) := by decide +kernel
theorem dX0_reckon_48 : decode cX0_reckon 48 = .ok (.iadd, 1) := by decide +kernel
theorem dX0_reckon_49 : decode cX0_reckon 49 = .ok (.putfield 29, 3) := by decide +kernel
theorem dX0_reckon_52 : decode cX0_reckon 52 = .ok (.iinc 2 1, 3) := by decide +kernel
theorem dX0_reckon_55 : decode cX0_reckon 55 = .ok (.goto (-53), 3) := by decide +kernel
theorem dX0_reckon_58 : decode cX0_reckon 58 = .ok (.return_, 1) := by decide +kernel
theorem dX0_countStaying_0 : decode cX0_countStaying 0 = .ok (.iconst 0, 1) := by decide +kernel
theorem dX0_countStaying_1 : decode cX0_countStaying 1 = .ok (.istore_n 1, 1) := by decide +kernel
theorem dX0_countStaying_2 : decode cX0_countStaying 2 = .ok (.iconst 0, 1) := by decide +kernel
theorem dX0_countStaying_3 : decode cX0_countStaying 3 = .ok (.istore_n 2, 1) := by decide +kernel
theorem dX0_countStaying_4 : decode cX0_countStaying 4 = .ok (.iload_n 2, 1) := by decide +kernel
theorem dX0_countStaying_5 : decode cX0_countStaying 5 = .ok (.aload_n 0, 1) := by decide +kernel
theorem dX0_countStaying_6 : decode cX0_countStaying 6 = .ok (.getfield 22, 3) := by decide +kernel
theorem dX0_countStaying_9 : decode cX0_countStaying 9 = .ok (.if_icmp .ge 30, 3) := by decide +kernel
theorem dX0_countStaying_12 : decode cX0_countStaying 12 = .ok (.aload_n 0, 1) := by decide +kernel
theorem dX0_countStaying_13 : decode cX0_countStaying 13 = .ok (.getfield 18, 3) := by decide +kernel
theorem dX0_countStaying_16 : decode cX0_countStaying 16 = .ok (.iload_n 2, 1) := by decide +kernel
theorem dX0_countStaying_17 : decode cX0_countStaying 17 = .ok (.baload, 1) := by decide +kernel
theorem dX0_countStaying_18 : decode cX0_countStaying 18 = .ok (.ifCond .ne 15, 3) := by decide +kernel
theorem dX0_countStaying_21 : decode cX0_countStaying 21 = .ok (.aload_n 0, 1) := by decide +kernel
theorem dX0_countStaying_22 : decode cX0_countStaying 22 = .ok (.getfield 15, 3) := by decide +kernel
theorem dX0_countStaying_25 : decode cX0_countStaying 25 = .ok (.iload_n 2, 1) := by decide +kernel
theorem dX0_countStaying_26 : decode cX0_countStaying 26 = .ok (.iaload, 1) := by decide +kernel
theorem dX0_countStaying_27 : decode cX0_countStaying 27 = .ok (.ifCond .le 6, 3) := by decide +kernel
theorem dX0_countStaying_30 : decode cX0_countStaying 30 = .ok (.iinc 1 1, 3) := by decide +kernel
theorem dX0_countStaying_33 : decode cX0_countStaying 33 = .ok (.iinc 2 1, 3) := by decide +kernel
theorem dX0_countStaying_36 : decode cX0_countStaying 36 = .ok (.goto (-32), 3) := by decide +kernel
theorem dX0_countStaying_39 : decode cX0_countStaying 39 = .ok (.iload_n 1, 1) := by decide +kernel
theorem dX0_countStaying_40 : decode cX0_countStaying 40 = .ok (.ireturn, 1) := by decide +kernel
theorem dX0_countOwned_0 : decode cX0_countOwned 0 = .ok (.iconst 0, 1) := by decide +kernel
theorem dX0_countOwned_1 : decode cX0_countOwned 1 = .ok (.istore_n 1, 1) := by decide +kernel
theorem dX0_countOwned_2 : decode cX0_countOwned 2 = .ok (.iconst 0, 1) := by decide +kernel
theorem dX0_countOwned_3 : decode cX0_countOwned 3 = .ok (.istore_n 2, 1) := by decide +kernel
theorem dX0_countOwned_4 : decode cX0_countOwned 4 = .ok (.iload_n 2, 1) := by decide +kernel
theorem dX0_countOwned_5 : decode cX0_countOwned 5 = .ok (.aload_n 0, 1) := by decide +kernel
theorem dX0_countOwned_6 : decode cX0_countOwned 6 = .ok (.getfield 22, 3) := by decide +kernel
theorem dX0_countOwned_9 : decode cX0_countOwned 9 = .ok (.if_icmp .ge 27, 3) := by decide +kernel
theorem dX0_countOwned_12 : decode cX0_countOwned 12 = .ok (.aload_n 0, 1) := by decide +kernel
theorem dX0_countOwned_13 : decode cX0_countOwned 13 = .ok (.getfield 18, 3) := by decide +kernel
theorem dX0_countOwned_16 : decode cX0_countOwned 16 = .ok (.iload_n 2, 1) := by decide +kernel
theorem dX0_countOwned_17 : decode cX0_countOwned 17 = .ok (.baload, 1) := by decide +kernel
theorem dX0_countOwned_18 : decode cX0_countOwned 18 = .ok (.ifCond .ne 12, 3) := by decide +kernel
theorem dX0_countOwned_21 : decode cX0_countOwned 21 = .ok (.iload_n 1, 1) := by decide +kernel
theorem dX0_countOwned_22 : decode cX0_countOwned 22 = .ok (.aload_n 0, 1) := by decide +kernel
theorem dX0_countOwned_23 : decode cX0_countOwned 23 = .ok (.getfield 15, 3) := by decide +kernel
theorem dX0_countOwned_26 : decode cX0_countOwned 26 = .ok (.iload_n 2, 1) := by decide +kernel
theorem dX0_countOwned_27 : decode cX0_countOwned 27 = .ok (.iaload, 1) := by decide +kernel
theorem dX0_countOwned_28 : decode cX0_countOwned 28 = .ok (.iadd, 1) := by decide +kernel
theorem dX0_countOwned_29 : decode cX0_countOwned 29 = .ok (.istore_n 1, 1) := by decide +kernel
theorem dX0_countOwned_30 : decode cX0_countOwned 30 = .ok (.iinc 2 1, 3) := by decide +kernel
theorem dX0_countOwned_33 : decode cX0_countOwned 33 = .ok (.goto (-29), 3) := by decide +kernel
theorem dX0_countOwned_36 : decode cX0_countOwned 36 = .ok (.iload_n 1, 1) := by decide +kernel
theorem dX0_countOwned_37 : decode cX0_countOwned 37 = .ok (.ireturn, 1) := by decide +kernel
theorem dX0_someLeave_0 : decode cX0_someLeave 0 = .ok (.iconst 0, 1) := by decide +kernel
theorem dX0_someLeave_1 : decode cX0_someLeave 1 = .ok (.istore_n 1, 1) := by decide +kernel
theorem dX0_someLeave_2 : decode cX0_someLeave 2 = .ok (.iconst 0, 1) := by decide +kernel
theorem dX0_someLeave_3 : decode cX0_someLeave 3 = .ok (.istore_n 2, 1) := by decide +kernel
theorem dX0_someLeave_4 : decode cX0_someLeave 4 = .ok (.iload_n 2, 1) := by decide +kernel
theorem dX0_someLeave_5 : decode cX0_someLeave 5 = .ok (.aload_n 0, 1) := by decide +kernel
theorem dX0_someLeave_6 : decode cX0_someLeave 6 = .ok (.getfield 22, 3) := by decide +kernel
theorem dX0_someLeave_9 : decode cX0_someLeave 9 = .ok (.if_icmp .ge 40, 3) := by decide +kernel
theorem dX0_someLeave_12 : decode cX0_someLeave 12 = .ok (.aload_n 0, 1) := by decide +kernel
theorem dX0_someLeave_13 : decode cX0_someLeave 13 = .ok (.getfield 18, 3) := by decide +kernel
theorem dX0_someLeave_16 : decode cX0_someLeave 16 = .ok (.iload_n 2, 1) := by decide +kernel
theorem dX0_someLeave_17 : decode cX0_someLeave 17 = .ok (.baload, 1) := by decide +kernel
theorem dX0_someLeave_18 : decode cX0_someLeave 18 = .ok (.ifCond .ne 25, 3) := by decide +kernel
theorem dX0_someLeave_21 : decode cX0_someLeave 21 = .ok (.aload_n 0, 1) := by decide +kernel
theorem dX0_someLeave_22 : decode cX0_someLeave 22 = .ok (.getfield 9, 3) := by decide +kernel
theorem dX0_someLeave_25 : decode cX0_someLeave 25 = .ok (.iload_n 2, 1) := by decide +kernel
theorem dX0_someLeave_26 : decode cX0_someLeave 26 = .ok (.iaload, 1) := by decide +kernel
theorem dX0_someLeave_27 : decode cX0_someLeave 27 = .ok (.aload_n 0, 1) := by decide +kernel
theorem dX0_someLeave_28 : decode cX0_someLeave 28 = .ok (.getfield 26, 3) := by decide +kernel
theorem dX0_someLeave_31 : decode cX0_someLeave 31 = .ok (.if_icmp .ge 12, 3) := by decide +kernel
theorem dX0_someLeave_34 : decode cX0_someLeave 34 = .ok (.aload_n 0, 1) := by decide +kernel
theorem dX0_someLeave_35 : decode cX0_someLeave 35 = .ok (.getfield 18, 3) := by decide +kernel
theorem dX0_someLeave_38 : decode cX0_someLeave 38 = .ok (.iload_n 2, 1) := by decide +kernel
theorem dX0_someLeave_39 : decode cX0_someLeave 39 = .ok (.iconst 1, 1) := by decide +kernel
theorem dX0_someLeave_40 : decode cX0_someLeave 40 = .ok (.bastore, 1) := by decide +kernel
theorem dX0_someLeave_41 : decode cX0_someLeave 41 = .ok (.iconst 1, 1) := by decide +kernel
theorem dX0_someLeave_42 : decode cX0_someLeave 42 = .ok (.istore_n 1, 1) := by decide +kernel
theorem dX0_someLeave_43 : decode cX0_someLeave 43 = .ok (.iinc 2 1, 3) := by decide +kernel
theorem dX0_someLeave_46 : decode cX0_someLeave 46 = .ok (.goto (-42), 3) := by decide +kernel
theorem dX0_someLeave_49 : decode cX0_someLeave 49 = .ok (.iload_n 1, 1) := by decide +kernel
theorem dX0_someLeave_50 : decode cX0_someLeave 50 = .ok (.ireturn, 1) := by decide +kernel
theorem dX1_init_0 : decode cX1_init 0 = .ok (.aload_n 0, 1) := by decide +kernel
theorem dX1_init_1 : decode cX1_init 1 = .ok (.invokespecial 3, 3) := by decide +kernel
theorem dX1_init_4 : decode cX1_init 4 = .ok (.aload_n 0, 1) := by decide +kernel
theorem dX1_init_5 : decode cX1_init 5 = .ok (.bipush 53, 2) := by decide +kernel
theorem dX1_init_7 : decode cX1_init 7 = .ok (.anewarray 9, 3) := by decide +kernel
theorem dX1_init_10 : decode cX1_init 10 = .ok (.putfield 11, 3) := by decide +kernel
theorem dX1_init_13 : decode cX1_init 13 = .ok (.aload_n 0, 1) := by decide +kernel
theorem dX1_init_14 : decode cX1_init 14 = .ok (.bipush 53, 2) := by decide +kernel
theorem dX1_init_16 : decode cX1_init 16 = .ok (.newarray .boolean, 2) := by decide +kernel
theorem dX1_init_18 : decode cX1_init 18 = .ok (.putfield 17, 3) := by decide +kernel
theorem dX1_init_21 : decode cX1_init 21 = .ok (.aload_n 0, 1) := by decide +kernel
theorem dX1_init_22 : decode cX1_init 22 = .ok (.bipush 53, 2) := by decide +kernel
theorem dX1_init_24 : decode cX1_init 24 = .ok (.anewarray 21, 3) := by decide +kernel
theorem dX1_init_27 : decode cX1_init 27 = .ok (.putfield 23, 3) := by decide +kernel
theorem dX1_init_30 : decode cX1_init 30 = .ok (.aload_n 0, 1) := by decide +kernel
theorem dX1_init_31 : decode cX1_init 31 = .ok (.iload_n 1, 1) := by decide +kernel
theorem dX1_init_32 : decode cX1_init 32 = .ok (.putfield 27, 3) := by decide +kernel
theorem dX1_init_35 : decode cX1_init 35 = .ok (.aload_n 0, 1) := by decide +kernel
theorem dX1_init_36 : decode cX1_init 36 = .ok (.iload_n 2, 1) := by decide +kernel
theorem dX1_init_37 : decode cX1_init 37 = .ok (.putfield 31, 3) := by decide +kernel
theorem dX1_init_40 : decode cX1_init 40 = .ok (.aload_n 0, 1) := by decide +kernel
theorem dX1_init_41 : decode cX1_init 41 = .ok (.iload_n 3, 1) := by decide +kernel
theorem dX1_init_42 : decode cX1_init 42 = .ok (.putfield 34, 3) := by decide +kernel
theorem dX1_init_45 : decode cX1_init 45 = .ok (.return_, 1) := by decide +kernel
theorem dX1_passTo_0 : decode cX1_passTo 0 = .ok (.iload_n 1, 1) := by decide +kernel
theorem dX1_passTo_1 : decode cX1_passTo 1 = .ok (.invokestatic 37, 3) := by decide +kernel
theorem dX1_passTo_4 : decode cX1_passTo 4 = .ok (.ifCond .ne 4, 3) := by decide +kernel
theorem dX1_passTo_7 : decode cX1_passTo 7 = .ok (.return_, 1) := by decide +kernel
theorem dX1_passTo_8 : decode cX1_passTo 8 = .ok (.aload_n 0, 1) := by decide +kernel
theorem dX1_passTo_9 : decode cX1_passTo 9 = .ok (.getfield 11, 3) := by decide +kernel
theorem dX1_passTo_12 : decode cX1_passTo 12 = .ok (.iload_n 1, 1) := by decide +kernel
theorem dX1_passTo_13 : decode cX1_passTo 13 = .ok (.aaload, 1) := by decide +kernel
theorem dX1_passTo_14 : decode cX1_passTo 14 = .ok (.astore_n 3, 1) := by decide +kernel
theorem dX1_passTo_15 : decode cX1_passTo 15 = .ok (.aload_n 3, 1) := by decide +kernel
theorem dX1_passTo_16 : decode cX1_passTo 16 = .ok (.ifnull 13, 3) := by decide +kernel
theorem dX1_passTo_19 : decode cX1_passTo 19 = .ok (.aload_n 3, 1) := by decide +kernel
theorem dX1_passTo_20 : decode cX1_passTo 20 = .ok (.dup, 1) := by decide +kernel
theorem dX1_passTo_21 : decode cX1_passTo 21 = .ok (.getfield 41, 3) := by decide +kernel
theorem dX1_passTo_24 : decode cX1_passTo 24 = .ok (.iconst 1, 1) := by decide +kernel
theorem dX1_passTo_25 : decode cX1_passTo 25 = .ok (.isub, 1) := by decide +kernel
theorem dX1_passTo_26 : decode cX1_passTo 26 = .ok (.putfield 41, 3) := by decide +kernel
theorem dX1_passTo_29 : decode cX1_passTo 29 = .ok (.aload_n 2, 1) := by decide +kernel
theorem dX1_passTo_30 : decode cX1_passTo 30 = .ok (.ifnull 13, 3) := by decide +kernel
theorem dX1_passTo_33 : decode cX1_passTo 33 = .ok (.aload_n 2, 1) := by decide +kernel
theorem dX1_passTo_34 : decode cX1_passTo 34 = .ok (.dup, 1) := by decide +kernel
theorem dX1_passTo_35 : decode cX1_passTo 35 = .ok (.getfield 41, 3) := by decide +kernel
theorem dX1_passTo_38 : decode cX1_passTo 38 = .ok (.iconst 1, 1) := by decide +kernel
theorem dX1_passTo_39 : decode cX1_passTo 39 = .ok (.iadd, 1) := by decide +kernel
theorem dX1_passTo_40 : decode cX1_passTo 40 = .ok (.putfield 41, 3) := by decide +kernel
theorem dX1_passTo_43 : decode cX1_passTo 43 = .ok (.aload_n 0, 1) := by decide +kernel
theorem dX1_passTo_44 : decode cX1_passTo 44 = .ok (.getfield 11, 3) := by decide +kernel
theorem dX1_passTo_47 : decode cX1_passTo 47 = .ok (.iload_n 1, 1) := by decide +kernel
theorem dX1_passTo_48 : decode cX1_passTo 48 = .ok (.aload_n 2, 1) := by decide +kernel
theorem dX1_passTo_49 : decode cX1_passTo 49 = .ok (.aastore, 1) := by decide +kernel
theorem dX1_passTo_50 : decode cX1_passTo 50 = .ok (.return_, 1) := by decide +kernel
theorem dX1_beginYear_0 : decode cX1_beginYear 0 = .ok (.iconst 0, 1) := by decide +kernel
theorem dX1_beginYear_1 : decode cX1_beginYear 1 = .ok (.istore_n 1, 1) := by decide +kernel
theorem dX1_beginYear_2 : decode cX1_beginYear 2 = .ok (.iload_n 1, 1) := by decide +kernel
theorem dX1_beginYear_3 : decode cX1_beginYear 3 = .ok (.bipush 53, 2) := by decide +kernel
theorem dX1_beginYear_5 : decode cX1_beginYear 5 = .ok (.if_icmp .ge 23, 3) := by decide +kernel
theorem dX1_beginYear_8 : decode cX1_beginYear 8 = .ok (.aload_n 0, 1) := by decide +kernel
theorem dX1_beginYear_9 : decode cX1_beginYear 9 = .ok (.getfield 17, 3) := by decide +kernel
theorem dX1_beginYear_12 : decode cX1_beginYear 12 = .ok (.iload_n 1, 1) := by decide +kernel
theorem dX1_beginYear_13 : decode cX1_beginYear 13 = .ok (.iconst 0, 1) := by decide +kernel
theorem dX1_beginYear_14 : decode cX1_beginYear 14 = .ok (.bastore, 1) := by decide +kernel
theorem dX1_beginYear_15 : decode cX1_beginYear 15 = .ok (.aload_n 0, 1) := by decide +kernel
theorem dX1_beginYear_16 : decode cX1_beginYear 16 = .ok (.getfield 23, 3) := by decide +kernel
theorem dX1_beginYear_19 : decode cX1_beginYear 19 = .ok (.iload_n 1, 1) := by decide +kernel
theorem dX1_beginYear_20 : decode cX1_beginYear 20 = .ok (.aconst_null, 1) := by decide +kernel
theorem dX1_beginYear_21 : decode cX1_beginYear 21 = .ok (.aastore, 1) := by decide +kernel
theorem dX1_beginYear_22 : decode cX1_beginYear 22 = .ok (.iinc 1 1, 3) := by decide +kernel
theorem dX1_beginYear_25 : decode cX1_beginYear 25 = .ok (.goto (-23), 3) := by decide +kernel
theorem dX1_beginYear_28 : decode cX1_beginYear 28 = .ok (.return_, 1) := by decide +kernel
theorem dX2_init_0 : decode cX2_init 0 = .ok (.aload_n 0, 1) := by decide +kernel
theorem dX2_init_1 : decode cX2_init 1 = .ok (.invokespecial 3, 3) := by decide +kernel
theorem dX2_init_4 : decode cX2_init 4 = .ok (.aload_n 0, 1) := by decide +kernel
theorem dX2_init_5 : decode cX2_init 5 = .ok (.iconst 0, 1) := by decide +kernel
theorem dX2_init_6 : decode cX2_init 6 = .ok (.putfield 9, 3) := by decide +kernel
theorem dX2_init_9 : decode cX2_init 9 = .ok (.aload_n 0, 1) := by decide +kernel
theorem dX2_init_10 : decode cX2_init 10 = .ok (.iconst 0, 1) := by decide +kernel
theorem dX2_init_11 : decode cX2_init 11 = .ok (.putfield 15, 3) := by decide +kernel
theorem dX2_init_14 : decode cX2_init 14 = .ok (.aload_n 0, 1) := by decide +kernel
theorem dX2_init_15 : decode cX2_init 15 = .ok (.iconst 0, 1) := by decide +kernel
theorem dX2_init_16 : decode cX2_init 16 = .ok (.putfield 18, 3) := by decide +kernel
theorem dX2_init_19 : decode cX2_init 19 = .ok (.aload_n 0, 1) := by decide +kernel
theorem dX2_init_20 : decode cX2_init 20 = .ok (.aconst_null, 1) := by decide +kernel
theorem dX2_init_21 : decode cX2_init 21 = .ok (.putfield 21, 3) := by decide +kernel
theorem dX2_init_24 : decode cX2_init 24 = .ok (.aload_n 0, 1) := by decide +kernel
theorem dX2_init_25 : decode cX2_init 25 = .ok (.aconst_null, 1) := by decide +kernel
theorem dX2_init_26 : decode cX2_init 26 = .ok (.putfield 25, 3) := by decide +kernel
theorem dX2_init_29 : decode cX2_init 29 = .ok (.aload_n 0, 1) := by decide +kernel
theorem dX2_init_30 : decode cX2_init 30 = .ok (.aconst_null, 1) := by decide +kernel
theorem dX2_init_31 : decode cX2_init 31 = .ok (.putfield 29, 3) := by decide +kernel
theorem dX2_init_34 : decode cX2_init 34 = .ok (.aload_n 0, 1) := by decide +kernel
theorem dX2_init_35 : decode cX2_init 35 = .ok (.iload_n 1, 1) := by decide +kernel
theorem dX2_init_36 : decode cX2_init 36 = .ok (.putfield 33, 3) := by decide +kernel
theorem dX2_init_39 : decode cX2_init 39 = .ok (.aload_n 0, 1) := by decide +kernel
theorem dX2_init_40 : decode cX2_init 40 = .ok (.aload_n 2, 1) := by decide +kernel
theorem dX2_init_41 : decode cX2_init 41 = .ok (.putfield 36, 3) := by decide +kernel
theorem dX2_init_44 : decode cX2_init 44 = .ok (.aload_n 0, 1) := by decide +kernel
theorem dX2_init_45 : decode cX2_init 45 = .ok (.aload_n 3, 1) := by decide +kernel
theorem dX2_init_46 : decode cX2_init 46 = .ok (.putfield 39, 3) := by decide +kernel
theorem dX2_init_49 : decode cX2_init 49 = .ok (.aload_n 0, 1) := by decide +kernel
theorem dX2_init_50 : decode cX2_init 50 = .ok (.iload 4, 2) := by decide +kernel
theorem dX2_init_52 : decode cX2_init 52 = .ok (.putfield 43, 3) := by decide +kernel
theorem dX2_init_55 : decode cX2_init 55 = .ok (.return_, 1) := by decide +kernel
theorem dX2_isGot_0 : decode cX2_isGot 0 = .ok (.aload_n 0, 1) := by decide +kernel
theorem dX2_isGot_1 : decode cX2_isGot 1 = .ok (.getfield 18, 3) := by decide +kernel
theorem dX2_isGot_4 : decode cX2_isGot 4 = .ok (.iconst 1, 1) := by decide +kernel
theorem dX2_isGot_5 : decode cX2_isGot 5 = .ok (.if_icmp .eq 11, 3) := by decide +kernel
theorem dX2_isGot_8 : decode cX2_isGot 8 = .ok (.aload_n 0, 1) := by decide +kernel
theorem dX2_isGot_9 : decode cX2_isGot 9 = .ok (.getfield 18, 3) := by decide +kernel
theorem dX2_isGot_12 : decode cX2_isGot 12 = .ok (.iconst 3, 1) := by decide +kernel
theorem dX2_isGot_13 : decode cX2_isGot 13 = .ok (.if_icmp .ne 7, 3) := by decide +kernel
theorem dX2_isGot_16 : decode cX2_isGot 16 = .ok (.iconst 1, 1) := by decide +kernel
theorem dX2_isGot_17 : decode cX2_isGot 17 = .ok (.goto 4, 3) := by decide +kernel
theorem dX2_isGot_20 : decode cX2_isGot 20 = .ok (.iconst 0, 1) := by decide +kernel
theorem dX2_isGot_21 : decode cX2_isGot 21 = .ok (.ireturn, 1) := by decide +kernel
theorem dX2_isOut_0 : decode cX2_isOut 0 = .ok (.aload_n 0, 1) := by decide +kernel
theorem dX2_isOut_1 : decode cX2_isOut 1 = .ok (.getfield 18, 3) := by decide +kernel
theorem dX2_isOut_4 : decode cX2_isOut 4 = .ok (.ifCond .eq 18, 3) := by decide +kernel
theorem dX2_isOut_7 : decode cX2_isOut 7 = .ok (.aload_n 0, 1) := by decide +kernel
theorem dX2_isOut_8 : decode cX2_isOut 8 = .ok (.getfield 18, 3) := by decide +kernel
theorem dX2_isOut_11 : decode cX2_isOut 11 = .ok (.iconst 2, 1) := by decide +kernel
theorem dX2_isOut_12 : decode cX2_isOut 12 = .ok (.if_icmp .eq 10, 3) := by decide +kernel
theorem dX2_isOut_15 : decode cX2_isOut 15 = .ok (.aload_n 0, 1) := by decide +kernel
theorem dX2_isOut_16 : decode cX2_isOut 16 = .ok (.invokevirtual 46, 3) := by decide +kernel
theorem dX2_isOut_19 : decode cX2_isOut 19 = .ok (.ifCond .eq 7, 3) := by decide +kernel
theorem dX2_isOut_22 : decode cX2_isOut 22 = .ok (.iconst 1, 1) := by decide +kernel
theorem dX2_isOut_23 : decode cX2_isOut 23 = .ok (.goto 4, 3) := by decide +kernel
theorem dX2_isOut_26 : decode cX2_isOut 26 = .ok (.iconst 0, 1) := by decide +kernel
theorem dX2_isOut_27 : decode cX2_isOut 27 = .ok (.ireturn, 1) := by decide +kernel
theorem dX2_meets_0 : decode cX2_meets 0 = .ok (.aload_n 1, 1) := by decide +kernel
theorem dX2_meets_1 : decode cX2_meets 1 = .ok (.ifnonnull 5, 3) := by decide +kernel
theorem dX2_meets_4 : decode cX2_meets 4 = .ok (.iconst 0, 1) := by decide +kernel
theorem dX2_meets_5 : decode cX2_meets 5 = .ok (.ireturn, 1) := by decide +kernel
theorem dX2_meets_6 : decode cX2_meets 6 = .ok (.aload_n 1, 1) := by decide +kernel
theorem dX2_meets_7 : decode cX2_meets 7 = .ok (.getfield 50, 3) := by decide +kernel
theorem dX2_meets_10 : decode cX2_meets 10 = .ok (.iconst (-1), 1) := by decide +kernel
theorem dX2_meets_11 : decode cX2_meets 11 = .ok (.if_icmp .eq 17, 3) := by decide +kernel
theorem dX2_meets_14 : decode cX2_meets 14 = .ok (.aload_n 1, 1) := by decide +kernel
theorem dX2_meets_15 : decode cX2_meets 15 = .ok (.getfield 50, 3) := by decide +kernel
theorem dX2_meets_18 : decode cX2_meets 18 = .ok (.aload_n 0, 1) := by decide +kernel
theorem dX2_meets_19 : decode cX2_meets 19 = .ok (.getfield 39, 3) := by decide +kernel
theorem dX2_meets_22 : decode cX2_meets 22 = .ok (.getfield 55, 3) := by decide +kernel
theorem dX2_meets_25 : decode cX2_meets 25 = .ok (.if_icmp .ne 7, 3) := by decide +kernel
theorem dX2_meets_28 : decode cX2_meets 28 = .ok (.iconst 1, 1) := by decide +kernel
theorem dX2_meets_29 : decode cX2_meets 29 = .ok (.goto 4, 3) := by decide +kernel
theorem dX2_meets_32 : decode cX2_meets 32 = .ok (.iconst 0, 1) := by decide +kernel
theorem dX2_meets_33 : decode cX2_meets 33 = .ok (.istore_n 2, 1) := by decide +kernel
theorem dX2_meets_34 : decode cX2_meets 34 = .ok (.iload_n 2, 1) := by decide +kernel
theorem dX2_meets_35 : decode cX2_meets 35 = .ok (.ifCond .eq 43, 3) := by decide +kernel
theorem dX2_meets_38 : decode cX2_meets 38 = .ok (.aload_n 0, 1) := by decide +kernel
theorem dX2_meets_39 : decode cX2_meets 39 = .ok (.getfield 43, 3) := by decide +kernel
theorem dX2_meets_42 : decode cX2_meets 42 = .ok (.aload_n 1, 1) := by decide +kernel
theorem dX2_meets_43 : decode cX2_meets 43 = .ok (.getfield 58, 3) := by decide +kernel
theorem dX2_meets_46 : decode cX2_meets 46 = .ok (.if_icmp .lt 32, 3) := by decide +kernel
theorem dX2_meets_49 : decode cX2_meets 49 = .ok (.aload_n 0, 1) := by decide +kernel
theorem dX2_meets_50 : decode cX2_meets 50 = .ok (.getfield 43, 3) := by decide +kernel
theorem dX2_meets_53 : decode cX2_meets 53 = .ok (.aload_n 1, 1) := by decide +kernel
theorem dX2_meets_54 : decode cX2_meets 54 = .ok (.getfield 61, 3) := by decide +kernel
theorem dX2_meets_57 : decode cX2_meets 57 = .ok (.if_icmp .gt 21, 3) := by decide +kernel
theorem dX2_meets_60 : decode cX2_meets 60 = .ok (.aload_n 0, 1) := by decide +kernel
theorem dX2_meets_61 : decode cX2_meets 61 = .ok (.getfield 39, 3) := by decide +kernel
theorem dX2_meets_64 : decode cX2_meets 64 = .ok (.getfield 64, 3) := by decide +kernel
theorem dX2_meets_67 : decode cX2_meets 67 = .ok (.aload_n 1, 1) := by decide +kernel
theorem dX2_meets_68 : decode cX2_meets 68 = .ok (.getfield 67, 3) := by decide +kernel
theorem dX2_meets_71 : decode cX2_meets 71 = .ok (.if_icmp .lt 7, 3) := by decide +kernel
theorem dX2_meets_74 : decode cX2_meets 74 = .ok (.iconst 1, 1) := by decide +kernel
theorem dX2_meets_75 : decode cX2_meets 75 = .ok (.goto 4, 3) := by decide +kernel
theorem dX2_meets_78 : decode cX2_meets 78 = .ok (.iconst 0, 1) := by decide +kernel
theorem dX2_meets_79 : decode cX2_meets 79 = .ok (.ireturn, 1) := by decide +kernel
theorem dX2_goTo_0 : decode cX2_goTo 0 = .ok (.aload_n 0, 1) := by decide +kernel
theorem dX2_goTo_1 : decode cX2_goTo 1 = .ok (.iconst 3, 1) := by decide +kernel
theorem dX2_goTo_2 : decode cX2_goTo 2 = .ok (.putfield 18, 3) := by decide +kernel
theorem dX2_goTo_5 : decode cX2_goTo 5 = .ok (.aload_n 0, 1) := by decide +kernel
theorem dX2_goTo_6 : decode cX2_goTo 6 = .ok (.aload_n 1, 1) := by decide +kernel
theorem dX2_goTo_7 : decode cX2_goTo 7 = .ok (.putfield 29, 3) := by decide +kernel
theorem dX2_goTo_10 : decode cX2_goTo 10 = .ok (.aload_n 1, 1) := by decide +kernel
theorem dX2_goTo_11 : decode cX2_goTo 11 = .ok (.dup, 1) := by decide +kernel
theorem dX2_goTo_12 : decode cX2_goTo 12 = .ok (.getfield 70, 3) := by decide +kernel
theorem dX2_goTo_15 : decode cX2_goTo 15 = .ok (.aload_n 0, 1) := by decide +kernel
theorem dX2_goTo_16 : decode cX2_goTo 16 = .ok (.getfield 15, 3) := by decide +kernel
theorem dX2_goTo_19 : decode cX2_goTo 19 = .ok (.isub, 1) := by decide +kernel
theorem dX2_goTo_20 : decode cX2_goTo 20 = .ok (.putfield 70, 3) := by decide +kernel
theorem dX2_goTo_23 : decode cX2_goTo 23 = .ok (.return_, 1) := by decide +kernel
theorem dX2_endByShutting_0 : decode cX2_endByShutting 0 = .ok (.aload_n 0, 1) := by decide +kernel
theorem dX2_endByShutting_1 : decode cX2_endByShutting 1 = .ok (.invokevirtual 46, 3) := by decide +kernel
theorem dX2_endByShutting_4 : decode cX2_endByShutting 4 = .ok (.ifCond .eq 32, 3) := by decide +kernel
theorem dX2_endByShutting_7 : decode cX2_endByShutting 7 = .ok (.aload_n 0, 1) := by decide +kernel
theorem dX2_endByShutting_8 : decode cX2_endByShutting 8 = .ok (.getfield 29, 3) := by decide +kernel
theorem dX2_endByShutting_11 : decode cX2_endByShutting 11 = .ok (.ifnull 19, 3) := by decide +kernel
theorem dX2_endByShutting_14 : decode cX2_endByShutting 14 = .ok (.aload_n 0, 1) := by decide +kernel
theorem dX2_endByShutting_15 : decode cX2_endByShutting 15 = .ok (.getfield 29, 3) := by decide +kernel
theorem dX2_endByShutting_18 : decode cX2_endByShutting 18 = .ok (.dup, 1) := by decide +kernel
theorem dX2_endByShutting_19 : decode cX2_endByShutting 19 = .ok (.getfield 70, 3) := by decide +kernel
theorem dX2_endByShutting_22 : decode cX2_endByShutting 22 = .ok (.aload_n 0, 1) := by decide +kernel
theorem dX2_endByShutting_23 : decode cX2_endByShutting 23 = .ok (.getfield 15, 3) := by decide +kernel
theorem dX2_endByShutting_26 : decode cX2_endByShutting 26 = .ok (.iadd, 1) := by decide +kernel
theorem dX2_endByShutting_27 : decode cX2_endByShutting 27 = .ok (.putfield 70, 3) := by decide +kernel
theorem dX2_endByShutting_30 : decode cX2_endByShutting 30 = .ok (.aload_n 0, 1) := by decide +kernel
theorem dX2_endByShutting_31 : decode cX2_endByShutting 31 = .ok (.iconst 5, 1) := by decide +kernel
theorem dX2_endByShutting_32 : decode cX2_endByShutting 32 = .ok (.putfield 18, 3) := by decide +kernel
theorem dX2_endByShutting_35 : decode cX2_endByShutting 35 = .ok (.return_, 1) := by decide +kernel
theorem dX2_endByShutting_36 : decode cX2_endByShutting 36 = .ok (.aload_n 0, 1) := by decide +kernel
theorem dX2_endByShutting_37 : decode cX2_endByShutting 37 = .ok (.getfield 18, 3) := by decide +kernel
theorem dX2_endByShutting_40 : decode cX2_endByShutting 40 = .ok (.iconst 2, 1) := by decide +kernel
theorem dX2_endByShutting_41 : decode cX2_endByShutting 41 = .ok (.if_icmp .ne 26, 3) := by decide +kernel
theorem dX2_endByShutting_44 : decode cX2_endByShutting 44 = .ok (.aload_n 0, 1) := by decide +kernel
theorem dX2_endByShutting_45 : decode cX2_endByShutting 45 = .ok (.getfield 36, 3) := by decide +kernel
theorem dX2_endByShutting_48 : decode cX2_endByShutting 48 = .ok (.iconst 0, 1) := by decide +kernel
theorem dX2_endByShutting_49 : decode cX2_endByShutting 49 = .ok (.aload_n 0, 1) := by decide +kernel
theorem dX2_endByShutting_50 : decode cX2_endByShutting 50 = .ok (.getfield 36, 3) := by decide +kernel
theorem dX2_endByShutting_53 : decode cX2_endByShutting 53 = .ok (.getfield 70, 3) := by decide +kernel
theorem dX2_endByShutting_56 : decode cX2_endByShutting 56 = .ok (.aload_n 0, 1) := by decide +kernel
theorem dX2_endByShutting_57 : decode cX2_endByShutting 57 = .ok (.getfield 15, 3) := by decide +kernel
theorem dX2_endByShutting_60 : decode cX2_endByShutting 60 = .ok (.isub, 1) := by decide +kernel
theorem dX2_endByShutting_61 : decode cX2_endByShutting 61 = .ok (.invokestatic 75, 3) := by decide +kernel
theorem dX2_endByShutting_64 : decode cX2_endByShutting 64 = .ok (.putfield 70, 3) := by decide +kernel
theorem dX2_endByShutting_67 : decode cX2_endByShutting 67 = .ok (.aload_n 0, 1) := by decide +kernel
theorem dX2_endByShutting_68 : decode cX2_endByShutting 68 = .ok (.iconst 4, 1) := by decide +kernel
theorem dX2_endByShutting_69 : decode cX2_endByShutting 69 = .ok (.putfield 18, 3) := by decide +kernel
theorem dX2_endByShutting_72 : decode cX2_endByShutting 72 = .ok (.return_, 1) := by decide +kernel
theorem dX3_init_0 : decode cX3_init 0 = .ok (.aload_n 0, 1) := by decide +kernel
theorem dX3_init_1 : decode cX3_init 1 = .ok (.invokespecial 1, 3) := by decide +kernel
theorem dX3_init_4 : decode cX3_init 4 = .ok (.aload_n 0, 1) := by decide +kernel
theorem dX3_init_5 : decode cX3_init 5 = .ok (.iconst 0, 1) := by decide +kernel
theorem dX3_init_6 : decode cX3_init 6 = .ok (.putfield 7, 3) := by decide +kernel
theorem dX3_init_9 : decode cX3_init 9 = .ok (.aload_n 0, 1) := by decide +kernel
theorem dX3_init_10 : decode cX3_init 10 = .ok (.iconst 0, 1) := by decide +kernel
theorem dX3_init_11 : decode cX3_init 11 = .ok (.putfield 13, 3) := by decide +kernel
theorem dX3_init_14 : decode cX3_init 14 = .ok (.aload_n 0, 1) := by decide +kernel
theorem dX3_init_15 : decode cX3_init 15 = .ok (.iconst 0, 1) := by decide +kernel
theorem dX3_init_16 : decode cX3_init 16 = .ok (.putfield 16, 3) := by decide +kernel
theorem dX3_init_19 : decode cX3_init 19 = .ok (.aload_n 0, 1) := by decide +kernel
theorem dX3_init_20 : decode cX3_init 20 = .ok (.iconst 0, 1) := by decide +kernel
theorem dX3_init_21 : decode cX3_init 21 = .ok (.putfield 19, 3) := by decide +kernel
theorem dX3_init_24 : decode cX3_init 24 = .ok (.aload_n 0, 1) := by decide +kernel
theorem dX3_init_25 : decode cX3_init 25 = .ok (.iconst 0, 1) := by decide +kernel
theorem dX3_init_26 : decode cX3_init 26 = .ok (.putfield 23, 3) := by decide +kernel
theorem dX3_init_29 : decode cX3_init 29 = .ok (.aload_n 0, 1) := by decide +kernel
theorem dX3_init_30 : decode cX3_init 30 = .ok (.aconst_null, 1) := by decide +kernel
theorem dX3_init_31 : decode cX3_init 31 = .ok (.putfield 26, 3) := by decide +kernel
theorem dX3_init_34 : decode cX3_init 34 = .ok (.aload_n 0, 1) := by decide +kernel
theorem dX3_init_35 : decode cX3_init 35 = .ok (.iload_n 1, 1) := by decide +kernel
theorem dX3_init_36 : decode cX3_init 36 = .ok (.putfield 30, 3) := by decide +kernel
theorem dX3_init_39 : decode cX3_init 39 = .ok (.aload_n 0, 1) := by decide +kernel
theorem dX3_init_40 : decode cX3_init 40 = .ok (.iload_n 2, 1) := by decide +kernel
theorem dX3_init_41 : decode cX3_init 41 = .ok (.putfield 33, 3) := by decide +kernel
theorem dX3_init_44 : decode cX3_init 44 = .ok (.return_, 1) := by decide +kernel
theorem dX4_init_0 : decode cX4_init 0 = .ok (.aload_n 0, 1) := by decide +kernel
theorem dX4_init_1 : decode cX4_init 1 = .ok (.invokespecial 3, 3) := by decide +kernel
theorem dX4_init_4 : decode cX4_init 4 = .ok (.aload_n 0, 1) := by decide +kernel
theorem dX4_init_5 : decode cX4_init 5 = .ok (.sipush 300, 3) := by decide +kernel
theorem dX4_init_8 : decode cX4_init 8 = .ok (.newarray .int, 2) := by decide +kernel
theorem dX4_init_10 : decode cX4_init 10 = .ok (.putfield 9, 3) := by decide +kernel
theorem dX4_init_13 : decode cX4_init 13 = .ok (.aload_n 0, 1) := by decide +kernel
theorem dX4_init_14 : decode cX4_init 14 = .ok (.iconst 0, 1) := by decide +kernel
theorem dX4_init_15 : decode cX4_init 15 = .ok (.putfield 15, 3) := by decide +kernel
theorem dX4_init_18 : decode cX4_init 18 = .ok (.aload_n 0, 1) := by decide +kernel
theorem dX4_init_19 : decode cX4_init 19 = .ok (.iconst 0, 1) := by decide +kernel
theorem dX4_init_20 : decode cX4_init 20 = .ok (.putfield 19, 3) := by decide +kernel
theorem dX4_init_23 : decode cX4_init 23 = .ok (.aload_n 0, 1) := by decide +kernel
theorem dX4_init_24 : decode cX4_init 24 = .ok (.iconst (-1), 1) := by decide +kernel
theorem dX4_init_25 : decode cX4_init 25 = .ok (.putfield 22, 3) := by decide +kernel
theorem dX4_init_28 : decode cX4_init 28 = .ok (.aload_n 0, 1) := by decide +kernel
theorem dX4_init_29 : decode cX4_init 29 = .ok (.iconst 0, 1) := by decide +kernel
theorem dX4_init_30 : decode cX4_init 30 = .ok (.putfield 25, 3) := by decide +kernel
theorem dX4_init_33 : decode cX4_init 33 = .ok (.aload_n 0, 1) := by decide +kernel
theorem dX4_init_34 : decode cX4_init 34 = .ok (.iconst 0, 1) := by decide +kernel
theorem dX4_init_35 : decode cX4_init 35 = .ok (.putfield 28, 3) := by decide +kernel
theorem dX4_init_38 : decode cX4_init 38 = .ok (.aload_n 0, 1) := by decide +kernel
theorem dX4_init_39 : decode cX4_init 39 = .ok (.iconst 0, 1) := by decide +kernel
theorem dX4_init_40 : decode cX4_init 40 = .ok (.putfield 31, 3) := by decide +kernel
theorem dX4_init_43 : decode cX4_init 43 = .ok (.aload_n 0, 1) := by decide +kernel
theorem dX4_init_44 : decode cX4_init 44 = .ok (.iconst 0, 1) := by decide +kernel
theorem dX4_init_45 : decode cX4_init 45 = .ok (.putfield 34, 3) := by decide +kernel
theorem dX4_init_48 : decode cX4_init 48 = .ok (.return_, 1) := by decide +kernel
theorem dX4_addBytes_0 : decode cX4_addBytes 0 = .ok (.bipush 24, 2) := by decide +kernel
theorem dX4_addBytes_2 : decode cX4_addBytes 2 = .ok (.istore_n 2, 1) := by decide +kernel
theorem dX4_addBytes_3 : decode cX4_addBytes 3 = .ok (.iload_n 2, 1) := by decide +kernel
theorem dX4_addBytes_4 : decode cX4_addBytes 4 = .ok (.ifCond .lt 45, 3) := by decide +kernel
theorem dX4_addBytes_7 : decode cX4_addBytes 7 = .ok (.aload_n 0, 1) := by decide +kernel
theorem dX4_addBytes_8 : decode cX4_addBytes 8 = .ok (.getfield 15, 3) := by decide +kernel
theorem dX4_addBytes_11 : decode cX4_addBytes 11 = .ok (.sipush 300, 3) := by decide +kernel
theorem dX4_addBytes_14 : decode cX4_addBytes 14 = .ok (.if_icmp .ge 29, 3) := by decide +kernel
theorem dX4_addBytes_17 : decode cX4_addBytes 17 = .ok (.aload_n 0, 1) := by decide +kernel
theorem dX4_addBytes_18 : decode cX4_addBytes 18 = .ok (.getfield 9, 3) := by decide +kernel
theorem dX4_addBytes_21 : decode cX4_addBytes 21 = .ok (.aload_n 0, 1) := by decide +kernel
theorem dX4_addBytes_22 : decode cX4_addBytes 22 = .ok (.getfield 15, 3) := by decide +kernel
theorem dX4_addBytes_25 : decode cX4_addBytes 25 = .ok (.iload_n 1, 1) := by decide +kernel
theorem dX4_addBytes_26 : decode cX4_addBytes 26 = .ok (.iload_n 2, 1) := by decide +kernel
theorem dX4_addBytes_27 : decode cX4_addBytes 27 = .ok (.iushr, 1) := by decide +kernel
theorem dX4_addBytes_28 : decode cX4_addBytes 28 = .ok (.sipush 255, 3) := by decide +kernel
theorem dX4_addBytes_31 : decode cX4_addBytes 31 = .ok (.iand, 1) := by decide +kernel
theorem dX4_addBytes_32 : decode cX4_addBytes 32 = .ok (.iastore, 1) := by decide +kernel
theorem dX4_addBytes_33 : decode cX4_addBytes 33 = .ok (.aload_n 0, 1) := by decide +kernel
theorem dX4_addBytes_34 : decode cX4_addBytes 34 = .ok (.dup, 1) := by decide +kernel
theorem dX4_addBytes_35 : decode cX4_addBytes 35 = .ok (.getfield 15, 3) := by decide +kernel
theorem dX4_addBytes_38 : decode cX4_addBytes 38 = .ok (.iconst 1, 1) := by decide +kernel
theorem dX4_addBytes_39 : decode cX4_addBytes 39 = .ok (.iadd, 1) := by decide +kernel
theorem dX4_addBytes_40 : decode cX4_addBytes 40 = .ok (.putfield 15, 3) := by decide +kernel
theorem dX4_addBytes_43 : decode cX4_addBytes 43 = .ok (.iinc 2 (-8), 3) := by decide +kernel
theorem dX4_addBytes_46 : decode cX4_addBytes 46 = .ok (.goto (-43), 3) := by decide +kernel
theorem dX4_addBytes_49 : decode cX4_addBytes 49 = .ok (.return_, 1) := by decide +kernel
theorem dX4_readInto_0 : decode cX4_readInto 0 = .ok (.aload_n 1, 1) := by decide +kernel
theorem dX4_readInto_1 : decode cX4_readInto 1 = .ok (.invokevirtual 37, 3) := by decide +kernel
theorem dX4_readInto_4 : decode cX4_readInto 4 = .ok (.aload_n 0, 1) := by decide +kernel
theorem dX4_readInto_5 : decode cX4_readInto 5 = .ok (.iconst 0, 1) := by decide +kernel
theorem dX4_readInto_6 : decode cX4_readInto 6 = .ok (.putfield 19, 3) := by decide +kernel
theorem dX4_readInto_9 : decode cX4_readInto 9 = .ok (.aload_n 0, 1) := by decide +kernel
theorem dX4_readInto_10 : decode cX4_readInto 10 = .ok (.iconst (-1), 1) := by decide +kernel
theorem dX4_readInto_11 : decode cX4_readInto 11 = .ok (.putfield 22, 3) := by decide +kernel
theorem dX4_readInto_14 : decode cX4_readInto 14 = .ok (.aload_n 0, 1) := by decide +kernel
theorem dX4_readInto_15 : decode cX4_readInto 15 = .ok (.iconst 0, 1) := by decide +kernel
theorem dX4_readInto_16 : decode cX4_readInto 16 = .ok (.putfield 25, 3) := by decide +kernel
theorem dX4_readInto_19 : decode cX4_readInto 19 = .ok (.aload_n 0, 1) := by decide +kernel
theorem dX4_readInto_20 : decode cX4_readInto 20 = .ok (.invokevirtual 42, 3) := by decide +kernel
theorem dX4_readInto_23 : decode cX4_readInto 23 = .ok (.iconst 0, 1) := by decide +kernel
theorem dX4_readInto_24 : decode cX4_readInto 24 = .ok (.istore_n 2, 1) := by decide +kernel
theorem dX4_readInto_25 : decode cX4_readInto 25 = .ok (.iload_n 2, 1) := by decide +kernel
theorem dX4_readInto_26 : decode cX4_readInto 26 = .ok (.bipush 30, 2) := by decide +kernel
theorem dX4_readInto_28 : decode cX4_readInto 28 = .ok (.if_icmp .gt 28, 3) := by decide +kernel
theorem dX4_readInto_31 : decode cX4_readInto 31 = .ok (.aload_n 0, 1) := by decide +kernel
theorem dX4_readInto_32 : decode cX4_readInto 32 = .ok (.getfield 28, 3) := by decide +kernel
theorem dX4_readInto_35 : decode cX4_readInto 35 = .ok (.ifCond .eq 21, 3) := by decide +kernel
theorem dX4_readInto_38 : decode cX4_readInto 38 = .ok (.aload_n 0, 1) := by decide +kernel
theorem dX4_readInto_39 : decode cX4_readInto 39 = .ok (.getfield 19, 3) := by decide +kernel
theorem dX4_readInto_42 : decode cX4_readInto 42 = .ok (.ifCond .ne 14, 3) := by decide +kernel
theorem dX4_readInto_45 : decode cX4_readInto 45 = .ok (.aload_n 0, 1) := by decide +kernel
theorem dX4_readInto_46 : decode cX4_readInto 46 = .ok (.aload_n 1, 1) := by decide +kernel
theorem dX4_readInto_47 : decode cX4_readInto 47 = .ok (.invokevirtual 45, 3) := by decide +kernel
theorem dX4_readInto_50 : decode cX4_readInto 50 = .ok (.iinc 2 1, 3) := by decide +kernel
theorem dX4_readInto_53 : decode cX4_readInto 53 = .ok (.goto (-28), 3) := by decide +kernel
theorem dX4_readInto_56 : decode cX4_readInto 56 = .ok (.return_, 1) := by decide +kernel
theorem dX4_readStatement_0 : decode cX4_readStatement 0 = .ok (.aload_n 0, 1) := by decide +kernel
theorem dX4_readStatement_1 : decode cX4_readStatement 1 = .ok (.invokevirtual 49, 3) := by decide +kernel
theorem dX4_readStatement_4 : decode cX4_readStatement 4 = .ok (.istore_n 2, 1) := by decide +kernel
theorem dX4_readStatement_5 : decode cX4_readStatement 5 = .ok (.iload_n 2, 1) := by decide +kernel
theorem dX4_readStatement_6 : decode cX4_readStatement 6 = .ok (.ifCond .ne 9, 3) := by decide +kernel
theorem dX4_readStatement_9 : decode cX4_readStatement 9 = .ok (.aload_n 0, 1) := by decide +kernel
theorem dX4_readStatement_10 : decode cX4_readStatement 10 = .ok (.iconst 1, 1) := by decide +kernel
theorem dX4_readStatement_11 : decode cX4_readStatement 11 = .ok (.invokevirtual 53, 3) := by decide +kernel
theorem dX4_readStatement_14 : decode cX4_readStatement 14 = .ok (.return_, 1) := by decide +kernel
theorem dX4_readStatement_15 : decode cX4_readStatement 15 = .ok (.aload_n 1, 1) := by decide +kernel
theorem dX4_readStatement_16 : decode cX4_readStatement 16 = .ok (.getfield 57, 3) := by decide +kernel
theorem dX4_readStatement_19 : decode cX4_readStatement 19 = .ok (.bipush 30, 2) := by decide +kernel
theorem dX4_readStatement_21 : decode cX4_readStatement 21 = .ok (.if_icmp .lt 9, 3) := by decide +kernel
theorem dX4_readStatement_24 : decode cX4_readStatement 24 = .ok (.aload_n 0, 1) := by decide +kernel
theorem dX4_readStatement_25 : decode cX4_readStatement 25 = .ok (.iconst 3, 1) := by decide +kernel
theorem dX4_readStatement_26 : decode cX4_readStatement 26 = .ok (.invokevirtual 53, 3) := by decide +kernel
theorem dX4_readStatement_29 : decode cX4_readStatement 29 = .ok (.return_, 1) := by decide +kernel
theorem dX4_readStatement_30 : decode cX4_readStatement 30 = .ok (.aload_n 0, 1) := by decide +kernel
theorem dX4_readStatement_31 : decode cX4_readStatement 31 = .ok (.invokevirtual 42, 3) := by decide +kernel
theorem dX4_readStatement_34 : decode cX4_readStatement 34 = .ok (.aload_n 0, 1) := by decide +kernel
theorem dX4_readStatement_35 : decode cX4_readStatement 35 = .ok (.aload_n 1, 1) := by decide +kernel
theorem dX4_readStatement_36 : decode cX4_readStatement 36 = .ok (.iload_n 2, 1) := by decide +kernel
theorem dX4_readStatement_37 : decode cX4_readStatement 37 = .ok (.invokevirtual 60, 3) := by decide +kernel
theorem dX4_readStatement_40 : decode cX4_readStatement 40 = .ok (.aload_n 0, 1) := by decide +kernel
theorem dX4_readStatement_41 : decode cX4_readStatement 41 = .ok (.invokevirtual 64, 3) := by decide +kernel
theorem dX4_readStatement_44 : decode cX4_readStatement 44 = .ok (.aload_n 1, 1) := by decide +kernel
theorem dX4_readStatement_45 : decode cX4_readStatement 45 = .ok (.dup, 1) := by decide +kernel
theorem dX4_readStatement_46 : decode cX4_readStatement 46 = .ok (.getfield 57, 3) := by decide +kernel
theorem dX4_readStatement_49 : decode cX4_readStatement 49 = .ok (.iconst 1, 1) := by decide +kernel
theorem dX4_readStatement_50 : decode cX4_readStatement 50 = .ok (.iadd, 1) := by decide +kernel
theorem dX4_readStatement_51 : decode cX4_readStatement 51 = .ok (.putfield 57, 3) := by decide +kernel
theorem dX4_readStatement_54 : decode cX4_readStatement 54 = .ok (.return_, 1) := by decide +kernel
theorem dX4_statementKind_0 : decode cX4_statementKind 0 = .ok (.aload_n 0, 1) := by decide +kernel
theorem dX4_statementKind_1 : decode cX4_statementKind 1 = .ok (.ldc 67, 2) := by decide +kernel
theorem dX4_statementKind_3 : decode cX4_statementKind 3 = .ok (.invokevirtual 69, 3) := by decide +kernel
theorem dX4_statementKind_6 : decode cX4_statementKind 6 = .ok (.ifCond .eq 5, 3) := by decide +kernel
theorem dX4_statementKind_9 : decode cX4_statementKind 9 = .ok (.iconst 1, 1) := by decide +kernel
theorem dX4_statementKind_10 : decode cX4_statementKind 10 = .ok (.ireturn, 1) := by decide +kernel
theorem dX4_statementKind_11 : decode cX4_statementKind 11 = .ok (.aload_n 0, 1) := by decide +kernel
theorem dX4_statementKind_12 : decode cX4_statementKind 12 = .ok (.ldc 73, 2) := by decide +kernel
theorem dX4_statementKind_14 : decode cX4_statementKind 14 = .ok (.invokevirtual 69, 3) := by decide +kernel
theorem dX4_statementKind_17 : decode cX4_statementKind 17 = .ok (.ifCond .eq 5, 3) := by decide +kernel
theorem dX4_statementKind_20 : decode cX4_statementKind 20 = .ok (.iconst 2, 1) := by decide +kernel
theorem dX4_statementKind_21 : decode cX4_statementKind 21 = .ok (.ireturn, 1) := by decide +kernel
theorem dX4_statementKind_22 : decode cX4_statementKind 22 = .ok (.aload_n 0, 1) := by decide +kernel
theorem dX4_statementKind_23 : decode cX4_statementKind 23 = .ok (.ldc 75, 2) := by decide +kernel
theorem dX4_statementKind_25 : decode cX4_statementKind 25 = .ok (.invokevirtual 69, 3) := by decide +kernel
theorem dX4_statementKind_28 : decode cX4_statementKind 28 = .ok (.ifCond .eq 5, 3) := by decide +kernel
theorem dX4_statementKind_31 : decode cX4_statementKind 31 = .ok (.iconst 3, 1) := by decide +kernel
theorem dX4_statementKind_32 : decode cX4_statementKind 32 = .ok (.ireturn, 1) := by decide +kernel
theorem dX4_statementKind_33 : decode cX4_statementKind 33 = .ok (.aload_n 0, 1) := by decide +kernel
theorem dX4_statementKind_34 : decode cX4_statementKind 34 = .ok (.ldc 77, 2) := by decide +kernel
theorem dX4_statementKind_36 : decode cX4_statementKind 36 = .ok (.invokevirtual 69, 3) := by decide +kernel
theorem dX4_statementKind_39 : decode cX4_statementKind 39 = .ok (.ifCond .eq 7, 3) := by decide +kernel
theorem dX4_statementKind_42 : decode cX4_statementKind 42 = .ok (.iconst 4, 1) := by decide +kernel
theorem dX4_statementKind_43 : decode cX4_statementKind 43 = .ok (.goto 4, 3) := by decide +kernel
theorem dX4_statementKind_46 : decode cX4_statementKind 46 = .ok (.iconst 0, 1) := by decide +kernel
theorem dX4_statementKind_47 : decode cX4_statementKind 47 = .ok (.ireturn, 1) := by decide +kernel
theorem dX4_readRest_0 : decode cX4_readRest 0 = .ok (.iload_n 2, 1) := by decide +kernel
theorem dX4_readRest_1 : decode cX4_readRest 1 = .ok (.tableswitch 113 1 3 #[27, 62, 87], 27) := by decide +kernel
theorem dX4_readRest_28 : decode cX4_readRest 28 = .ok (.aload_n 0, 1) := by decide +kernel
theorem dX4_readRest_29 : decode cX4_readRest 29 = .ok (.iconst 0, 1) := by decide +kernel
theorem dX4_readRest_30 : decode cX4_readRest 30 = .ok (.bipush 52, 2) := by decide +kernel
theorem dX4_readRest_32 : decode cX4_readRest 32 = .ok (.invokevirtual 79, 3) := by decide +kernel
theorem dX4_readRest_35 : decode cX4_readRest 35 = .ok (.istore_n 3, 1) := by decide +kernel
theorem dX4_readRest_36 : decode cX4_readRest 36 = .ok (.aload_n 0, 1) := by decide +kernel
theorem dX4_readRest_37 : decode cX4_readRest 37 = .ok (.iload_n 3, 1) := by decide +kernel
theorem dX4_readRest_38 : decode cX4_readRest 38 = .ok (.bipush 52, 2) := by decide +kernel
theorem dX4_readRest_40 : decode cX4_readRest 40 = .ok (.invokevirtual 79, 3) := by decide +kernel
theorem dX4_readRest_43 : decode cX4_readRest 43 = .ok (.istore 4, 2) := by decide +kernel
theorem dX4_readRest_45 : decode cX4_readRest 45 = .ok (.aload_n 1, 1) := by decide +kernel
theorem dX4_readRest_46 : decode cX4_readRest 46 = .ok (.iload_n 3, 1) := by decide +kernel
theorem dX4_readRest_47 : decode cX4_readRest 47 = .ok (.iload 4, 2) := by decide +kernel
theorem dX4_readRest_49 : decode cX4_readRest 49 = .ok (.aload_n 0, 1) := by decide +kernel
theorem dX4_readRest_50 : decode cX4_readRest 50 = .ok (.iconst 0, 1) := by decide +kernel
theorem dX4_readRest_51 : decode cX4_readRest 51 = .ok (.sipush 9999, 3) := by decide +kernel
theorem dX4_readRest_54 : decode cX4_readRest 54 = .ok (.invokevirtual 79, 3) := by decide +kernel
theorem dX4_readRest_57 : decode cX4_readRest 57 = .ok (.invokevirtual 83, 3) := by decide +kernel
theorem dX4_readRest_60 : decode cX4_readRest 60 = .ok (.goto 62, 3) := by decide +kernel
theorem dX4_readRest_63 : decode cX4_readRest 63 = .ok (.aload_n 0, 1) := by decide +kernel
theorem dX4_readRest_64 : decode cX4_readRest 64 = .ok (.iconst 1, 1) := by decide +kernel
theorem dX4_readRest_65 : decode cX4_readRest 65 = .ok (.iconst 4, 1) := by decide +kernel
theorem dX4_readRest_66 : decode cX4_readRest 66 = .ok (.invokevirtual 79, 3) := by decide +kernel
theorem dX4_readRest_69 : decode cX4_readRest 69 = .ok (.istore 5, 2) := by decide +kernel
theorem dX4_readRest_71 : decode cX4_readRest 71 = .ok (.aload_n 1, 1) := by decide +kernel
theorem dX4_readRest_72 : decode cX4_readRest 72 = .ok (.iload 5, 2) := by decide +kernel
theorem dX4_readRest_74 : decode cX4_readRest 74 = .ok (.aload_n 0, 1) := by decide +kernel
theorem dX4_readRest_75 : decode cX4_readRest 75 = .ok (.iconst 0, 1) := by decide +kernel
theorem dX4_readRest_76 : decode cX4_readRest 76 = .ok (.sipush 9999, 3) := by decide +kernel
theorem dX4_readRest_79 : decode cX4_readRest 79 = .ok (.invokevirtual 79, 3) := by decide +kernel
theorem dX4_readRest_82 : decode cX4_readRest 82 = .ok (.invokevirtual 87, 3) := by decide +kernel
theorem dX4_readRest_85 : decode cX4_readRest 85 = .ok (.goto 37, 3) := by decide +kernel
theorem dX4_readRest_88 : decode cX4_readRest 88 = .ok (.aload_n 0, 1) := by decide +kernel
theorem dX4_readRest_89 : decode cX4_readRest 89 = .ok (.iconst 0, 1) := by decide +kernel
theorem dX4_readRest_90 : decode cX4_readRest 90 = .ok (.bipush 52, 2) := by decide +kernel
theorem dX4_readRest_92 : decode cX4_readRest 92 = .ok (.invokevirtual 79, 3) := by decide +kernel
theorem dX4_readRest_95 : decode cX4_readRest 95 = .ok (.istore 6, 2) := by decide +kernel
theorem dX4_readRest_97 : decode cX4_readRest 97 = .ok (.aload_n 1, 1) := by decide +kernel
theorem dX4_readRest_98 : decode cX4_readRest 98 = .ok (.iload 6, 2) := by decide +kernel
theorem dX4_readRest_100 : decode cX4_readRest 100 = .ok (.aload_n 0, 1) := by decide +kernel
theorem dX4_readRest_101 : decode cX4_readRest 101 = .ok (.iconst 0, 1) := by decide +kernel
theorem dX4_readRest_102 : decode cX4_readRest 102 = .ok (.sipush 9999, 3) := by decide +kernel
theorem dX4_readRest_105 : decode cX4_readRest 105 = .ok (.invokevirtual 79, 3) := by decide +kernel
theorem dX4_readRest_108 : decode cX4_readRest 108 = .ok (.invokevirtual 91, 3) := by decide +kernel
theorem dX4_readRest_111 : decode cX4_readRest 111 = .ok (.goto 11, 3) := by decide +kernel
theorem dX4_readRest_114 : decode cX4_readRest 114 = .ok (.aload_n 1, 1) := by decide +kernel
theorem dX4_readRest_115 : decode cX4_readRest 115 = .ok (.aload_n 0, 1) := by decide +kernel
theorem dX4_readRest_116 : decode cX4_readRest 116 = .ok (.invokevirtual 94, 3) := by decide +kernel
theorem dX4_readRest_119 : decode cX4_readRest 119 = .ok (.putfield 98, 3) := by decide +kernel
theorem dX4_readRest_122 : decode cX4_readRest 122 = .ok (.return_, 1) := by decide +kernel
theorem dX4_expectNumber_0 : decode cX4_expectNumber 0 = .ok (.aload_n 0, 1) := by decide +kernel
theorem dX4_expectNumber_1 : decode cX4_expectNumber 1 = .ok (.getfield 19, 3) := by decide +kernel
theorem dX4_expectNumber_4 : decode cX4_expectNumber 4 = .ok (.ifCond .eq 5, 3) := by decide +kernel
theorem dX4_expectNumber_7 : decode cX4_expectNumber 7 = .ok (.iconst 0, 1) := by decide +kernel
theorem dX4_expectNumber_8 : decode cX4_expectNumber 8 = .ok (.ireturn, 1) := by decide +kernel
theorem dX4_expectNumber_9 : decode cX4_expectNumber 9 = .ok (.aload_n 0, 1) := by decide +kernel
theorem dX4_expectNumber_10 : decode cX4_expectNumber 10 = .ok (.getfield 28, 3) := by decide +kernel
theorem dX4_expectNumber_13 : decode cX4_expectNumber 13 = .ok (.iconst 2, 1) := by decide +kernel
theorem dX4_expectNumber_14 : decode cX4_expectNumber 14 = .ok (.if_icmp .eq 10, 3) := by decide +kernel
theorem dX4_expectNumber_17 : decode cX4_expectNumber 17 = .ok (.aload_n 0, 1) := by decide +kernel
theorem dX4_expectNumber_18 : decode cX4_expectNumber 18 = .ok (.iconst 1, 1) := by decide +kernel
theorem dX4_expectNumber_19 : decode cX4_expectNumber 19 = .ok (.invokevirtual 53, 3) := by decide +kernel
theorem dX4_expectNumber_22 : decode cX4_expectNumber 22 = .ok (.iconst 0, 1) := by decide +kernel
theorem dX4_expectNumber_23 : decode cX4_expectNumber 23 = .ok (.ireturn, 1) := by decide +kernel
theorem dX4_expectNumber_24 : decode cX4_expectNumber 24 = .ok (.aload_n 0, 1) := by decide +kernel
theorem dX4_expectNumber_25 : decode cX4_expectNumber 25 = .ok (.getfield 34, 3) := by decide +kernel
theorem dX4_expectNumber_28 : decode cX4_expectNumber 28 = .ok (.istore_n 3, 1) := by decide +kernel
theorem dX4_expectNumber_29 : decode cX4_expectNumber 29 = .ok (.iload_n 3, 1) := by decide +kernel
theorem dX4_expectNumber_30 : decode cX4_expectNumber 30 = .ok (.iload_n 1, 1) := by decide +kernel
theorem dX4_expectNumber_31 : decode cX4_expectNumber 31 = .ok (.if_icmp .lt 8, 3) := by decide +kernel
theorem dX4_expectNumber_34 : decode cX4_expectNumber 34 = .ok (.iload_n 3, 1) := by decide +kernel
theorem dX4_expectNumber_35 : decode cX4_expectNumber 35 = .ok (.iload_n 2, 1) := by decide +kernel
theorem dX4_expectNumber_36 : decode cX4_expectNumber 36 = .ok (.if_icmp .le 10, 3) := by decide +kernel
theorem dX4_expectNumber_39 : decode cX4_expectNumber 39 = .ok (.aload_n 0, 1) := by decide +kernel
theorem dX4_expectNumber_40 : decode cX4_expectNumber 40 = .ok (.iconst 2, 1) := by decide +kernel
theorem dX4_expectNumber_41 : decode cX4_expectNumber 41 = .ok (.invokevirtual 53, 3) := by decide +kernel
theorem dX4_expectNumber_44 : decode cX4_expectNumber 44 = .ok (.iconst 0, 1) := by decide +kernel
theorem dX4_expectNumber_45 : decode cX4_expectNumber 45 = .ok (.ireturn, 1) := by decide +kernel
theorem dX4_expectNumber_46 : decode cX4_expectNumber 46 = .ok (.aload_n 0, 1) := by decide +kernel
theorem dX4_expectNumber_47 : decode cX4_expectNumber 47 = .ok (.invokevirtual 42, 3) := by decide +kernel
theorem dX4_expectNumber_50 : decode cX4_expectNumber 50 = .ok (.iload_n 3, 1) := by decide +kernel
theorem dX4_expectNumber_51 : decode cX4_expectNumber 51 = .ok (.ireturn, 1) := by decide +kernel
theorem dX4_expectBound_0 : decode cX4_expectBound 0 = .ok (.aload_n 0, 1) := by decide +kernel
theorem dX4_expectBound_1 : decode cX4_expectBound 1 = .ok (.ldc 102, 2) := by decide +kernel
theorem dX4_expectBound_3 : decode cX4_expectBound 3 = .ok (.invokevirtual 69, 3) := by decide +kernel
theorem dX4_expectBound_6 : decode cX4_expectBound 6 = .ok (.istore_n 1, 1) := by decide +kernel
theorem dX4_expectBound_7 : decode cX4_expectBound 7 = .ok (.iload_n 1, 1) := by decide +kernel
theorem dX4_expectBound_8 : decode cX4_expectBound 8 = .ok (.ifCond .ne 19, 3) := by decide +kernel
theorem dX4_expectBound_11 : decode cX4_expectBound 11 = .ok (.aload_n 0, 1) := by decide +kernel
theorem dX4_expectBound_12 : decode cX4_expectBound 12 = .ok (.ldc 104, 2) := by decide +kernel
theorem dX4_expectBound_14 : decode cX4_expectBound 14 = .ok (.invokevirtual 69, 3) := by decide +kernel
theorem dX4_expectBound_17 : decode cX4_expectBound 17 = .ok (.ifCond .ne 10, 3) := by decide +kernel
theorem dX4_expectBound_20 : decode cX4_expectBound 20 = .ok (.aload_n 0, 1) := by decide +kernel
theorem dX4_expectBound_21 : decode cX4_expectBound 21 = .ok (.iconst 1, 1) := by decide +kernel
theorem dX4_expectBound_22 : decode cX4_expectBound 22 = .ok (.invokevirtual 53, 3) := by decide +kernel
theorem dX4_expectBound_25 : decode cX4_expectBound 25 = .ok (.iconst 0, 1) := by decide +kernel
theorem dX4_expectBound_26 : decode cX4_expectBound 26 = .ok (.ireturn, 1) := by decide +kernel
theorem dX4_expectBound_27 : decode cX4_expectBound 27 = .ok (.aload_n 0, 1) := by decide +kernel
theorem dX4_expectBound_28 : decode cX4_expectBound 28 = .ok (.invokevirtual 42, 3) := by decide +kernel
theorem dX4_expectBound_31 : decode cX4_expectBound 31 = .ok (.iload_n 1, 1) := by decide +kernel
theorem dX4_expectBound_32 : decode cX4_expectBound 32 = .ok (.ireturn, 1) := by decide +kernel
theorem dX4_expectSign_0 : decode cX4_expectSign 0 = .ok (.aload_n 0, 1) := by decide +kernel
theorem dX4_expectSign_1 : decode cX4_expectSign 1 = .ok (.getfield 19, 3) := by decide +kernel
theorem dX4_expectSign_4 : decode cX4_expectSign 4 = .ok (.ifCond .eq 4, 3) := by decide +kernel
theorem dX4_expectSign_7 : decode cX4_expectSign 7 = .ok (.return_, 1) := by decide +kernel
theorem dX4_expectSign_8 : decode cX4_expectSign 8 = .ok (.aload_n 0, 1) := by decide +kernel
theorem dX4_expectSign_9 : decode cX4_expectSign 9 = .ok (.getfield 28, 3) := by decide +kernel
theorem dX4_expectSign_12 : decode cX4_expectSign 12 = .ok (.iconst 3, 1) := by decide +kernel
theorem dX4_expectSign_13 : decode cX4_expectSign 13 = .ok (.if_icmp .eq 9, 3) := by decide +kernel
theorem dX4_expectSign_16 : decode cX4_expectSign 16 = .ok (.aload_n 0, 1) := by decide +kernel
theorem dX4_expectSign_17 : decode cX4_expectSign 17 = .ok (.iconst 1, 1) := by decide +kernel
theorem dX4_expectSign_18 : decode cX4_expectSign 18 = .ok (.invokevirtual 53, 3) := by decide +kernel
theorem dX4_expectSign_21 : decode cX4_expectSign 21 = .ok (.return_, 1) := by decide +kernel
theorem dX4_expectSign_22 : decode cX4_expectSign 22 = .ok (.aload_n 0, 1) := by decide +kernel
theorem dX4_expectSign_23 : decode cX4_expectSign 23 = .ok (.invokevirtual 42, 3) := by decide +kernel
theorem dX4_expectSign_26 : decode cX4_expectSign 26 = .ok (.return_, 1) := by decide +kernel
theorem dX4_blame_0 : decode cX4_blame 0 = .ok (.aload_n 0, 1) := by decide +kernel
theorem dX4_blame_1 : decode cX4_blame 1 = .ok (.iload_n 1, 1) := by decide +kernel
theorem dX4_blame_2 : decode cX4_blame 2 = .ok (.putfield 19, 3) := by decide +kernel
theorem dX4_blame_5 : decode cX4_blame 5 = .ok (.aload_n 0, 1) := by decide +kernel
theorem dX4_blame_6 : decode cX4_blame 6 = .ok (.aload_n 0, 1) := by decide +kernel
theorem dX4_blame_7 : decode cX4_blame 7 = .ok (.getfield 31, 3) := by decide +kernel
theorem dX4_blame_10 : decode cX4_blame 10 = .ok (.putfield 22, 3) := by decide +kernel
theorem dX4_blame_13 : decode cX4_blame 13 = .ok (.return_, 1) := by decide +kernel
theorem dX4_readToken_0 : decode cX4_readToken 0 = .ok (.aload_n 0, 1) := by decide +kernel
theorem dX4_readToken_1 : decode cX4_readToken 1 = .ok (.getfield 25, 3) := by decide +kernel
theorem dX4_readToken_4 : decode cX4_readToken 4 = .ok (.aload_n 0, 1) := by decide +kernel
theorem dX4_readToken_5 : decode cX4_readToken 5 = .ok (.getfield 15, 3) := by decide +kernel
theorem dX4_readToken_8 : decode cX4_readToken 8 = .ok (.if_icmp .ge 31, 3) := by decide +kernel
theorem dX4_readToken_11 : decode cX4_readToken 11 = .ok (.aload_n 0, 1) := by decide +kernel
theorem dX4_readToken_12 : decode cX4_readToken 12 = .ok (.getfield 9, 3) := by decide +kernel
theorem dX4_readToken_15 : decode cX4_readToken 15 = .ok (.aload_n 0, 1) := by decide +kernel
theorem dX4_readToken_16 : decode cX4_readToken 16 = .ok (.getfield 25, 3) := by decide +kernel
theorem dX4_readToken_19 : decode cX4_readToken 19 = .ok (.iaload, 1) := by decide +kernel
theorem dX4_readToken_20 : decode cX4_readToken 20 = .ok (.invokestatic 106, 3) := by decide +kernel
theorem dX4_readToken_23 : decode cX4_readToken 23 = .ok (.ifCond .eq 16, 3) := by decide +kernel
theorem dX4_readToken_26 : decode cX4_readToken 26 = .ok (.aload_n 0, 1) := by decide +kernel
theorem dX4_readToken_27 : decode cX4_readToken 27 = .ok (.dup, 1) := by decide +kernel
theorem dX4_readToken_28 : decode cX4_readToken 28 = .ok (.getfield 25, 3) := by decide +kernel
theorem dX4_readToken_31 : decode cX4_readToken 31 = .ok (.iconst 1, 1) := by decide +kernel
theorem dX4_readToken_32 : decode cX4_readToken 32 = .ok (.iadd, 1) := by decide +kernel
theorem dX4_readToken_33 : decode cX4_readToken 33 = .ok (.putfield 25, 3) := by decide +kernel
theorem dX4_readToken_36 : decode cX4_readToken 36 = .ok (.goto (-36), 3) := by decide +kernel
theorem dX4_readToken_39 : decode cX4_readToken 39 = .ok (.aload_n 0, 1) := by decide +kernel
theorem dX4_readToken_40 : decode cX4_readToken 40 = .ok (.aload_n 0, 1) := by decide +kernel
theorem dX4_readToken_41 : decode cX4_readToken 41 = .ok (.getfield 25, 3) := by decide +kernel
theorem dX4_readToken_44 : decode cX4_readToken 44 = .ok (.putfield 31, 3) := by decide +kernel
theorem dX4_readToken_47 : decode cX4_readToken 47 = .ok (.aload_n 0, 1) := by decide +kernel
theorem dX4_readToken_48 : decode cX4_readToken 48 = .ok (.getfield 25, 3) := by decide +kernel
theorem dX4_readToken_51 : decode cX4_readToken 51 = .ok (.aload_n 0, 1) := by decide +kernel
theorem dX4_readToken_52 : decode cX4_readToken 52 = .ok (.getfield 15, 3) := by decide +kernel
theorem dX4_readToken_55 : decode cX4_readToken 55 = .ok (.if_icmp .lt 11, 3) := by decide +kernel
theorem dX4_readToken_58 : decode cX4_readToken 58 = .ok (.aload_n 0, 1) := by decide +kernel
theorem dX4_readToken_59 : decode cX4_readToken 59 = .ok (.iconst 0, 1) := by decide +kernel
theorem dX4_readToken_60 : decode cX4_readToken 60 = .ok (.putfield 28, 3) := by decide +kernel
theorem dX4_readToken_63 : decode cX4_readToken 63 = .ok (.goto 85, 3) := by decide +kernel
theorem dX4_readToken_66 : decode cX4_readToken 66 = .ok (.aload_n 0, 1) := by decide +kernel
theorem dX4_readToken_67 : decode cX4_readToken 67 = .ok (.getfield 9, 3) := by decide +kernel
theorem dX4_readToken_70 : decode cX4_readToken 70 = .ok (.aload_n 0, 1) := by decide +kernel
theorem dX4_readToken_71 : decode cX4_readToken 71 = .ok (.getfield 25, 3) := by decide +kernel
theorem dX4_readToken_74 : decode cX4_readToken 74 = .ok (.iaload, 1) := by decide +kernel
theorem dX4_readToken_75 : decode cX4_readToken 75 = .ok (.invokestatic 110, 3) := by decide +kernel
theorem dX4_readToken_78 : decode cX4_readToken 78 = .ok (.ifCond .eq 15, 3) := by decide +kernel
theorem dX4_readToken_81 : decode cX4_readToken 81 = .ok (.aload_n 0, 1) := by decide +kernel
theorem dX4_readToken_82 : decode cX4_readToken 82 = .ok (.iconst 1, 1) := by decide +kernel
theorem dX4_readToken_83 : decode cX4_readToken 83 = .ok (.putfield 28, 3) := by decide +kernel
theorem dX4_readToken_86 : decode cX4_readToken 86 = .ok (.aload_n 0, 1) := by decide +kernel
theorem dX4_readToken_87 : decode cX4_readToken 87 = .ok (.invokevirtual 113, 3) := by decide +kernel
theorem dX4_readToken_90 : decode cX4_readToken 90 = .ok (.goto 58, 3) := by decide +kernel
theorem dX4_readToken_93 : decode cX4_readToken 93 = .ok (.aload_n 0, 1) := by decide +kernel
theorem dX4_readToken_94 : decode cX4_readToken 94 = .ok (.getfield 9, 3) := by decide +kernel
theorem dX4_readToken_97 : decode cX4_readToken 97 = .ok (.aload_n 0, 1) := by decide +kernel
theorem dX4_readToken_98 : decode cX4_readToken 98 = .ok (.getfield 25, 3) := by decide +kernel
theorem dX4_readToken_101 : decode cX4_readToken 101 = .ok (.iaload, 1) := by decide +kernel
theorem dX4_readToken_102 : decode cX4_readToken 102 = .ok (.invokestatic 116, 3) := by decide +kernel
theorem dX4_readToken_105 : decode cX4_readToken 105 = .ok (.ifCond .eq 10, 3) := by decide +kernel
theorem dX4_readToken_108 : decode cX4_readToken 108 = .ok (.aload_n 0, 1) := by decide +kernel
theorem dX4_readToken_109 : decode cX4_readToken 109 = .ok (.invokevirtual 119, 3) := by decide +kernel
theorem dX4_readToken_112 : decode cX4_readToken 112 = .ok (.goto 36, 3) := by decide +kernel
theorem dX4_readToken_115 : decode cX4_readToken 115 = .ok (.aload_n 0, 1) := by decide +kernel
theorem dX4_readToken_116 : decode cX4_readToken 116 = .ok (.aload_n 0, 1) := by decide +kernel
theorem dX4_readToken_117 : decode cX4_readToken 117 = .ok (.getfield 9, 3) := by decide +kernel
theorem dX4_readToken_120 : decode cX4_readToken 120 = .ok (.aload_n 0, 1) := by decide +kernel
theorem dX4_readToken_121 : decode cX4_readToken 121 = .ok (.getfield 25, 3) := by decide +kernel
theorem dX4_readToken_124 : decode cX4_readToken 124 = .ok (.iaload, 1) := by decide +kernel
theorem dX4_readToken_125 : decode cX4_readToken 125 = .ok (.bipush 59, 2) := by decide +kernel
theorem dX4_readToken_127 : decode cX4_readToken 127 = .ok (.if_icmp .ne 7, 3) := by decide +kernel
theorem dX4_readToken_130 : decode cX4_readToken 130 = .ok (.iconst 3, 1) := by decide +kernel
theorem dX4_readToken_131 : decode cX4_readToken 131 = .ok (.goto 4, 3) := by decide +kernel
theorem dX4_readToken_134 : decode cX4_readToken 134 = .ok (.iconst 4, 1) := by decide +kernel
theorem dX4_readToken_135 : decode cX4_readToken 135 = .ok (.putfield 28, 3) := by decide +kernel
theorem dX4_readToken_138 : decode cX4_readToken 138 = .ok (.aload_n 0, 1) := by decide +kernel
theorem dX4_readToken_139 : decode cX4_readToken 139 = .ok (.dup, 1) := by decide +kernel
theorem dX4_readToken_140 : decode cX4_readToken 140 = .ok (.getfield 25, 3) := by decide +kernel
theorem dX4_readToken_143 : decode cX4_readToken 143 = .ok (.iconst 1, 1) := by decide +kernel
theorem dX4_readToken_144 : decode cX4_readToken 144 = .ok (.iadd, 1) := by decide +kernel
theorem dX4_readToken_145 : decode cX4_readToken 145 = .ok (.putfield 25, 3) := by decide +kernel
theorem dX4_readToken_148 : decode cX4_readToken 148 = .ok (.return_, 1) := by decide +kernel
theorem dX4_skipLetters_0 : decode cX4_skipLetters 0 = .ok (.aload_n 0, 1) := by decide +kernel
theorem dX4_skipLetters_1 : decode cX4_skipLetters 1 = .ok (.getfield 25, 3) := by decide +kernel
theorem dX4_skipLetters_4 : decode cX4_skipLetters 4 = .ok (.aload_n 0, 1) := by decide +kernel
theorem dX4_skipLetters_5 : decode cX4_skipLetters 5 = .ok (.getfield 15, 3) := by decide +kernel
theorem dX4_skipLetters_8 : decode cX4_skipLetters 8 = .ok (.if_icmp .ge 31, 3) := by decide +kernel
theorem dX4_skipLetters_11 : decode cX4_skipLetters 11 = .ok (.aload_n 0, 1) := by decide +kernel
theorem dX4_skipLetters_12 : decode cX4_skipLetters 12 = .ok (.getfield 9, 3) := by decide +kernel
theorem dX4_skipLetters_15 : decode cX4_skipLetters 15 = .ok (.aload_n 0, 1) := by decide +kernel
theorem dX4_skipLetters_16 : decode cX4_skipLetters 16 = .ok (.getfield 25, 3) := by decide +kernel
theorem dX4_skipLetters_19 : decode cX4_skipLetters 19 = .ok (.iaload, 1) := by decide +kernel
theorem dX4_skipLetters_20 : decode cX4_skipLetters 20 = .ok (.invokestatic 110, 3) := by decide +kernel
theorem dX4_skipLetters_23 : decode cX4_skipLetters 23 = .ok (.ifCond .eq 16, 3) := by decide +kernel
theorem dX4_skipLetters_26 : decode cX4_skipLetters 26 = .ok (.aload_n 0, 1) := by decide +kernel
theorem dX4_skipLetters_27 : decode cX4_skipLetters 27 = .ok (.dup, 1) := by decide +kernel
theorem dX4_skipLetters_28 : decode cX4_skipLetters 28 = .ok (.getfield 25, 3) := by decide +kernel
theorem dX4_skipLetters_31 : decode cX4_skipLetters 31 = .ok (.iconst 1, 1) := by decide +kernel
theorem dX4_skipLetters_32 : decode cX4_skipLetters 32 = .ok (.iadd, 1) := by decide +kernel
theorem dX4_skipLetters_33 : decode cX4_skipLetters 33 = .ok (.putfield 25, 3) := by decide +kernel
theorem dX4_skipLetters_36 : decode cX4_skipLetters 36 = .ok (.goto (-36), 3) := by decide +kernel
theorem dX4_skipLetters_39 : decode cX4_skipLetters 39 = .ok (.return_, 1) := by decide +kernel
theorem dX4_readDigits_0 : decode cX4_readDigits 0 = .ok (.aload_n 0, 1) := by decide +kernel
theorem dX4_readDigits_1 : decode cX4_readDigits 1 = .ok (.iconst 0, 1) := by decide +kernel
theorem dX4_readDigits_2 : decode cX4_readDigits 2 = .ok (.putfield 34, 3) := by decide +kernel
theorem dX4_readDigits_5 : decode cX4_readDigits 5 = .ok (.aload_n 0, 1) := by decide +kernel
theorem dX4_readDigits_6 : decode cX4_readDigits 6 = .ok (.getfield 25, 3) := by decide +kernel
theorem dX4_readDigits_9 : decode cX4_readDigits 9 = .ok (.aload_n 0, 1) := by decide +kernel
theorem dX4_readDigits_10 : decode cX4_readDigits 10 = .ok (.getfield 15, 3) := by decide +kernel
theorem dX4_readDigits_13 : decode cX4_readDigits 13 = .ok (.if_icmp .ge 68, 3) := by decide +kernel
theorem dX4_readDigits_16 : decode cX4_readDigits 16 = .ok (.aload_n 0, 1) := by decide +kernel
theorem dX4_readDigits_17 : decode cX4_readDigits 17 = .ok (.getfield 9, 3) := by decide +kernel
theorem dX4_readDigits_20 : decode cX4_readDigits 20 = .ok (.aload_n 0, 1) := by decide +kernel
theorem dX4_readDigits_21 : decode cX4_readDigits 21 = .ok (.getfield 25, 3) := by decide +kernel
theorem dX4_readDigits_24 : decode cX4_readDigits 24 = .ok (.iaload, 1) := by decide +kernel
theorem dX4_readDigits_25 : decode cX4_readDigits 25 = .ok (.invokestatic 116, 3) := by decide +kernel
theorem dX4_readDigits_28 : decode cX4_readDigits 28 = .ok (.ifCond .eq 53, 3) := by decide +kernel
theorem dX4_readDigits_31 : decode cX4_readDigits 31 = .ok (.aload_n 0, 1) := by decide +kernel
theorem dX4_readDigits_32 : decode cX4_readDigits 32 = .ok (.getfield 25, 3) := by decide +kernel
theorem dX4_readDigits_35 : decode cX4_readDigits 35 = .ok (.aload_n 0, 1) := by decide +kernel
theorem dX4_readDigits_36 : decode cX4_readDigits 36 = .ok (.getfield 31, 3) := by decide +kernel
theorem dX4_readDigits_39 : decode cX4_readDigits 39 = .ok (.isub, 1) := by decide +kernel
theorem dX4_readDigits_40 : decode cX4_readDigits 40 = .ok (.iconst 4, 1) := by decide +kernel
theorem dX4_readDigits_41 : decode cX4_readDigits 41 = .ok (.if_icmp .ge 27, 3) := by decide +kernel
theorem dX4_readDigits_44 : decode cX4_readDigits 44 = .ok (.aload_n 0, 1) := by decide +kernel
theorem dX4_readDigits_45 : decode cX4_readDigits 45 = .ok (.aload_n 0, 1) := by decide +kernel
theorem dX4_readDigits_46 : decode cX4_readDigits 46 = .ok (.getfield 34, 3) := by decide +kernel
theorem dX4_readDigits_49 : decode cX4_readDigits 49 = .ok (.bipush 10, 2) := by decide +kernel
theorem dX4_readDigits_51 : decode cX4_readDigits 51 = .ok (.imul, 1) := by decide +kernel
theorem dX4_readDigits_52 : decode cX4_readDigits 52 = .ok (.aload_n 0, 1) := by decide +kernel
theorem dX4_readDigits_53 : decode cX4_readDigits 53 = .ok (.getfield 9, 3) := by decide +kernel
theorem dX4_readDigits_56 : decode cX4_readDigits 56 = .ok (.aload_n 0, 1) := by decide +kernel
theorem dX4_readDigits_57 : decode cX4_readDigits 57 = .ok (.getfield 25, 3) := by decide +kernel
theorem dX4_readDigits_60 : decode cX4_readDigits 60 = .ok (.iaload, 1) := by decide +kernel
theorem dX4_readDigits_61 : decode cX4_readDigits 61 = .ok (.bipush 48, 2) := by decide +kernel
theorem dX4_readDigits_63 : decode cX4_readDigits 63 = .ok (.isub, 1) := by decide +kernel
theorem dX4_readDigits_64 : decode cX4_readDigits 64 = .ok (.iadd, 1) := by decide +kernel
theorem dX4_readDigits_65 : decode cX4_readDigits 65 = .ok (.putfield 34, 3) := by decide +kernel
theorem dX4_readDigits_68 : decode cX4_readDigits 68 = .ok (.aload_n 0, 1) := by decide +kernel
theorem dX4_readDigits_69 : decode cX4_readDigits 69 = .ok (.dup, 1) := by decide +kernel
theorem dX4_readDigits_70 : decode cX4_readDigits 70 = .ok (.getfield 25, 3) := by decide +kernel
theorem dX4_readDigits_73 : decode cX4_readDigits 73 = .ok (.iconst 1, 1) := by decide +kernel
theorem dX4_readDigits_74 : decode cX4_readDigits 74 = .ok (.iadd, 1) := by decide +kernel
theorem dX4_readDigits_75 : decode cX4_readDigits 75 = .ok (.putfield 25, 3) := by decide +kernel
theorem dX4_readDigits_78 : decode cX4_readDigits 78 = .ok (.goto (-73), 3) := by decide +kernel
theorem dX4_readDigits_81 : decode cX4_readDigits 81 = .ok (.aload_n 0, 1) := by decide +kernel
theorem dX4_readDigits_82 : decode cX4_readDigits 82 = .ok (.aload_n 0, 1) := by decide +kernel
theorem dX4_readDigits_83 : decode cX4_readDigits 83 = .ok (.getfield 25, 3) := by decide +kernel
theorem dX4_readDigits_86 : decode cX4_readDigits 86 = .ok (.aload_n 0, 1) := by decide +kernel
theorem dX4_readDigits_87 : decode cX4_readDigits 87 = .ok (.getfield 31, 3) := by decide +kernel
theorem dX4_readDigits_90 : decode cX4_readDigits 90 = .ok (.isub, 1) := by decide +kernel
theorem dX4_readDigits_91 : decode cX4_readDigits 91 = .ok (.iconst 4, 1) := by decide +kernel
theorem dX4_readDigits_92 : decode cX4_readDigits 92 = .ok (.if_icmp .gt 7, 3) := by decide +kernel
theorem dX4_readDigits_95 : decode cX4_readDigits 95 = .ok (.iconst 2, 1) := by decide +kernel
theorem dX4_readDigits_96 : decode cX4_readDigits 96 = .ok (.goto 4, 3) := by decide +kernel
theorem dX4_readDigits_99 : decode cX4_readDigits 99 = .ok (.iconst 4, 1) := by decide +kernel
theorem dX4_readDigits_100 : decode cX4_readDigits 100 = .ok (.putfield 28, 3) := by decide +kernel
theorem dX4_readDigits_103 : decode cX4_readDigits 103 = .ok (.return_, 1) := by decide +kernel
theorem dX4_isWord_0 : decode cX4_isWord 0 = .ok (.aload_n 0, 1) := by decide +kernel
theorem dX4_isWord_1 : decode cX4_isWord 1 = .ok (.getfield 28, 3) := by decide +kernel
theorem dX4_isWord_4 : decode cX4_isWord 4 = .ok (.iconst 1, 1) := by decide +kernel
theorem dX4_isWord_5 : decode cX4_isWord 5 = .ok (.if_icmp .ne 19, 3) := by decide +kernel
theorem dX4_isWord_8 : decode cX4_isWord 8 = .ok (.aload_n 0, 1) := by decide +kernel
theorem dX4_isWord_9 : decode cX4_isWord 9 = .ok (.getfield 25, 3) := by decide +kernel
theorem dX4_isWord_12 : decode cX4_isWord 12 = .ok (.aload_n 0, 1) := by decide +kernel
theorem dX4_isWord_13 : decode cX4_isWord 13 = .ok (.getfield 31, 3) := by decide +kernel
theorem dX4_isWord_16 : decode cX4_isWord 16 = .ok (.isub, 1) := by decide +kernel
theorem dX4_isWord_17 : decode cX4_isWord 17 = .ok (.aload_n 1, 1) := by decide +kernel
theorem dX4_isWord_18 : decode cX4_isWord 18 = .ok (.invokevirtual 122, 3) := by decide +kernel
theorem dX4_isWord_21 : decode cX4_isWord 21 = .ok (.if_icmp .eq 5, 3) := by decide +kernel
theorem dX4_isWord_24 : decode cX4_isWord 24 = .ok (.iconst 0, 1) := by decide +kernel
theorem dX4_isWord_25 : decode cX4_isWord 25 = .ok (.ireturn, 1) := by decide +kernel
theorem dX4_isWord_26 : decode cX4_isWord 26 = .ok (.iconst 0, 1) := by decide +kernel
theorem dX4_isWord_27 : decode cX4_isWord 27 = .ok (.istore_n 2, 1) := by decide +kernel
theorem dX4_isWord_28 : decode cX4_isWord 28 = .ok (.iload_n 2, 1) := by decide +kernel
theorem dX4_isWord_29 : decode cX4_isWord 29 = .ok (.aload_n 1, 1) := by decide +kernel
theorem dX4_isWord_30 : decode cX4_isWord 30 = .ok (.invokevirtual 122, 3) := by decide +kernel
theorem dX4_isWord_33 : decode cX4_isWord 33 = .ok (.if_icmp .ge 30, 3) := by decide +kernel
theorem dX4_isWord_36 : decode cX4_isWord 36 = .ok (.aload_n 0, 1) := by decide +kernel
theorem dX4_isWord_37 : decode cX4_isWord 37 = .ok (.getfield 9, 3) := by decide +kernel
theorem dX4_isWord_40 : decode cX4_isWord 40 = .ok (.aload_n 0, 1) := by decide +kernel
theorem dX4_isWord_41 : decode cX4_isWord 41 = .ok (.getfield 31, 3) := by decide +kernel
theorem dX4_isWord_44 : decode cX4_isWord 44 = .ok (.iload_n 2, 1) := by decide +kernel
theorem dX4_isWord_45 : decode cX4_isWord 45 = .ok (.iadd, 1) := by decide +kernel
theorem dX4_isWord_46 : decode cX4_isWord 46 = .ok (.iaload, 1) := by decide +kernel
theorem dX4_isWord_47 : decode cX4_isWord 47 = .ok (.aload_n 1, 1) := by decide +kernel
theorem dX4_isWord_48 : decode cX4_isWord 48 = .ok (.iload_n 2, 1) := by decide +kernel
theorem dX4_isWord_49 : decode cX4_isWord 49 = .ok (.invokevirtual 126, 3) := by decide +kernel
theorem dX4_isWord_52 : decode cX4_isWord 52 = .ok (.if_icmp .eq 5, 3) := by decide +kernel
theorem dX4_isWord_55 : decode cX4_isWord 55 = .ok (.iconst 0, 1) := by decide +kernel
theorem dX4_isWord_56 : decode cX4_isWord 56 = .ok (.ireturn, 1) := by decide +kernel
theorem dX4_isWord_57 : decode cX4_isWord 57 = .ok (.iinc 2 1, 3) := by decide +kernel
theorem dX4_isWord_60 : decode cX4_isWord 60 = .ok (.goto (-32), 3) := by decide +kernel
theorem dX4_isWord_63 : decode cX4_isWord 63 = .ok (.iconst 1, 1) := by decide +kernel
theorem dX4_isWord_64 : decode cX4_isWord 64 = .ok (.ireturn, 1) := by decide +kernel
theorem dX4_isBlank_0 : decode cX4_isBlank 0 = .ok (.iload_n 0, 1) := by decide +kernel
theorem dX4_isBlank_1 : decode cX4_isBlank 1 = .ok (.bipush 32, 2) := by decide +kernel
theorem dX4_isBlank_3 : decode cX4_isBlank 3 = .ok (.if_icmp .eq 9, 3) := by decide +kernel
theorem dX4_isBlank_6 : decode cX4_isBlank 6 = .ok (.iload_n 0, 1) := by decide +kernel
theorem dX4_isBlank_7 : decode cX4_isBlank 7 = .ok (.bipush 10, 2) := by decide +kernel
theorem dX4_isBlank_9 : decode cX4_isBlank 9 = .ok (.if_icmp .ne 7, 3) := by decide +kernel
theorem dX4_isBlank_12 : decode cX4_isBlank 12 = .ok (.iconst 1, 1) := by decide +kernel
theorem dX4_isBlank_13 : decode cX4_isBlank 13 = .ok (.goto 4, 3) := by decide +kernel
theorem dX4_isBlank_16 : decode cX4_isBlank 16 = .ok (.iconst 0, 1) := by decide +kernel
theorem dX4_isBlank_17 : decode cX4_isBlank 17 = .ok (.ireturn, 1) := by decide +kernel
theorem dX4_isLetter_0 : decode cX4_isLetter 0 = .ok (.iload_n 0, 1) := by decide +kernel
theorem dX4_isLetter_1 : decode cX4_isLetter 1 = .ok (.bipush 97, 2) := by decide +kernel
theorem dX4_isLetter_3 : decode cX4_isLetter 3 = .ok (.if_icmp .lt 13, 3) := by decide +kernel
theorem dX4_isLetter_6 : decode cX4_isLetter 6 = .ok (.iload_n 0, 1) := by decide +kernel
theorem dX4_isLetter_7 : decode cX4_isLetter 7 = .ok (.bipush 122, 2) := by decide +kernel
theorem dX4_isLetter_9 : decode cX4_isLetter 9 = .ok (.if_icmp .gt 7, 3) := by decide +kernel
theorem dX4_isLetter_12 : decode cX4_isLetter 12 = .ok (.iconst 1, 1) := by decide +kernel
theorem dX4_isLetter_13 : decode cX4_isLetter 13 = .ok (.goto 4, 3) := by decide +kernel
theorem dX4_isLetter_16 : decode cX4_isLetter 16 = .ok (.iconst 0, 1) := by decide +kernel
theorem dX4_isLetter_17 : decode cX4_isLetter 17 = .ok (.ireturn, 1) := by decide +kernel
theorem dX4_isDigit_0 : decode cX4_isDigit 0 = .ok (.iload_n 0, 1) := by decide +kernel
theorem dX4_isDigit_1 : decode cX4_isDigit 1 = .ok (.bipush 48, 2) := by decide +kernel
theorem dX4_isDigit_3 : decode cX4_isDigit 3 = .ok (.if_icmp .lt 13, 3) := by decide +kernel
theorem dX4_isDigit_6 : decode cX4_isDigit 6 = .ok (.iload_n 0, 1) := by decide +kernel
theorem dX4_isDigit_7 : decode cX4_isDigit 7 = .ok (.bipush 57, 2) := by decide +kernel
theorem dX4_isDigit_9 : decode cX4_isDigit 9 = .ok (.if_icmp .gt 7, 3) := by decide +kernel
theorem dX4_isDigit_12 : decode cX4_isDigit 12 = .ok (.iconst 1, 1) := by decide +kernel
theorem dX4_isDigit_13 : decode cX4_isDigit 13 = .ok (.goto 4, 3) := by decide +kernel
theorem dX4_isDigit_16 : decode cX4_isDigit 16 = .ok (.iconst 0, 1) := by decide +kernel
theorem dX4_isDigit_17 : decode cX4_isDigit 17 = .ok (.ireturn, 1) := by decide +kernel
theorem dX5_init_0 : decode cX5_init 0 = .ok (.aload_n 0, 1) := by decide +kernel
theorem dX5_init_1 : decode cX5_init 1 = .ok (.invokespecial 3, 3) := by decide +kernel
theorem dX5_init_4 : decode cX5_init 4 = .ok (.aload_n 0, 1) := by decide +kernel
theorem dX5_init_5 : decode cX5_init 5 = .ok (.bipush 9, 2) := by decide +kernel
theorem dX5_init_7 : decode cX5_init 7 = .ok (.anewarray 9, 3) := by decide +kernel
theorem dX5_init_10 : decode cX5_init 10 = .ok (.putfield 11, 3) := by decide +kernel
theorem dX5_init_13 : decode cX5_init 13 = .ok (.aload_n 0, 1) := by decide +kernel
theorem dX5_init_14 : decode cX5_init 14 = .ok (.iconst 0, 1) := by decide +kernel
theorem dX5_init_15 : decode cX5_init 15 = .ok (.putfield 17, 3) := by decide +kernel
theorem dX5_init_18 : decode cX5_init 18 = .ok (.aload_n 0, 1) := by decide +kernel
theorem dX5_init_19 : decode cX5_init 19 = .ok (.bipush 9, 2) := by decide +kernel
theorem dX5_init_21 : decode cX5_init 21 = .ok (.newarray .int, 2) := by decide +kernel
theorem dX5_init_23 : decode cX5_init 23 = .ok (.putfield 21, 3) := by decide +kernel
theorem dX5_init_26 : decode cX5_init 26 = .ok (.aload_n 0, 1) := by decide +kernel
theorem dX5_init_27 : decode cX5_init 27 = .ok (.sipush 4608, 3) := by decide +kernel
theorem dX5_init_30 : decode cX5_init 30 = .ok (.newarray .int, 2) := by decide +kernel
theorem dX5_init_32 : decode cX5_init 32 = .ok (.putfield 25, 3) := by decide +kernel
theorem dX5_init_35 : decode cX5_init 35 = .ok (.aload_n 0, 1) := by decide +kernel
theorem dX5_init_36 : decode cX5_init 36 = .ok (.sipush 512, 3) := by decide +kernel
theorem dX5_init_39 : decode cX5_init 39 = .ok (.newarray .int, 2) := by decide +kernel
theorem dX5_init_41 : decode cX5_init 41 = .ok (.putfield 28, 3) := by decide +kernel
theorem dX5_init_44 : decode cX5_init 44 = .ok (.aload_n 0, 1) := by decide +kernel
theorem dX5_init_45 : decode cX5_init 45 = .ok (.sipush 512, 3) := by decide +kernel
theorem dX5_init_48 : decode cX5_init 48 = .ok (.newarray .int, 2) := by decide +kernel
theorem dX5_init_50 : decode cX5_init 50 = .ok (.putfield 31, 3) := by decide +kernel
theorem dX5_init_53 : decode cX5_init 53 = .ok (.aload_n 0, 1) := by decide +kernel
theorem dX5_init_54 : decode cX5_init 54 = .ok (.iconst 0, 1) := by decide +kernel
theorem dX5_init_55 : decode cX5_init 55 = .ok (.putfield 34, 3) := by decide +kernel
theorem dX5_init_58 : decode cX5_init 58 = .ok (.return_, 1) := by decide +kernel
theorem dX5_clear_0 : decode cX5_clear 0 = .ok (.aload_n 0, 1) := by decide +kernel
theorem dX5_clear_1 : decode cX5_clear 1 = .ok (.iconst 0, 1) := by decide +kernel
theorem dX5_clear_2 : decode cX5_clear 2 = .ok (.putfield 17, 3) := by decide +kernel
theorem dX5_clear_5 : decode cX5_clear 5 = .ok (.aload_n 0, 1) := by decide +kernel
theorem dX5_clear_6 : decode cX5_clear 6 = .ok (.iconst 0, 1) := by decide +kernel
theorem dX5_clear_7 : decode cX5_clear 7 = .ok (.putfield 34, 3) := by decide +kernel
theorem dX5_clear_10 : decode cX5_clear 10 = .ok (.return_, 1) := by decide +kernel
theorem dX5_add_0 : decode cX5_add 0 = .ok (.aload_n 0, 1) := by decide +kernel
theorem dX5_add_1 : decode cX5_add 1 = .ok (.getfield 17, 3) := by decide +kernel
theorem dX5_add_4 : decode cX5_add 4 = .ok (.bipush 9, 2) := by decide +kernel
theorem dX5_add_6 : decode cX5_add 6 = .ok (.if_icmp .ge 23, 3) := by decide +kernel
theorem dX5_add_9 : decode cX5_add 9 = .ok (.aload_n 0, 1) := by decide +kernel
theorem dX5_add_10 : decode cX5_add 10 = .ok (.getfield 11, 3) := by decide +kernel
theorem dX5_add_13 : decode cX5_add 13 = .ok (.aload_n 0, 1) := by decide +kernel
theorem dX5_add_14 : decode cX5_add 14 = .ok (.getfield 17, 3) := by decide +kernel
theorem dX5_add_17 : decode cX5_add 17 = .ok (.aload_n 1, 1) := by decide +kernel
theorem dX5_add_18 : decode cX5_add 18 = .ok (.aastore, 1) := by decide +kernel
theorem dX5_add_19 : decode cX5_add 19 = .ok (.aload_n 0, 1) := by decide +kernel
theorem dX5_add_20 : decode cX5_add 20 = .ok (.dup, 1) := by decide +kernel
theorem dX5_add_21 : decode cX5_add 21 = .ok (.getfield 17, 3) := by decide +kernel
theorem dX5_add_24 : decode cX5_add 24 = .ok (.iconst 1, 1) := by decide +kernel
theorem dX5_add_25 : decode cX5_add 25 = .ok (.iadd, 1) := by decide +kernel
theorem dX5_add_26 : decode cX5_add 26 = .ok (.putfield 17, 3) := by decide +kernel
theorem dX5_add_29 : decode cX5_add 29 = .ok (.return_, 1) := by decide +kernel
theorem dX5_findBest_0 : decode cX5_findBest 0 = .ok (.iconst 1, 1) := by decide +kernel
theorem dX5_findBest_1 : decode cX5_findBest 1 = .ok (.aload_n 0, 1) := by decide +kernel
theorem dX5_findBest_2 : decode cX5_findBest 2 = .ok (.getfield 17, 3) := by decide +kernel
theorem dX5_findBest_5 : decode cX5_findBest 5 = .ok (.ishl, 1) := by decide +kernel
theorem dX5_findBest_6 : decode cX5_findBest 6 = .ok (.istore_n 2, 1) := by decide +kernel
theorem dX5_findBest_7 : decode cX5_findBest 7 = .ok (.aload_n 0, 1) := by decide +kernel
theorem dX5_findBest_8 : decode cX5_findBest 8 = .ok (.invokevirtual 37, 3) := by decide +kernel
theorem dX5_findBest_11 : decode cX5_findBest 11 = .ok (.aload_n 0, 1) := by decide +kernel
theorem dX5_findBest_12 : decode cX5_findBest 12 = .ok (.iload_n 2, 1) := by decide +kernel
theorem dX5_findBest_13 : decode cX5_findBest 13 = .ok (.invokevirtual 40, 3) := by decide +kernel
theorem dX5_findBest_16 : decode cX5_findBest 16 = .ok (.iconst 0, 1) := by decide +kernel
theorem dX5_findBest_17 : decode cX5_findBest 17 = .ok (.istore_n 3, 1) := by decide +kernel
theorem dX5_findBest_18 : decode cX5_findBest 18 = .ok (.iload_n 3, 1) := by decide +kernel
theorem dX5_findBest_19 : decode cX5_findBest 19 = .ok (.aload_n 0, 1) := by decide +kernel
theorem dX5_findBest_20 : decode cX5_findBest 20 = .ok (.getfield 17, 3) := by decide +kernel
theorem dX5_findBest_23 : decode cX5_findBest 23 = .ok (.if_icmp .ge 23, 3) := by decide +kernel
theorem dX5_findBest_26 : decode cX5_findBest 26 = .ok (.aload_n 0, 1) := by decide +kernel
theorem dX5_findBest_27 : decode cX5_findBest 27 = .ok (.getfield 25, 3) := by decide +kernel
theorem dX5_findBest_30 : decode cX5_findBest 30 = .ok (.iconst 1, 1) := by decide +kernel
theorem dX5_findBest_31 : decode cX5_findBest 31 = .ok (.iload_n 3, 1) := by decide +kernel
theorem dX5_findBest_32 : decode cX5_findBest 32 = .ok (.ishl, 1) := by decide +kernel
theorem dX5_findBest_33 : decode cX5_findBest 33 = .ok (.bipush 9, 2) := by decide +kernel
theorem dX5_findBest_35 : decode cX5_findBest 35 = .ok (.imul, 1) := by decide +kernel
theorem dX5_findBest_36 : decode cX5_findBest 36 = .ok (.iload_n 3, 1) := by decide +kernel
theorem dX5_findBest_37 : decode cX5_findBest 37 = .ok (.iadd, 1) := by decide +kernel
theorem dX5_findBest_38 : decode cX5_findBest 38 = .ok (.iconst 0, 1) := by decide +kernel
theorem dX5_findBest_39 : decode cX5_findBest 39 = .ok (.iastore, 1) := by decide +kernel
theorem dX5_findBest_40 : decode cX5_findBest 40 = .ok (.iinc 3 1, 3) := by decide +kernel
theorem dX5_findBest_43 : decode cX5_findBest 43 = .ok (.goto (-25), 3) := by decide +kernel
theorem dX5_findBest_46 : decode cX5_findBest 46 = .ok (.iconst 1, 1) := by decide +kernel
theorem dX5_findBest_47 : decode cX5_findBest 47 = .ok (.istore_n 3, 1) := by decide +kernel
theorem dX5_findBest_48 : decode cX5_findBest 48 = .ok (.iload_n 3, 1) := by decide +kernel
theorem dX5_findBest_49 : decode cX5_findBest 49 = .ok (.iload_n 2, 1) := by decide +kernel
theorem dX5_findBest_50 : decode cX5_findBest 50 = .ok (.if_icmp .ge 15, 3) := by decide +kernel
end
section
theorem dX5_findBest_53 : decode cX5_findBest 53 = .ok (.aload_n 0, 1) := by decide +kernel
theorem dX5_findBest_54 : decode cX5_findBest 54 = .ok (.iload_n 3, 1) := by decide +kernel
theorem dX5_findBest_55 : decode cX5_findBest 55 = .ok (.iload_n 1, 1) := by decide +kernel
theorem dX5_findBest_56 : decode cX5_findBest 56 = .ok (.invokevirtual 44, 3) := by decide +kernel
theorem dX5_findBest_59 : decode cX5_findBest 59 = .ok (.iinc 3 1, 3) := by decide +kernel
theorem dX5_findBest_62 : decode cX5_findBest 62 = .ok (.goto (-14), 3) := by decide +kernel
theorem dX5_findBest_65 : decode cX5_findBest 65 = .ok (.iconst 1, 1) := by decide +kernel
theorem dX5_findBest_66 : decode cX5_findBest 66 = .ok (.istore_n 3, 1) := by decide +kernel
theorem dX5_findBest_67 : decode cX5_findBest 67 = .ok (.iload_n 3, 1) := by decide +kernel
theorem dX5_findBest_68 : decode cX5_findBest 68 = .ok (.iload_n 2, 1) := by decide +kernel
theorem dX5_findBest_69 : decode cX5_findBest 69 = .ok (.if_icmp .ge 44, 3) := by decide +kernel
theorem dX5_findBest_72 : decode cX5_findBest 72 = .ok (.aload_n 0, 1) := by decide +kernel
theorem dX5_findBest_73 : decode cX5_findBest 73 = .ok (.getfield 31, 3) := by decide +kernel
theorem dX5_findBest_76 : decode cX5_findBest 76 = .ok (.iload_n 3, 1) := by decide +kernel
theorem dX5_findBest_77 : decode cX5_findBest 77 = .ok (.aload_n 0, 1) := by decide +kernel
theorem dX5_findBest_78 : decode cX5_findBest 78 = .ok (.iload_n 3, 1) := by decide +kernel
theorem dX5_findBest_79 : decode cX5_findBest 79 = .ok (.invokevirtual 48, 3) := by decide +kernel
theorem dX5_findBest_82 : decode cX5_findBest 82 = .ok (.iastore, 1) := by decide +kernel
theorem dX5_findBest_83 : decode cX5_findBest 83 = .ok (.aload_n 0, 1) := by decide +kernel
theorem dX5_findBest_84 : decode cX5_findBest 84 = .ok (.getfield 31, 3) := by decide +kernel
theorem dX5_findBest_87 : decode cX5_findBest 87 = .ok (.iload_n 3, 1) := by decide +kernel
theorem dX5_findBest_88 : decode cX5_findBest 88 = .ok (.iaload, 1) := by decide +kernel
theorem dX5_findBest_89 : decode cX5_findBest 89 = .ok (.ldc 52, 2) := by decide +kernel
theorem dX5_findBest_91 : decode cX5_findBest 91 = .ok (.if_icmp .eq 16, 3) := by decide +kernel
theorem dX5_findBest_94 : decode cX5_findBest 94 = .ok (.aload_n 0, 1) := by decide +kernel
theorem dX5_findBest_95 : decode cX5_findBest 95 = .ok (.iload_n 3, 1) := by decide +kernel
theorem dX5_findBest_96 : decode cX5_findBest 96 = .ok (.invokevirtual 53, 3) := by decide +kernel
theorem dX5_findBest_99 : decode cX5_findBest 99 = .ok (.ifCond .eq 8, 3) := by decide +kernel
theorem dX5_findBest_102 : decode cX5_findBest 102 = .ok (.aload_n 0, 1) := by decide +kernel
theorem dX5_findBest_103 : decode cX5_findBest 103 = .ok (.iload_n 3, 1) := by decide +kernel
theorem dX5_findBest_104 : decode cX5_findBest 104 = .ok (.putfield 34, 3) := by decide +kernel
theorem dX5_findBest_107 : decode cX5_findBest 107 = .ok (.iinc 3 1, 3) := by decide +kernel
theorem dX5_findBest_110 : decode cX5_findBest 110 = .ok (.goto (-43), 3) := by decide +kernel
theorem dX5_findBest_113 : decode cX5_findBest 113 = .ok (.return_, 1) := by decide +kernel
theorem dX5_swapBest_0 : decode cX5_swapBest 0 = .ok (.aload_n 0, 1) := by decide +kernel
theorem dX5_swapBest_1 : decode cX5_swapBest 1 = .ok (.getfield 31, 3) := by decide +kernel
theorem dX5_swapBest_4 : decode cX5_swapBest 4 = .ok (.aload_n 0, 1) := by decide +kernel
theorem dX5_swapBest_5 : decode cX5_swapBest 5 = .ok (.getfield 34, 3) := by decide +kernel
theorem dX5_swapBest_8 : decode cX5_swapBest 8 = .ok (.iaload, 1) := by decide +kernel
theorem dX5_swapBest_9 : decode cX5_swapBest 9 = .ok (.istore_n 1, 1) := by decide +kernel
theorem dX5_swapBest_10 : decode cX5_swapBest 10 = .ok (.bipush 8, 2) := by decide +kernel
theorem dX5_swapBest_12 : decode cX5_swapBest 12 = .ok (.istore_n 2, 1) := by decide +kernel
theorem dX5_swapBest_13 : decode cX5_swapBest 13 = .ok (.iload_n 2, 1) := by decide +kernel
theorem dX5_swapBest_14 : decode cX5_swapBest 14 = .ok (.ifCond .lt 39, 3) := by decide +kernel
theorem dX5_swapBest_17 : decode cX5_swapBest 17 = .ok (.aload_n 0, 1) := by decide +kernel
theorem dX5_swapBest_18 : decode cX5_swapBest 18 = .ok (.getfield 34, 3) := by decide +kernel
theorem dX5_swapBest_21 : decode cX5_swapBest 21 = .ok (.iload_n 2, 1) := by decide +kernel
theorem dX5_swapBest_22 : decode cX5_swapBest 22 = .ok (.invokestatic 57, 3) := by decide +kernel
theorem dX5_swapBest_25 : decode cX5_swapBest 25 = .ok (.ifCond .eq 17, 3) := by decide +kernel
theorem dX5_swapBest_28 : decode cX5_swapBest 28 = .ok (.aload_n 0, 1) := by decide +kernel
theorem dX5_swapBest_29 : decode cX5_swapBest 29 = .ok (.aload_n 0, 1) := by decide +kernel
theorem dX5_swapBest_30 : decode cX5_swapBest 30 = .ok (.getfield 11, 3) := by decide +kernel
theorem dX5_swapBest_33 : decode cX5_swapBest 33 = .ok (.iload_n 2, 1) := by decide +kernel
theorem dX5_swapBest_34 : decode cX5_swapBest 34 = .ok (.aaload, 1) := by decide +kernel
theorem dX5_swapBest_35 : decode cX5_swapBest 35 = .ok (.iload_n 1, 1) := by decide +kernel
theorem dX5_swapBest_36 : decode cX5_swapBest 36 = .ok (.bipush 10, 2) := by decide +kernel
theorem dX5_swapBest_38 : decode cX5_swapBest 38 = .ok (.irem, 1) := by decide +kernel
theorem dX5_swapBest_39 : decode cX5_swapBest 39 = .ok (.invokevirtual 61, 3) := by decide +kernel
theorem dX5_swapBest_42 : decode cX5_swapBest 42 = .ok (.iload_n 1, 1) := by decide +kernel
theorem dX5_swapBest_43 : decode cX5_swapBest 43 = .ok (.bipush 10, 2) := by decide +kernel
theorem dX5_swapBest_45 : decode cX5_swapBest 45 = .ok (.idiv, 1) := by decide +kernel
theorem dX5_swapBest_46 : decode cX5_swapBest 46 = .ok (.istore_n 1, 1) := by decide +kernel
theorem dX5_swapBest_47 : decode cX5_swapBest 47 = .ok (.iinc 2 (-1), 3) := by decide +kernel
theorem dX5_swapBest_50 : decode cX5_swapBest 50 = .ok (.goto (-37), 3) := by decide +kernel
theorem dX5_swapBest_53 : decode cX5_swapBest 53 = .ok (.aload_n 0, 1) := by decide +kernel
theorem dX5_swapBest_54 : decode cX5_swapBest 54 = .ok (.getfield 34, 3) := by decide +kernel
theorem dX5_swapBest_57 : decode cX5_swapBest 57 = .ok (.invokestatic 65, 3) := by decide +kernel
theorem dX5_swapBest_60 : decode cX5_swapBest 60 = .ok (.ireturn, 1) := by decide +kernel
theorem dX5_swap_0 : decode cX5_swap 0 = .ok (.iload_n 2, 1) := by decide +kernel
theorem dX5_swap_1 : decode cX5_swap 1 = .ok (.ifCond .lt 39, 3) := by decide +kernel
theorem dX5_swap_4 : decode cX5_swap 4 = .ok (.iload_n 2, 1) := by decide +kernel
theorem dX5_swap_5 : decode cX5_swap 5 = .ok (.aload_n 0, 1) := by decide +kernel
theorem dX5_swap_6 : decode cX5_swap 6 = .ok (.getfield 17, 3) := by decide +kernel
theorem dX5_swap_9 : decode cX5_swap 9 = .ok (.if_icmp .ge 31, 3) := by decide +kernel
theorem dX5_swap_12 : decode cX5_swap 12 = .ok (.aload_n 1, 1) := by decide +kernel
theorem dX5_swap_13 : decode cX5_swap 13 = .ok (.iconst 1, 1) := by decide +kernel
theorem dX5_swap_14 : decode cX5_swap 14 = .ok (.putfield 70, 3) := by decide +kernel
theorem dX5_swap_17 : decode cX5_swap 17 = .ok (.aload_n 1, 1) := by decide +kernel
theorem dX5_swap_18 : decode cX5_swap 18 = .ok (.aload_n 0, 1) := by decide +kernel
theorem dX5_swap_19 : decode cX5_swap 19 = .ok (.getfield 11, 3) := by decide +kernel
theorem dX5_swap_22 : decode cX5_swap 22 = .ok (.iload_n 2, 1) := by decide +kernel
theorem dX5_swap_23 : decode cX5_swap 23 = .ok (.aaload, 1) := by decide +kernel
theorem dX5_swap_24 : decode cX5_swap 24 = .ok (.putfield 73, 3) := by decide +kernel
theorem dX5_swap_27 : decode cX5_swap 27 = .ok (.aload_n 0, 1) := by decide +kernel
theorem dX5_swap_28 : decode cX5_swap 28 = .ok (.getfield 11, 3) := by decide +kernel
theorem dX5_swap_31 : decode cX5_swap 31 = .ok (.iload_n 2, 1) := by decide +kernel
theorem dX5_swap_32 : decode cX5_swap 32 = .ok (.aaload, 1) := by decide +kernel
theorem dX5_swap_33 : decode cX5_swap 33 = .ok (.aload_n 1, 1) := by decide +kernel
theorem dX5_swap_34 : decode cX5_swap 34 = .ok (.getfield 77, 3) := by decide +kernel
theorem dX5_swap_37 : decode cX5_swap 37 = .ok (.putfield 81, 3) := by decide +kernel
theorem dX5_swap_40 : decode cX5_swap 40 = .ok (.return_, 1) := by decide +kernel
theorem dX5_forgetBefore_0 : decode cX5_forgetBefore 0 = .ok (.iconst 0, 1) := by decide +kernel
theorem dX5_forgetBefore_1 : decode cX5_forgetBefore 1 = .ok (.istore_n 2, 1) := by decide +kernel
theorem dX5_forgetBefore_2 : decode cX5_forgetBefore 2 = .ok (.iload_n 2, 1) := by decide +kernel
theorem dX5_forgetBefore_3 : decode cX5_forgetBefore 3 = .ok (.iload_n 1, 1) := by decide +kernel
theorem dX5_forgetBefore_4 : decode cX5_forgetBefore 4 = .ok (.bipush 9, 2) := by decide +kernel
theorem dX5_forgetBefore_6 : decode cX5_forgetBefore 6 = .ok (.imul, 1) := by decide +kernel
theorem dX5_forgetBefore_7 : decode cX5_forgetBefore 7 = .ok (.if_icmp .ge 17, 3) := by decide +kernel
theorem dX5_forgetBefore_10 : decode cX5_forgetBefore 10 = .ok (.aload_n 0, 1) := by decide +kernel
theorem dX5_forgetBefore_11 : decode cX5_forgetBefore 11 = .ok (.getfield 25, 3) := by decide +kernel
theorem dX5_forgetBefore_14 : decode cX5_forgetBefore 14 = .ok (.iload_n 2, 1) := by decide +kernel
theorem dX5_forgetBefore_15 : decode cX5_forgetBefore 15 = .ok (.ldc 52, 2) := by decide +kernel
theorem dX5_forgetBefore_17 : decode cX5_forgetBefore 17 = .ok (.iastore, 1) := by decide +kernel
theorem dX5_forgetBefore_18 : decode cX5_forgetBefore 18 = .ok (.iinc 2 1, 3) := by decide +kernel
theorem dX5_forgetBefore_21 : decode cX5_forgetBefore 21 = .ok (.goto (-19), 3) := by decide +kernel
theorem dX5_forgetBefore_24 : decode cX5_forgetBefore 24 = .ok (.iconst 0, 1) := by decide +kernel
theorem dX5_forgetBefore_25 : decode cX5_forgetBefore 25 = .ok (.istore_n 2, 1) := by decide +kernel
theorem dX5_forgetBefore_26 : decode cX5_forgetBefore 26 = .ok (.iload_n 2, 1) := by decide +kernel
theorem dX5_forgetBefore_27 : decode cX5_forgetBefore 27 = .ok (.iload_n 1, 1) := by decide +kernel
theorem dX5_forgetBefore_28 : decode cX5_forgetBefore 28 = .ok (.if_icmp .ge 17, 3) := by decide +kernel
theorem dX5_forgetBefore_31 : decode cX5_forgetBefore 31 = .ok (.aload_n 0, 1) := by decide +kernel
theorem dX5_forgetBefore_32 : decode cX5_forgetBefore 32 = .ok (.getfield 28, 3) := by decide +kernel
theorem dX5_forgetBefore_35 : decode cX5_forgetBefore 35 = .ok (.iload_n 2, 1) := by decide +kernel
theorem dX5_forgetBefore_36 : decode cX5_forgetBefore 36 = .ok (.ldc 52, 2) := by decide +kernel
theorem dX5_forgetBefore_38 : decode cX5_forgetBefore 38 = .ok (.iastore, 1) := by decide +kernel
theorem dX5_forgetBefore_39 : decode cX5_forgetBefore 39 = .ok (.iinc 2 1, 3) := by decide +kernel
theorem dX5_forgetBefore_42 : decode cX5_forgetBefore 42 = .ok (.goto (-16), 3) := by decide +kernel
theorem dX5_forgetBefore_45 : decode cX5_forgetBefore 45 = .ok (.return_, 1) := by decide +kernel
theorem dX5_leastOf_0 : decode cX5_leastOf 0 = .ok (.iload_n 0, 1) := by decide +kernel
theorem dX5_leastOf_1 : decode cX5_leastOf 1 = .ok (.iload_n 0, 1) := by decide +kernel
theorem dX5_leastOf_2 : decode cX5_leastOf 2 = .ok (.ineg, 1) := by decide +kernel
theorem dX5_leastOf_3 : decode cX5_leastOf 3 = .ok (.iand, 1) := by decide +kernel
theorem dX5_leastOf_4 : decode cX5_leastOf 4 = .ok (.iconst 1, 1) := by decide +kernel
theorem dX5_leastOf_5 : decode cX5_leastOf 5 = .ok (.isub, 1) := by decide +kernel
theorem dX5_leastOf_6 : decode cX5_leastOf 6 = .ok (.invokestatic 65, 3) := by decide +kernel
theorem dX5_leastOf_9 : decode cX5_leastOf 9 = .ok (.ireturn, 1) := by decide +kernel
theorem dX5_has_0 : decode cX5_has 0 = .ok (.iload_n 0, 1) := by decide +kernel
theorem dX5_has_1 : decode cX5_has 1 = .ok (.iload_n 1, 1) := by decide +kernel
theorem dX5_has_2 : decode cX5_has 2 = .ok (.ishr, 1) := by decide +kernel
theorem dX5_has_3 : decode cX5_has 3 = .ok (.iconst 1, 1) := by decide +kernel
theorem dX5_has_4 : decode cX5_has 4 = .ok (.iand, 1) := by decide +kernel
theorem dX5_has_5 : decode cX5_has 5 = .ok (.iconst 1, 1) := by decide +kernel
theorem dX5_has_6 : decode cX5_has 6 = .ok (.if_icmp .ne 7, 3) := by decide +kernel
theorem dX5_has_9 : decode cX5_has 9 = .ok (.iconst 1, 1) := by decide +kernel
theorem dX5_has_10 : decode cX5_has 10 = .ok (.goto 4, 3) := by decide +kernel
theorem dX5_has_13 : decode cX5_has 13 = .ok (.iconst 0, 1) := by decide +kernel
theorem dX5_has_14 : decode cX5_has 14 = .ok (.ireturn, 1) := by decide +kernel
theorem dX5_findSuiting_0 : decode cX5_findSuiting 0 = .ok (.iconst 0, 1) := by decide +kernel
theorem dX5_findSuiting_1 : decode cX5_findSuiting 1 = .ok (.istore_n 1, 1) := by decide +kernel
theorem dX5_findSuiting_2 : decode cX5_findSuiting 2 = .ok (.iload_n 1, 1) := by decide +kernel
theorem dX5_findSuiting_3 : decode cX5_findSuiting 3 = .ok (.aload_n 0, 1) := by decide +kernel
theorem dX5_findSuiting_4 : decode cX5_findSuiting 4 = .ok (.getfield 17, 3) := by decide +kernel
theorem dX5_findSuiting_7 : decode cX5_findSuiting 7 = .ok (.if_icmp .ge 70, 3) := by decide +kernel
theorem dX5_findSuiting_10 : decode cX5_findSuiting 10 = .ok (.aload_n 0, 1) := by decide +kernel
theorem dX5_findSuiting_11 : decode cX5_findSuiting 11 = .ok (.getfield 21, 3) := by decide +kernel
theorem dX5_findSuiting_14 : decode cX5_findSuiting 14 = .ok (.iload_n 1, 1) := by decide +kernel
theorem dX5_findSuiting_15 : decode cX5_findSuiting 15 = .ok (.iconst 0, 1) := by decide +kernel
theorem dX5_findSuiting_16 : decode cX5_findSuiting 16 = .ok (.iastore, 1) := by decide +kernel
theorem dX5_findSuiting_17 : decode cX5_findSuiting 17 = .ok (.iconst 0, 1) := by decide +kernel
theorem dX5_findSuiting_18 : decode cX5_findSuiting 18 = .ok (.istore_n 2, 1) := by decide +kernel
theorem dX5_findSuiting_19 : decode cX5_findSuiting 19 = .ok (.iload_n 2, 1) := by decide +kernel
theorem dX5_findSuiting_20 : decode cX5_findSuiting 20 = .ok (.aload_n 0, 1) := by decide +kernel
theorem dX5_findSuiting_21 : decode cX5_findSuiting 21 = .ok (.getfield 17, 3) := by decide +kernel
theorem dX5_findSuiting_24 : decode cX5_findSuiting 24 = .ok (.if_icmp .ge 47, 3) := by decide +kernel
theorem dX5_findSuiting_27 : decode cX5_findSuiting 27 = .ok (.iload_n 1, 1) := by decide +kernel
theorem dX5_findSuiting_28 : decode cX5_findSuiting 28 = .ok (.iload_n 2, 1) := by decide +kernel
theorem dX5_findSuiting_29 : decode cX5_findSuiting 29 = .ok (.if_icmp .eq 36, 3) := by decide +kernel
theorem dX5_findSuiting_32 : decode cX5_findSuiting 32 = .ok (.aload_n 0, 1) := by decide +kernel
theorem dX5_findSuiting_33 : decode cX5_findSuiting 33 = .ok (.getfield 11, 3) := by decide +kernel
theorem dX5_findSuiting_36 : decode cX5_findSuiting 36 = .ok (.iload_n 2, 1) := by decide +kernel
theorem dX5_findSuiting_37 : decode cX5_findSuiting 37 = .ok (.aaload, 1) := by decide +kernel
theorem dX5_findSuiting_38 : decode cX5_findSuiting 38 = .ok (.aload_n 0, 1) := by decide +kernel
theorem dX5_findSuiting_39 : decode cX5_findSuiting 39 = .ok (.getfield 11, 3) := by decide +kernel
theorem dX5_findSuiting_42 : decode cX5_findSuiting 42 = .ok (.iload_n 1, 1) := by decide +kernel
theorem dX5_findSuiting_43 : decode cX5_findSuiting 43 = .ok (.aaload, 1) := by decide +kernel
theorem dX5_findSuiting_44 : decode cX5_findSuiting 44 = .ok (.getfield 84, 3) := by decide +kernel
theorem dX5_findSuiting_47 : decode cX5_findSuiting 47 = .ok (.invokevirtual 88, 3) := by decide +kernel
theorem dX5_findSuiting_50 : decode cX5_findSuiting 50 = .ok (.ifCond .eq 15, 3) := by decide +kernel
theorem dX5_findSuiting_53 : decode cX5_findSuiting 53 = .ok (.aload_n 0, 1) := by decide +kernel
theorem dX5_findSuiting_54 : decode cX5_findSuiting 54 = .ok (.getfield 21, 3) := by decide +kernel
theorem dX5_findSuiting_57 : decode cX5_findSuiting 57 = .ok (.iload_n 1, 1) := by decide +kernel
theorem dX5_findSuiting_58 : decode cX5_findSuiting 58 = .ok (.dup2, 1) := by decide +kernel
theorem dX5_findSuiting_59 : decode cX5_findSuiting 59 = .ok (.iaload, 1) := by decide +kernel
theorem dX5_findSuiting_60 : decode cX5_findSuiting 60 = .ok (.iconst 1, 1) := by decide +kernel
theorem dX5_findSuiting_61 : decode cX5_findSuiting 61 = .ok (.iload_n 2, 1) := by decide +kernel
theorem dX5_findSuiting_62 : decode cX5_findSuiting 62 = .ok (.ishl, 1) := by decide +kernel
theorem dX5_findSuiting_63 : decode cX5_findSuiting 63 = .ok (.ior, 1) := by decide +kernel
theorem dX5_findSuiting_64 : decode cX5_findSuiting 64 = .ok (.iastore, 1) := by decide +kernel
theorem dX5_findSuiting_65 : decode cX5_findSuiting 65 = .ok (.iinc 2 1, 3) := by decide +kernel
theorem dX5_findSuiting_68 : decode cX5_findSuiting 68 = .ok (.goto (-49), 3) := by decide +kernel
theorem dX5_findSuiting_71 : decode cX5_findSuiting 71 = .ok (.iinc 1 1, 3) := by decide +kernel
theorem dX5_findSuiting_74 : decode cX5_findSuiting 74 = .ok (.goto (-72), 3) := by decide +kernel
theorem dX5_findSuiting_77 : decode cX5_findSuiting 77 = .ok (.return_, 1) := by decide +kernel
theorem dX5_goOnFrom_0 : decode cX5_goOnFrom 0 = .ok (.iload_n 1, 1) := by decide +kernel
theorem dX5_goOnFrom_1 : decode cX5_goOnFrom 1 = .ok (.invokestatic 92, 3) := by decide +kernel
theorem dX5_goOnFrom_4 : decode cX5_goOnFrom 4 = .ok (.istore_n 3, 1) := by decide +kernel
theorem dX5_goOnFrom_5 : decode cX5_goOnFrom 5 = .ok (.iload_n 1, 1) := by decide +kernel
theorem dX5_goOnFrom_6 : decode cX5_goOnFrom 6 = .ok (.invokestatic 65, 3) := by decide +kernel
theorem dX5_goOnFrom_9 : decode cX5_goOnFrom 9 = .ok (.istore 4, 2) := by decide +kernel
theorem dX5_goOnFrom_11 : decode cX5_goOnFrom 11 = .ok (.iload 4, 2) := by decide +kernel
theorem dX5_goOnFrom_13 : decode cX5_goOnFrom 13 = .ok (.iload_n 2, 1) := by decide +kernel
theorem dX5_goOnFrom_14 : decode cX5_goOnFrom 14 = .ok (.if_icmp .le 4, 3) := by decide +kernel
theorem dX5_goOnFrom_17 : decode cX5_goOnFrom 17 = .ok (.return_, 1) := by decide +kernel
theorem dX5_goOnFrom_18 : decode cX5_goOnFrom 18 = .ok (.iload_n 3, 1) := by decide +kernel
theorem dX5_goOnFrom_19 : decode cX5_goOnFrom 19 = .ok (.istore 5, 2) := by decide +kernel
theorem dX5_goOnFrom_21 : decode cX5_goOnFrom 21 = .ok (.iload 5, 2) := by decide +kernel
theorem dX5_goOnFrom_23 : decode cX5_goOnFrom 23 = .ok (.aload_n 0, 1) := by decide +kernel
theorem dX5_goOnFrom_24 : decode cX5_goOnFrom 24 = .ok (.getfield 17, 3) := by decide +kernel
theorem dX5_goOnFrom_27 : decode cX5_goOnFrom 27 = .ok (.if_icmp .ge 78, 3) := by decide +kernel
theorem dX5_goOnFrom_30 : decode cX5_goOnFrom 30 = .ok (.aload_n 0, 1) := by decide +kernel
theorem dX5_goOnFrom_31 : decode cX5_goOnFrom 31 = .ok (.getfield 25, 3) := by decide +kernel
theorem dX5_goOnFrom_34 : decode cX5_goOnFrom 34 = .ok (.iload_n 1, 1) := by decide +kernel
theorem dX5_goOnFrom_35 : decode cX5_goOnFrom 35 = .ok (.bipush 9, 2) := by decide +kernel
theorem dX5_goOnFrom_37 : decode cX5_goOnFrom 37 = .ok (.imul, 1) := by decide +kernel
theorem dX5_goOnFrom_38 : decode cX5_goOnFrom 38 = .ok (.iload 5, 2) := by decide +kernel
theorem dX5_goOnFrom_40 : decode cX5_goOnFrom 40 = .ok (.iadd, 1) := by decide +kernel
theorem dX5_goOnFrom_41 : decode cX5_goOnFrom 41 = .ok (.iaload, 1) := by decide +kernel
theorem dX5_goOnFrom_42 : decode cX5_goOnFrom 42 = .ok (.istore 6, 2) := by decide +kernel
theorem dX5_goOnFrom_44 : decode cX5_goOnFrom 44 = .ok (.iload 6, 2) := by decide +kernel
theorem dX5_goOnFrom_46 : decode cX5_goOnFrom 46 = .ok (.ldc 52, 2) := by decide +kernel
theorem dX5_goOnFrom_48 : decode cX5_goOnFrom 48 = .ok (.if_icmp .eq 51, 3) := by decide +kernel
theorem dX5_goOnFrom_51 : decode cX5_goOnFrom 51 = .ok (.aload_n 0, 1) := by decide +kernel
theorem dX5_goOnFrom_52 : decode cX5_goOnFrom 52 = .ok (.getfield 21, 3) := by decide +kernel
theorem dX5_goOnFrom_55 : decode cX5_goOnFrom 55 = .ok (.iload 5, 2) := by decide +kernel
theorem dX5_goOnFrom_57 : decode cX5_goOnFrom 57 = .ok (.iaload, 1) := by decide +kernel
theorem dX5_goOnFrom_58 : decode cX5_goOnFrom 58 = .ok (.iload_n 3, 1) := by decide +kernel
theorem dX5_goOnFrom_59 : decode cX5_goOnFrom 59 = .ok (.invokestatic 57, 3) := by decide +kernel
theorem dX5_goOnFrom_62 : decode cX5_goOnFrom 62 = .ok (.ifCond .eq 29, 3) := by decide +kernel
theorem dX5_goOnFrom_65 : decode cX5_goOnFrom 65 = .ok (.aload_n 0, 1) := by decide +kernel
theorem dX5_goOnFrom_66 : decode cX5_goOnFrom 66 = .ok (.getfield 28, 3) := by decide +kernel
theorem dX5_goOnFrom_69 : decode cX5_goOnFrom 69 = .ok (.iload_n 1, 1) := by decide +kernel
theorem dX5_goOnFrom_70 : decode cX5_goOnFrom 70 = .ok (.aload_n 0, 1) := by decide +kernel
theorem dX5_goOnFrom_71 : decode cX5_goOnFrom 71 = .ok (.getfield 28, 3) := by decide +kernel
theorem dX5_goOnFrom_74 : decode cX5_goOnFrom 74 = .ok (.iload_n 1, 1) := by decide +kernel
theorem dX5_goOnFrom_75 : decode cX5_goOnFrom 75 = .ok (.iaload, 1) := by decide +kernel
theorem dX5_goOnFrom_76 : decode cX5_goOnFrom 76 = .ok (.iload 6, 2) := by decide +kernel
theorem dX5_goOnFrom_78 : decode cX5_goOnFrom 78 = .ok (.iload_n 3, 1) := by decide +kernel
theorem dX5_goOnFrom_79 : decode cX5_goOnFrom 79 = .ok (.getstatic 95, 3) := by decide +kernel
theorem dX5_goOnFrom_82 : decode cX5_goOnFrom 82 = .ok (.iload 5, 2) := by decide +kernel
theorem dX5_goOnFrom_84 : decode cX5_goOnFrom 84 = .ok (.iaload, 1) := by decide +kernel
theorem dX5_goOnFrom_85 : decode cX5_goOnFrom 85 = .ok (.imul, 1) := by decide +kernel
theorem dX5_goOnFrom_86 : decode cX5_goOnFrom 86 = .ok (.iadd, 1) := by decide +kernel
theorem dX5_goOnFrom_87 : decode cX5_goOnFrom 87 = .ok (.invokestatic 98, 3) := by decide +kernel
theorem dX5_goOnFrom_90 : decode cX5_goOnFrom 90 = .ok (.iastore, 1) := by decide +kernel
theorem dX5_goOnFrom_91 : decode cX5_goOnFrom 91 = .ok (.aload_n 0, 1) := by decide +kernel
theorem dX5_goOnFrom_92 : decode cX5_goOnFrom 92 = .ok (.iload_n 1, 1) := by decide +kernel
theorem dX5_goOnFrom_93 : decode cX5_goOnFrom 93 = .ok (.iload_n 3, 1) := by decide +kernel
theorem dX5_goOnFrom_94 : decode cX5_goOnFrom 94 = .ok (.iload 5, 2) := by decide +kernel
theorem dX5_goOnFrom_96 : decode cX5_goOnFrom 96 = .ok (.invokevirtual 104, 3) := by decide +kernel
theorem dX5_goOnFrom_99 : decode cX5_goOnFrom 99 = .ok (.iinc 5 1, 3) := by decide +kernel
theorem dX5_goOnFrom_102 : decode cX5_goOnFrom 102 = .ok (.goto (-81), 3) := by decide +kernel
theorem dX5_goOnFrom_105 : decode cX5_goOnFrom 105 = .ok (.return_, 1) := by decide +kernel
theorem dX5_lengthen_0 : decode cX5_lengthen 0 = .ok (.aload_n 0, 1) := by decide +kernel
theorem dX5_lengthen_1 : decode cX5_lengthen 1 = .ok (.getfield 25, 3) := by decide +kernel
theorem dX5_lengthen_4 : decode cX5_lengthen 4 = .ok (.iload_n 1, 1) := by decide +kernel
theorem dX5_lengthen_5 : decode cX5_lengthen 5 = .ok (.bipush 9, 2) := by decide +kernel
theorem dX5_lengthen_7 : decode cX5_lengthen 7 = .ok (.imul, 1) := by decide +kernel
theorem dX5_lengthen_8 : decode cX5_lengthen 8 = .ok (.iload_n 3, 1) := by decide +kernel
theorem dX5_lengthen_9 : decode cX5_lengthen 9 = .ok (.iadd, 1) := by decide +kernel
theorem dX5_lengthen_10 : decode cX5_lengthen 10 = .ok (.iaload, 1) := by decide +kernel
theorem dX5_lengthen_11 : decode cX5_lengthen 11 = .ok (.istore 4, 2) := by decide +kernel
theorem dX5_lengthen_13 : decode cX5_lengthen 13 = .ok (.aload_n 0, 1) := by decide +kernel
theorem dX5_lengthen_14 : decode cX5_lengthen 14 = .ok (.getfield 21, 3) := by decide +kernel
theorem dX5_lengthen_17 : decode cX5_lengthen 17 = .ok (.iload_n 3, 1) := by decide +kernel
theorem dX5_lengthen_18 : decode cX5_lengthen 18 = .ok (.iaload, 1) := by decide +kernel
theorem dX5_lengthen_19 : decode cX5_lengthen 19 = .ok (.iload_n 1, 1) := by decide +kernel
theorem dX5_lengthen_20 : decode cX5_lengthen 20 = .ok (.iconst (-1), 1) := by decide +kernel
theorem dX5_lengthen_21 : decode cX5_lengthen 21 = .ok (.ixor, 1) := by decide +kernel
theorem dX5_lengthen_22 : decode cX5_lengthen 22 = .ok (.iand, 1) := by decide +kernel
theorem dX5_lengthen_23 : decode cX5_lengthen 23 = .ok (.istore 5, 2) := by decide +kernel
theorem dX5_lengthen_25 : decode cX5_lengthen 25 = .ok (.iload_n 2, 1) := by decide +kernel
theorem dX5_lengthen_26 : decode cX5_lengthen 26 = .ok (.iconst 1, 1) := by decide +kernel
theorem dX5_lengthen_27 : decode cX5_lengthen 27 = .ok (.iadd, 1) := by decide +kernel
theorem dX5_lengthen_28 : decode cX5_lengthen 28 = .ok (.istore 6, 2) := by decide +kernel
theorem dX5_lengthen_30 : decode cX5_lengthen 30 = .ok (.iload 6, 2) := by decide +kernel
theorem dX5_lengthen_32 : decode cX5_lengthen 32 = .ok (.aload_n 0, 1) := by decide +kernel
theorem dX5_lengthen_33 : decode cX5_lengthen 33 = .ok (.getfield 17, 3) := by decide +kernel
theorem dX5_lengthen_36 : decode cX5_lengthen 36 = .ok (.if_icmp .ge 61, 3) := by decide +kernel
theorem dX5_lengthen_39 : decode cX5_lengthen 39 = .ok (.iload 5, 2) := by decide +kernel
theorem dX5_lengthen_41 : decode cX5_lengthen 41 = .ok (.iload 6, 2) := by decide +kernel
theorem dX5_lengthen_43 : decode cX5_lengthen 43 = .ok (.invokestatic 57, 3) := by decide +kernel
theorem dX5_lengthen_46 : decode cX5_lengthen 46 = .ok (.ifCond .eq 45, 3) := by decide +kernel
theorem dX5_lengthen_49 : decode cX5_lengthen 49 = .ok (.iload_n 1, 1) := by decide +kernel
theorem dX5_lengthen_50 : decode cX5_lengthen 50 = .ok (.iconst 1, 1) := by decide +kernel
theorem dX5_lengthen_51 : decode cX5_lengthen 51 = .ok (.iload 6, 2) := by decide +kernel
theorem dX5_lengthen_53 : decode cX5_lengthen 53 = .ok (.ishl, 1) := by decide +kernel
theorem dX5_lengthen_54 : decode cX5_lengthen 54 = .ok (.ior, 1) := by decide +kernel
theorem dX5_lengthen_55 : decode cX5_lengthen 55 = .ok (.bipush 9, 2) := by decide +kernel
theorem dX5_lengthen_57 : decode cX5_lengthen 57 = .ok (.imul, 1) := by decide +kernel
theorem dX5_lengthen_58 : decode cX5_lengthen 58 = .ok (.iload 6, 2) := by decide +kernel
theorem dX5_lengthen_60 : decode cX5_lengthen 60 = .ok (.iadd, 1) := by decide +kernel
theorem dX5_lengthen_61 : decode cX5_lengthen 61 = .ok (.istore 7, 2) := by decide +kernel
theorem dX5_lengthen_63 : decode cX5_lengthen 63 = .ok (.aload_n 0, 1) := by decide +kernel
theorem dX5_lengthen_64 : decode cX5_lengthen 64 = .ok (.getfield 25, 3) := by decide +kernel
theorem dX5_lengthen_67 : decode cX5_lengthen 67 = .ok (.iload 7, 2) := by decide +kernel
theorem dX5_lengthen_69 : decode cX5_lengthen 69 = .ok (.aload_n 0, 1) := by decide +kernel
theorem dX5_lengthen_70 : decode cX5_lengthen 70 = .ok (.getfield 25, 3) := by decide +kernel
theorem dX5_lengthen_73 : decode cX5_lengthen 73 = .ok (.iload 7, 2) := by decide +kernel
theorem dX5_lengthen_75 : decode cX5_lengthen 75 = .ok (.iaload, 1) := by decide +kernel
theorem dX5_lengthen_76 : decode cX5_lengthen 76 = .ok (.iload 4, 2) := by decide +kernel
theorem dX5_lengthen_78 : decode cX5_lengthen 78 = .ok (.iload 6, 2) := by decide +kernel
theorem dX5_lengthen_80 : decode cX5_lengthen 80 = .ok (.getstatic 95, 3) := by decide +kernel
theorem dX5_lengthen_83 : decode cX5_lengthen 83 = .ok (.iload_n 3, 1) := by decide +kernel
theorem dX5_lengthen_84 : decode cX5_lengthen 84 = .ok (.iaload, 1) := by decide +kernel
theorem dX5_lengthen_85 : decode cX5_lengthen 85 = .ok (.imul, 1) := by decide +kernel
theorem dX5_lengthen_86 : decode cX5_lengthen 86 = .ok (.iadd, 1) := by decide +kernel
theorem dX5_lengthen_87 : decode cX5_lengthen 87 = .ok (.invokestatic 98, 3) := by decide +kernel
theorem dX5_lengthen_90 : decode cX5_lengthen 90 = .ok (.iastore, 1) := by decide +kernel
theorem dX5_lengthen_91 : decode cX5_lengthen 91 = .ok (.iinc 6 1, 3) := by decide +kernel
theorem dX5_lengthen_94 : decode cX5_lengthen 94 = .ok (.goto (-64), 3) := by decide +kernel
theorem dX5_lengthen_97 : decode cX5_lengthen 97 = .ok (.return_, 1) := by decide +kernel
theorem dX5_firstWay_0 : decode cX5_firstWay 0 = .ok (.iload_n 1, 1) := by decide +kernel
theorem dX5_firstWay_1 : decode cX5_firstWay 1 = .ok (.iload_n 1, 1) := by decide +kernel
theorem dX5_firstWay_2 : decode cX5_firstWay 2 = .ok (.iconst 1, 1) := by decide +kernel
theorem dX5_firstWay_3 : decode cX5_firstWay 3 = .ok (.isub, 1) := by decide +kernel
theorem dX5_firstWay_4 : decode cX5_firstWay 4 = .ok (.iand, 1) := by decide +kernel
theorem dX5_firstWay_5 : decode cX5_firstWay 5 = .ok (.istore_n 2, 1) := by decide +kernel
theorem dX5_firstWay_6 : decode cX5_firstWay 6 = .ok (.aload_n 0, 1) := by decide +kernel
theorem dX5_firstWay_7 : decode cX5_firstWay 7 = .ok (.getfield 28, 3) := by decide +kernel
theorem dX5_firstWay_10 : decode cX5_firstWay 10 = .ok (.iload_n 1, 1) := by decide +kernel
theorem dX5_firstWay_11 : decode cX5_firstWay 11 = .ok (.iaload, 1) := by decide +kernel
theorem dX5_firstWay_12 : decode cX5_firstWay 12 = .ok (.istore_n 3, 1) := by decide +kernel
theorem dX5_firstWay_13 : decode cX5_firstWay 13 = .ok (.iload_n 2, 1) := by decide +kernel
theorem dX5_firstWay_14 : decode cX5_firstWay 14 = .ok (.istore 4, 2) := by decide +kernel
theorem dX5_firstWay_16 : decode cX5_firstWay 16 = .ok (.iload 4, 2) := by decide +kernel
theorem dX5_firstWay_18 : decode cX5_firstWay 18 = .ok (.ifCond .le 61, 3) := by decide +kernel
theorem dX5_firstWay_21 : decode cX5_firstWay 21 = .ok (.aload_n 0, 1) := by decide +kernel
theorem dX5_firstWay_22 : decode cX5_firstWay 22 = .ok (.getfield 28, 3) := by decide +kernel
theorem dX5_firstWay_25 : decode cX5_firstWay 25 = .ok (.iload_n 1, 1) := by decide +kernel
theorem dX5_firstWay_26 : decode cX5_firstWay 26 = .ok (.iload 4, 2) := by decide +kernel
theorem dX5_firstWay_28 : decode cX5_firstWay 28 = .ok (.iconst (-1), 1) := by decide +kernel
theorem dX5_firstWay_29 : decode cX5_firstWay 29 = .ok (.ixor, 1) := by decide +kernel
theorem dX5_firstWay_30 : decode cX5_firstWay 30 = .ok (.iand, 1) := by decide +kernel
theorem dX5_firstWay_31 : decode cX5_firstWay 31 = .ok (.iaload, 1) := by decide +kernel
theorem dX5_firstWay_32 : decode cX5_firstWay 32 = .ok (.istore 5, 2) := by decide +kernel
theorem dX5_firstWay_34 : decode cX5_firstWay 34 = .ok (.iload 5, 2) := by decide +kernel
theorem dX5_firstWay_36 : decode cX5_firstWay 36 = .ok (.ldc 52, 2) := by decide +kernel
theorem dX5_firstWay_38 : decode cX5_firstWay 38 = .ok (.if_icmp .eq 30, 3) := by decide +kernel
theorem dX5_firstWay_41 : decode cX5_firstWay 41 = .ok (.aload_n 0, 1) := by decide +kernel
theorem dX5_firstWay_42 : decode cX5_firstWay 42 = .ok (.getfield 31, 3) := by decide +kernel
theorem dX5_firstWay_45 : decode cX5_firstWay 45 = .ok (.iload 4, 2) := by decide +kernel
theorem dX5_firstWay_47 : decode cX5_firstWay 47 = .ok (.iaload, 1) := by decide +kernel
theorem dX5_firstWay_48 : decode cX5_firstWay 48 = .ok (.ldc 52, 2) := by decide +kernel
theorem dX5_firstWay_50 : decode cX5_firstWay 50 = .ok (.if_icmp .eq 18, 3) := by decide +kernel
theorem dX5_firstWay_53 : decode cX5_firstWay 53 = .ok (.iload_n 3, 1) := by decide +kernel
theorem dX5_firstWay_54 : decode cX5_firstWay 54 = .ok (.iload 5, 2) := by decide +kernel
theorem dX5_firstWay_56 : decode cX5_firstWay 56 = .ok (.aload_n 0, 1) := by decide +kernel
theorem dX5_firstWay_57 : decode cX5_firstWay 57 = .ok (.getfield 31, 3) := by decide +kernel
theorem dX5_firstWay_60 : decode cX5_firstWay 60 = .ok (.iload 4, 2) := by decide +kernel
theorem dX5_firstWay_62 : decode cX5_firstWay 62 = .ok (.iaload, 1) := by decide +kernel
theorem dX5_firstWay_63 : decode cX5_firstWay 63 = .ok (.iadd, 1) := by decide +kernel
theorem dX5_firstWay_64 : decode cX5_firstWay 64 = .ok (.invokestatic 98, 3) := by decide +kernel
theorem dX5_firstWay_67 : decode cX5_firstWay 67 = .ok (.istore_n 3, 1) := by decide +kernel
theorem dX5_firstWay_68 : decode cX5_firstWay 68 = .ok (.iload 4, 2) := by decide +kernel
theorem dX5_firstWay_70 : decode cX5_firstWay 70 = .ok (.iconst 1, 1) := by decide +kernel
theorem dX5_firstWay_71 : decode cX5_firstWay 71 = .ok (.isub, 1) := by decide +kernel
theorem dX5_firstWay_72 : decode cX5_firstWay 72 = .ok (.iload_n 2, 1) := by decide +kernel
theorem dX5_firstWay_73 : decode cX5_firstWay 73 = .ok (.iand, 1) := by decide +kernel
theorem dX5_firstWay_74 : decode cX5_firstWay 74 = .ok (.istore 4, 2) := by decide +kernel
theorem dX5_firstWay_76 : decode cX5_firstWay 76 = .ok (.goto (-60), 3) := by decide +kernel
theorem dX5_firstWay_79 : decode cX5_firstWay 79 = .ok (.iload_n 3, 1) := by decide +kernel
theorem dX5_firstWay_80 : decode cX5_firstWay 80 = .ok (.ireturn, 1) := by decide +kernel
theorem dX5_isBetter_0 : decode cX5_isBetter 0 = .ok (.iload_n 1, 1) := by decide +kernel
theorem dX5_isBetter_1 : decode cX5_isBetter 1 = .ok (.invokestatic 65, 3) := by decide +kernel
theorem dX5_isBetter_4 : decode cX5_isBetter 4 = .ok (.aload_n 0, 1) := by decide +kernel
theorem dX5_isBetter_5 : decode cX5_isBetter 5 = .ok (.getfield 34, 3) := by decide +kernel
theorem dX5_isBetter_8 : decode cX5_isBetter 8 = .ok (.invokestatic 65, 3) := by decide +kernel
theorem dX5_isBetter_11 : decode cX5_isBetter 11 = .ok (.isub, 1) := by decide +kernel
theorem dX5_isBetter_12 : decode cX5_isBetter 12 = .ok (.istore_n 2, 1) := by decide +kernel
theorem dX5_isBetter_13 : decode cX5_isBetter 13 = .ok (.iload_n 2, 1) := by decide +kernel
theorem dX5_isBetter_14 : decode cX5_isBetter 14 = .ok (.ifCond .eq 13, 3) := by decide +kernel
theorem dX5_isBetter_17 : decode cX5_isBetter 17 = .ok (.iload_n 2, 1) := by decide +kernel
theorem dX5_isBetter_18 : decode cX5_isBetter 18 = .ok (.ifCond .le 7, 3) := by decide +kernel
theorem dX5_isBetter_21 : decode cX5_isBetter 21 = .ok (.iconst 1, 1) := by decide +kernel
theorem dX5_isBetter_22 : decode cX5_isBetter 22 = .ok (.goto 4, 3) := by decide +kernel
theorem dX5_isBetter_25 : decode cX5_isBetter 25 = .ok (.iconst 0, 1) := by decide +kernel
theorem dX5_isBetter_26 : decode cX5_isBetter 26 = .ok (.ireturn, 1) := by decide +kernel
theorem dX5_isBetter_27 : decode cX5_isBetter 27 = .ok (.aload_n 0, 1) := by decide +kernel
theorem dX5_isBetter_28 : decode cX5_isBetter 28 = .ok (.iload_n 1, 1) := by decide +kernel
theorem dX5_isBetter_29 : decode cX5_isBetter 29 = .ok (.invokevirtual 108, 3) := by decide +kernel
theorem dX5_isBetter_32 : decode cX5_isBetter 32 = .ok (.aload_n 0, 1) := by decide +kernel
theorem dX5_isBetter_33 : decode cX5_isBetter 33 = .ok (.aload_n 0, 1) := by decide +kernel
theorem dX5_isBetter_34 : decode cX5_isBetter 34 = .ok (.getfield 34, 3) := by decide +kernel
theorem dX5_isBetter_37 : decode cX5_isBetter 37 = .ok (.invokevirtual 108, 3) := by decide +kernel
theorem dX5_isBetter_40 : decode cX5_isBetter 40 = .ok (.isub, 1) := by decide +kernel
theorem dX5_isBetter_41 : decode cX5_isBetter 41 = .ok (.istore_n 3, 1) := by decide +kernel
theorem dX5_isBetter_42 : decode cX5_isBetter 42 = .ok (.iload_n 3, 1) := by decide +kernel
theorem dX5_isBetter_43 : decode cX5_isBetter 43 = .ok (.ifCond .eq 13, 3) := by decide +kernel
theorem dX5_isBetter_46 : decode cX5_isBetter 46 = .ok (.iload_n 3, 1) := by decide +kernel
theorem dX5_isBetter_47 : decode cX5_isBetter 47 = .ok (.ifCond .le 7, 3) := by decide +kernel
theorem dX5_isBetter_50 : decode cX5_isBetter 50 = .ok (.iconst 1, 1) := by decide +kernel
theorem dX5_isBetter_51 : decode cX5_isBetter 51 = .ok (.goto 4, 3) := by decide +kernel
theorem dX5_isBetter_54 : decode cX5_isBetter 54 = .ok (.iconst 0, 1) := by decide +kernel
theorem dX5_isBetter_55 : decode cX5_isBetter 55 = .ok (.ireturn, 1) := by decide +kernel
theorem dX5_isBetter_56 : decode cX5_isBetter 56 = .ok (.aload_n 0, 1) := by decide +kernel
theorem dX5_isBetter_57 : decode cX5_isBetter 57 = .ok (.iload_n 1, 1) := by decide +kernel
theorem dX5_isBetter_58 : decode cX5_isBetter 58 = .ok (.invokevirtual 111, 3) := by decide +kernel
theorem dX5_isBetter_61 : decode cX5_isBetter 61 = .ok (.aload_n 0, 1) := by decide +kernel
theorem dX5_isBetter_62 : decode cX5_isBetter 62 = .ok (.aload_n 0, 1) := by decide +kernel
theorem dX5_isBetter_63 : decode cX5_isBetter 63 = .ok (.getfield 34, 3) := by decide +kernel
theorem dX5_isBetter_66 : decode cX5_isBetter 66 = .ok (.invokevirtual 111, 3) := by decide +kernel
theorem dX5_isBetter_69 : decode cX5_isBetter 69 = .ok (.if_icmp .ge 7, 3) := by decide +kernel
theorem dX5_isBetter_72 : decode cX5_isBetter 72 = .ok (.iconst 1, 1) := by decide +kernel
theorem dX5_isBetter_73 : decode cX5_isBetter 73 = .ok (.goto 4, 3) := by decide +kernel
theorem dX5_isBetter_76 : decode cX5_isBetter 76 = .ok (.iconst 0, 1) := by decide +kernel
theorem dX5_isBetter_77 : decode cX5_isBetter 77 = .ok (.ireturn, 1) := by decide +kernel
theorem dX5_sumWorth_0 : decode cX5_sumWorth 0 = .ok (.iconst 0, 1) := by decide +kernel
theorem dX5_sumWorth_1 : decode cX5_sumWorth 1 = .ok (.istore_n 2, 1) := by decide +kernel
theorem dX5_sumWorth_2 : decode cX5_sumWorth 2 = .ok (.iconst 0, 1) := by decide +kernel
theorem dX5_sumWorth_3 : decode cX5_sumWorth 3 = .ok (.istore_n 3, 1) := by decide +kernel
theorem dX5_sumWorth_4 : decode cX5_sumWorth 4 = .ok (.iload_n 3, 1) := by decide +kernel
theorem dX5_sumWorth_5 : decode cX5_sumWorth 5 = .ok (.aload_n 0, 1) := by decide +kernel
theorem dX5_sumWorth_6 : decode cX5_sumWorth 6 = .ok (.getfield 17, 3) := by decide +kernel
theorem dX5_sumWorth_9 : decode cX5_sumWorth 9 = .ok (.if_icmp .ge 29, 3) := by decide +kernel
theorem dX5_sumWorth_12 : decode cX5_sumWorth 12 = .ok (.iload_n 1, 1) := by decide +kernel
theorem dX5_sumWorth_13 : decode cX5_sumWorth 13 = .ok (.iload_n 3, 1) := by decide +kernel
theorem dX5_sumWorth_14 : decode cX5_sumWorth 14 = .ok (.invokestatic 57, 3) := by decide +kernel
theorem dX5_sumWorth_17 : decode cX5_sumWorth 17 = .ok (.ifCond .eq 15, 3) := by decide +kernel
theorem dX5_sumWorth_20 : decode cX5_sumWorth 20 = .ok (.iload_n 2, 1) := by decide +kernel
theorem dX5_sumWorth_21 : decode cX5_sumWorth 21 = .ok (.aload_n 0, 1) := by decide +kernel
theorem dX5_sumWorth_22 : decode cX5_sumWorth 22 = .ok (.getfield 11, 3) := by decide +kernel
theorem dX5_sumWorth_25 : decode cX5_sumWorth 25 = .ok (.iload_n 3, 1) := by decide +kernel
theorem dX5_sumWorth_26 : decode cX5_sumWorth 26 = .ok (.aaload, 1) := by decide +kernel
theorem dX5_sumWorth_27 : decode cX5_sumWorth 27 = .ok (.getfield 114, 3) := by decide +kernel
theorem dX5_sumWorth_30 : decode cX5_sumWorth 30 = .ok (.iadd, 1) := by decide +kernel
theorem dX5_sumWorth_31 : decode cX5_sumWorth 31 = .ok (.istore_n 2, 1) := by decide +kernel
theorem dX5_sumWorth_32 : decode cX5_sumWorth 32 = .ok (.iinc 3 1, 3) := by decide +kernel
theorem dX5_sumWorth_35 : decode cX5_sumWorth 35 = .ok (.goto (-31), 3) := by decide +kernel
theorem dX5_sumWorth_38 : decode cX5_sumWorth 38 = .ok (.iload_n 2, 1) := by decide +kernel
theorem dX5_sumWorth_39 : decode cX5_sumWorth 39 = .ok (.ireturn, 1) := by decide +kernel
theorem dX5_wholeWay_0 : decode cX5_wholeWay 0 = .ok (.aload_n 0, 1) := by decide +kernel
theorem dX5_wholeWay_1 : decode cX5_wholeWay 1 = .ok (.getfield 31, 3) := by decide +kernel
theorem dX5_wholeWay_4 : decode cX5_wholeWay 4 = .ok (.iload_n 1, 1) := by decide +kernel
theorem dX5_wholeWay_5 : decode cX5_wholeWay 5 = .ok (.iaload, 1) := by decide +kernel
theorem dX5_wholeWay_6 : decode cX5_wholeWay 6 = .ok (.istore_n 2, 1) := by decide +kernel
theorem dX5_wholeWay_7 : decode cX5_wholeWay 7 = .ok (.iconst 0, 1) := by decide +kernel
theorem dX5_wholeWay_8 : decode cX5_wholeWay 8 = .ok (.istore_n 3, 1) := by decide +kernel
theorem dX5_wholeWay_9 : decode cX5_wholeWay 9 = .ok (.iload_n 3, 1) := by decide +kernel
theorem dX5_wholeWay_10 : decode cX5_wholeWay 10 = .ok (.aload_n 0, 1) := by decide +kernel
theorem dX5_wholeWay_11 : decode cX5_wholeWay 11 = .ok (.getfield 17, 3) := by decide +kernel
theorem dX5_wholeWay_14 : decode cX5_wholeWay 14 = .ok (.if_icmp .ge 28, 3) := by decide +kernel
theorem dX5_wholeWay_17 : decode cX5_wholeWay 17 = .ok (.iload_n 1, 1) := by decide +kernel
theorem dX5_wholeWay_18 : decode cX5_wholeWay 18 = .ok (.iload_n 3, 1) := by decide +kernel
theorem dX5_wholeWay_19 : decode cX5_wholeWay 19 = .ok (.invokestatic 57, 3) := by decide +kernel
theorem dX5_wholeWay_22 : decode cX5_wholeWay 22 = .ok (.ifCond .ne 14, 3) := by decide +kernel
theorem dX5_wholeWay_25 : decode cX5_wholeWay 25 = .ok (.iload_n 2, 1) := by decide +kernel
theorem dX5_wholeWay_26 : decode cX5_wholeWay 26 = .ok (.bipush 9, 2) := by decide +kernel
theorem dX5_wholeWay_28 : decode cX5_wholeWay 28 = .ok (.getstatic 95, 3) := by decide +kernel
theorem dX5_wholeWay_31 : decode cX5_wholeWay 31 = .ok (.iload_n 3, 1) := by decide +kernel
theorem dX5_wholeWay_32 : decode cX5_wholeWay 32 = .ok (.iaload, 1) := by decide +kernel
theorem dX5_wholeWay_33 : decode cX5_wholeWay 33 = .ok (.imul, 1) := by decide +kernel
theorem dX5_wholeWay_34 : decode cX5_wholeWay 34 = .ok (.iadd, 1) := by decide +kernel
theorem dX5_wholeWay_35 : decode cX5_wholeWay 35 = .ok (.istore_n 2, 1) := by decide +kernel
theorem dX5_wholeWay_36 : decode cX5_wholeWay 36 = .ok (.iinc 3 1, 3) := by decide +kernel
theorem dX5_wholeWay_39 : decode cX5_wholeWay 39 = .ok (.goto (-30), 3) := by decide +kernel
theorem dX5_wholeWay_42 : decode cX5_wholeWay 42 = .ok (.iload_n 2, 1) := by decide +kernel
theorem dX5_wholeWay_43 : decode cX5_wholeWay 43 = .ok (.ireturn, 1) := by decide +kernel
theorem dX6_init_0 : decode cX6_init 0 = .ok (.aload_n 0, 1) := by decide +kernel
theorem dX6_init_1 : decode cX6_init 1 = .ok (.invokespecial 3, 3) := by decide +kernel
theorem dX6_init_4 : decode cX6_init 4 = .ok (.aload_n 0, 1) := by decide +kernel
theorem dX6_init_5 : decode cX6_init 5 = .ok (.bipush 53, 2) := by decide +kernel
theorem dX6_init_7 : decode cX6_init 7 = .ok (.newarray .int, 2) := by decide +kernel
theorem dX6_init_9 : decode cX6_init 9 = .ok (.putfield 9, 3) := by decide +kernel
theorem dX6_init_12 : decode cX6_init 12 = .ok (.aload_n 0, 1) := by decide +kernel
theorem dX6_init_13 : decode cX6_init 13 = .ok (.iconst 5, 1) := by decide +kernel
theorem dX6_init_14 : decode cX6_init 14 = .ok (.newarray .int, 2) := by decide +kernel
theorem dX6_init_16 : decode cX6_init 16 = .ok (.putfield 15, 3) := by decide +kernel
theorem dX6_init_19 : decode cX6_init 19 = .ok (.aload_n 0, 1) := by decide +kernel
theorem dX6_init_20 : decode cX6_init 20 = .ok (.bipush 53, 2) := by decide +kernel
theorem dX6_init_22 : decode cX6_init 22 = .ok (.newarray .int, 2) := by decide +kernel
theorem dX6_init_24 : decode cX6_init 24 = .ok (.putfield 18, 3) := by decide +kernel
theorem dX6_init_27 : decode cX6_init 27 = .ok (.aload_n 0, 1) := by decide +kernel
theorem dX6_init_28 : decode cX6_init 28 = .ok (.iconst 0, 1) := by decide +kernel
theorem dX6_init_29 : decode cX6_init 29 = .ok (.putfield 21, 3) := by decide +kernel
theorem dX6_init_32 : decode cX6_init 32 = .ok (.aload_n 0, 1) := by decide +kernel
theorem dX6_init_33 : decode cX6_init 33 = .ok (.iconst 0, 1) := by decide +kernel
theorem dX6_init_34 : decode cX6_init 34 = .ok (.putfield 25, 3) := by decide +kernel
theorem dX6_init_37 : decode cX6_init 37 = .ok (.aload_n 0, 1) := by decide +kernel
theorem dX6_init_38 : decode cX6_init 38 = .ok (.getfield 18, 3) := by decide +kernel
theorem dX6_init_41 : decode cX6_init 41 = .ok (.iconst (-1), 1) := by decide +kernel
theorem dX6_init_42 : decode cX6_init 42 = .ok (.invokestatic 29, 3) := by decide +kernel
theorem dX6_init_45 : decode cX6_init 45 = .ok (.return_, 1) := by decide +kernel
theorem dX6_clear_0 : decode cX6_clear 0 = .ok (.aload_n 0, 1) := by decide +kernel
theorem dX6_clear_1 : decode cX6_clear 1 = .ok (.getfield 9, 3) := by decide +kernel
theorem dX6_clear_4 : decode cX6_clear 4 = .ok (.iconst 0, 1) := by decide +kernel
theorem dX6_clear_5 : decode cX6_clear 5 = .ok (.invokestatic 29, 3) := by decide +kernel
theorem dX6_clear_8 : decode cX6_clear 8 = .ok (.aload_n 0, 1) := by decide +kernel
theorem dX6_clear_9 : decode cX6_clear 9 = .ok (.getfield 15, 3) := by decide +kernel
theorem dX6_clear_12 : decode cX6_clear 12 = .ok (.iconst 0, 1) := by decide +kernel
theorem dX6_clear_13 : decode cX6_clear 13 = .ok (.invokestatic 29, 3) := by decide +kernel
theorem dX6_clear_16 : decode cX6_clear 16 = .ok (.aload_n 0, 1) := by decide +kernel
theorem dX6_clear_17 : decode cX6_clear 17 = .ok (.getfield 18, 3) := by decide +kernel
theorem dX6_clear_20 : decode cX6_clear 20 = .ok (.iconst (-1), 1) := by decide +kernel
theorem dX6_clear_21 : decode cX6_clear 21 = .ok (.invokestatic 29, 3) := by decide +kernel
theorem dX6_clear_24 : decode cX6_clear 24 = .ok (.aload_n 0, 1) := by decide +kernel
theorem dX6_clear_25 : decode cX6_clear 25 = .ok (.iconst 0, 1) := by decide +kernel
theorem dX6_clear_26 : decode cX6_clear 26 = .ok (.putfield 21, 3) := by decide +kernel
theorem dX6_clear_29 : decode cX6_clear 29 = .ok (.aload_n 0, 1) := by decide +kernel
theorem dX6_clear_30 : decode cX6_clear 30 = .ok (.iconst 0, 1) := by decide +kernel
theorem dX6_clear_31 : decode cX6_clear 31 = .ok (.putfield 25, 3) := by decide +kernel
theorem dX6_clear_34 : decode cX6_clear 34 = .ok (.return_, 1) := by decide +kernel
theorem dX6_setSeason_0 : decode cX6_setSeason 0 = .ok (.iload_n 1, 1) := by decide +kernel
theorem dX6_setSeason_1 : decode cX6_setSeason 1 = .ok (.iconst 0, 1) := by decide +kernel
theorem dX6_setSeason_2 : decode cX6_setSeason 2 = .ok (.invokestatic 35, 3) := by decide +kernel
theorem dX6_setSeason_5 : decode cX6_setSeason 5 = .ok (.istore 4, 2) := by decide +kernel
theorem dX6_setSeason_7 : decode cX6_setSeason 7 = .ok (.iload 4, 2) := by decide +kernel
theorem dX6_setSeason_9 : decode cX6_setSeason 9 = .ok (.iload_n 2, 1) := by decide +kernel
theorem dX6_setSeason_10 : decode cX6_setSeason 10 = .ok (.if_icmp .gt 24, 3) := by decide +kernel
theorem dX6_setSeason_13 : decode cX6_setSeason 13 = .ok (.iload 4, 2) := by decide +kernel
theorem dX6_setSeason_15 : decode cX6_setSeason 15 = .ok (.bipush 53, 2) := by decide +kernel
theorem dX6_setSeason_17 : decode cX6_setSeason 17 = .ok (.if_icmp .ge 17, 3) := by decide +kernel
theorem dX6_setSeason_20 : decode cX6_setSeason 20 = .ok (.aload_n 0, 1) := by decide +kernel
theorem dX6_setSeason_21 : decode cX6_setSeason 21 = .ok (.getfield 9, 3) := by decide +kernel
theorem dX6_setSeason_24 : decode cX6_setSeason 24 = .ok (.iload 4, 2) := by decide +kernel
theorem dX6_setSeason_26 : decode cX6_setSeason 26 = .ok (.iload_n 3, 1) := by decide +kernel
theorem dX6_setSeason_27 : decode cX6_setSeason 27 = .ok (.iastore, 1) := by decide +kernel
theorem dX6_setSeason_28 : decode cX6_setSeason 28 = .ok (.iinc 4 1, 3) := by decide +kernel
theorem dX6_setSeason_31 : decode cX6_setSeason 31 = .ok (.goto (-24), 3) := by decide +kernel
theorem dX6_setSeason_34 : decode cX6_setSeason 34 = .ok (.return_, 1) := by decide +kernel
theorem dX6_setSize_0 : decode cX6_setSize 0 = .ok (.iload_n 1, 1) := by decide +kernel
theorem dX6_setSize_1 : decode cX6_setSize 1 = .ok (.invokestatic 41, 3) := by decide +kernel
theorem dX6_setSize_4 : decode cX6_setSize 4 = .ok (.ifCond .eq 10, 3) := by decide +kernel
theorem dX6_setSize_7 : decode cX6_setSize 7 = .ok (.aload_n 0, 1) := by decide +kernel
theorem dX6_setSize_8 : decode cX6_setSize 8 = .ok (.getfield 15, 3) := by decide +kernel
theorem dX6_setSize_11 : decode cX6_setSize 11 = .ok (.iload_n 1, 1) := by decide +kernel
theorem dX6_setSize_12 : decode cX6_setSize 12 = .ok (.iload_n 2, 1) := by decide +kernel
theorem dX6_setSize_13 : decode cX6_setSize 13 = .ok (.iastore, 1) := by decide +kernel
theorem dX6_setSize_14 : decode cX6_setSize 14 = .ok (.return_, 1) := by decide +kernel
theorem dX6_setEarly_0 : decode cX6_setEarly 0 = .ok (.iload_n 1, 1) := by decide +kernel
theorem dX6_setEarly_1 : decode cX6_setEarly 1 = .ok (.invokestatic 45, 3) := by decide +kernel
theorem dX6_setEarly_4 : decode cX6_setEarly 4 = .ok (.ifCond .eq 10, 3) := by decide +kernel
theorem dX6_setEarly_7 : decode cX6_setEarly 7 = .ok (.aload_n 0, 1) := by decide +kernel
theorem dX6_setEarly_8 : decode cX6_setEarly 8 = .ok (.getfield 18, 3) := by decide +kernel
theorem dX6_setEarly_11 : decode cX6_setEarly 11 = .ok (.iload_n 1, 1) := by decide +kernel
theorem dX6_setEarly_12 : decode cX6_setEarly 12 = .ok (.iload_n 2, 1) := by decide +kernel
theorem dX6_setEarly_13 : decode cX6_setEarly 13 = .ok (.iastore, 1) := by decide +kernel
theorem dX6_setEarly_14 : decode cX6_setEarly 14 = .ok (.return_, 1) := by decide +kernel
theorem dX6_worthOf_0 : decode cX6_worthOf 0 = .ok (.iload_n 1, 1) := by decide +kernel
theorem dX6_worthOf_1 : decode cX6_worthOf 1 = .ok (.invokestatic 41, 3) := by decide +kernel
theorem dX6_worthOf_4 : decode cX6_worthOf 4 = .ok (.ifCond .eq 10, 3) := by decide +kernel
theorem dX6_worthOf_7 : decode cX6_worthOf 7 = .ok (.iload_n 2, 1) := by decide +kernel
theorem dX6_worthOf_8 : decode cX6_worthOf 8 = .ok (.invokestatic 45, 3) := by decide +kernel
theorem dX6_worthOf_11 : decode cX6_worthOf 11 = .ok (.ifCond .ne 5, 3) := by decide +kernel
theorem dX6_worthOf_14 : decode cX6_worthOf 14 = .ok (.iconst 0, 1) := by decide +kernel
theorem dX6_worthOf_15 : decode cX6_worthOf 15 = .ok (.ireturn, 1) := by decide +kernel
theorem dX6_worthOf_16 : decode cX6_worthOf 16 = .ok (.aload_n 0, 1) := by decide +kernel
theorem dX6_worthOf_17 : decode cX6_worthOf 17 = .ok (.getfield 9, 3) := by decide +kernel
theorem dX6_worthOf_20 : decode cX6_worthOf 20 = .ok (.iload_n 2, 1) := by decide +kernel
theorem dX6_worthOf_21 : decode cX6_worthOf 21 = .ok (.iaload, 1) := by decide +kernel
theorem dX6_worthOf_22 : decode cX6_worthOf 22 = .ok (.aload_n 0, 1) := by decide +kernel
theorem dX6_worthOf_23 : decode cX6_worthOf 23 = .ok (.getfield 15, 3) := by decide +kernel
theorem dX6_worthOf_26 : decode cX6_worthOf 26 = .ok (.iload_n 1, 1) := by decide +kernel
theorem dX6_worthOf_27 : decode cX6_worthOf 27 = .ok (.iaload, 1) := by decide +kernel
theorem dX6_worthOf_28 : decode cX6_worthOf 28 = .ok (.iadd, 1) := by decide +kernel
theorem dX6_worthOf_29 : decode cX6_worthOf 29 = .ok (.aload_n 0, 1) := by decide +kernel
theorem dX6_worthOf_30 : decode cX6_worthOf 30 = .ok (.iload_n 3, 1) := by decide +kernel
theorem dX6_worthOf_31 : decode cX6_worthOf 31 = .ok (.invokevirtual 48, 3) := by decide +kernel
theorem dX6_worthOf_34 : decode cX6_worthOf 34 = .ok (.iadd, 1) := by decide +kernel
theorem dX6_worthOf_35 : decode cX6_worthOf 35 = .ok (.ireturn, 1) := by decide +kernel
theorem dX6_earlyOf_0 : decode cX6_earlyOf 0 = .ok (.iload_n 1, 1) := by decide +kernel
theorem dX6_earlyOf_1 : decode cX6_earlyOf 1 = .ok (.bipush 52, 2) := by decide +kernel
theorem dX6_earlyOf_3 : decode cX6_earlyOf 3 = .ok (.invokestatic 52, 3) := by decide +kernel
theorem dX6_earlyOf_6 : decode cX6_earlyOf 6 = .ok (.istore_n 2, 1) := by decide +kernel
theorem dX6_earlyOf_7 : decode cX6_earlyOf 7 = .ok (.iload_n 2, 1) := by decide +kernel
theorem dX6_earlyOf_8 : decode cX6_earlyOf 8 = .ok (.ifCond .lt 26, 3) := by decide +kernel
theorem dX6_earlyOf_11 : decode cX6_earlyOf 11 = .ok (.aload_n 0, 1) := by decide +kernel
theorem dX6_earlyOf_12 : decode cX6_earlyOf 12 = .ok (.getfield 18, 3) := by decide +kernel
theorem dX6_earlyOf_15 : decode cX6_earlyOf 15 = .ok (.iload_n 2, 1) := by decide +kernel
theorem dX6_earlyOf_16 : decode cX6_earlyOf 16 = .ok (.iaload, 1) := by decide +kernel
theorem dX6_earlyOf_17 : decode cX6_earlyOf 17 = .ok (.iconst (-1), 1) := by decide +kernel
theorem dX6_earlyOf_18 : decode cX6_earlyOf 18 = .ok (.if_icmp .eq 10, 3) := by decide +kernel
theorem dX6_earlyOf_21 : decode cX6_earlyOf 21 = .ok (.aload_n 0, 1) := by decide +kernel
theorem dX6_earlyOf_22 : decode cX6_earlyOf 22 = .ok (.getfield 18, 3) := by decide +kernel
theorem dX6_earlyOf_25 : decode cX6_earlyOf 25 = .ok (.iload_n 2, 1) := by decide +kernel
theorem dX6_earlyOf_26 : decode cX6_earlyOf 26 = .ok (.iaload, 1) := by decide +kernel
theorem dX6_earlyOf_27 : decode cX6_earlyOf 27 = .ok (.ireturn, 1) := by decide +kernel
theorem dX6_earlyOf_28 : decode cX6_earlyOf 28 = .ok (.iinc 2 (-1), 3) := by decide +kernel
theorem dX6_earlyOf_31 : decode cX6_earlyOf 31 = .ok (.goto (-24), 3) := by decide +kernel
theorem dX6_earlyOf_34 : decode cX6_earlyOf 34 = .ok (.iconst 0, 1) := by decide +kernel
theorem dX6_earlyOf_35 : decode cX6_earlyOf 35 = .ok (.ireturn, 1) := by decide +kernel
theorem dX7_init_0 : decode cX7_init 0 = .ok (.aload_n 0, 1) := by decide +kernel
theorem dX7_init_1 : decode cX7_init 1 = .ok (.invokespecial 1, 3) := by decide +kernel
theorem dX7_init_4 : decode cX7_init 4 = .ok (.aload_n 0, 1) := by decide +kernel
theorem dX7_init_5 : decode cX7_init 5 = .ok (.iload_n 1, 1) := by decide +kernel
theorem dX7_init_6 : decode cX7_init 6 = .ok (.putfield 7, 3) := by decide +kernel
theorem dX7_init_9 : decode cX7_init 9 = .ok (.aload_n 0, 1) := by decide +kernel
theorem dX7_init_10 : decode cX7_init 10 = .ok (.iload_n 2, 1) := by decide +kernel
theorem dX7_init_11 : decode cX7_init 11 = .ok (.putfield 13, 3) := by decide +kernel
theorem dX7_init_14 : decode cX7_init 14 = .ok (.aload_n 0, 1) := by decide +kernel
theorem dX7_init_15 : decode cX7_init 15 = .ok (.iload_n 3, 1) := by decide +kernel
theorem dX7_init_16 : decode cX7_init 16 = .ok (.putfield 16, 3) := by decide +kernel
theorem dX7_init_19 : decode cX7_init 19 = .ok (.aload_n 0, 1) := by decide +kernel
theorem dX7_init_20 : decode cX7_init 20 = .ok (.iload 4, 2) := by decide +kernel
theorem dX7_init_22 : decode cX7_init 22 = .ok (.putfield 19, 3) := by decide +kernel
theorem dX7_init_25 : decode cX7_init 25 = .ok (.return_, 1) := by decide +kernel
theorem dX8_init_0 : decode cX8_init 0 = .ok (.aload_n 0, 1) := by decide +kernel
theorem dX8_init_1 : decode cX8_init 1 = .ok (.invokespecial 1, 3) := by decide +kernel
theorem dX8_init_4 : decode cX8_init 4 = .ok (.aload_n 0, 1) := by decide +kernel
theorem dX8_init_5 : decode cX8_init 5 = .ok (.bipush 6, 2) := by decide +kernel
theorem dX8_init_7 : decode cX8_init 7 = .ok (.anewarray 9, 3) := by decide +kernel
theorem dX8_init_10 : decode cX8_init 10 = .ok (.putfield 11, 3) := by decide +kernel
theorem dX8_init_13 : decode cX8_init 13 = .ok (.aload_n 0, 1) := by decide +kernel
theorem dX8_init_14 : decode cX8_init 14 = .ok (.iconst 0, 1) := by decide +kernel
theorem dX8_init_15 : decode cX8_init 15 = .ok (.putfield 15, 3) := by decide +kernel
theorem dX8_init_18 : decode cX8_init 18 = .ok (.aload_n 0, 1) := by decide +kernel
theorem dX8_init_19 : decode cX8_init 19 = .ok (.bipush 10, 2) := by decide +kernel
theorem dX8_init_21 : decode cX8_init 21 = .ok (.anewarray 19, 3) := by decide +kernel
theorem dX8_init_24 : decode cX8_init 24 = .ok (.putfield 21, 3) := by decide +kernel
theorem dX8_init_27 : decode cX8_init 27 = .ok (.aload_n 0, 1) := by decide +kernel
theorem dX8_init_28 : decode cX8_init 28 = .ok (.iconst 0, 1) := by decide +kernel
theorem dX8_init_29 : decode cX8_init 29 = .ok (.putfield 25, 3) := by decide +kernel
theorem dX8_init_32 : decode cX8_init 32 = .ok (.aload_n 0, 1) := by decide +kernel
theorem dX8_init_33 : decode cX8_init 33 = .ok (.sipush 200, 3) := by decide +kernel
theorem dX8_init_36 : decode cX8_init 36 = .ok (.anewarray 28, 3) := by decide +kernel
theorem dX8_init_39 : decode cX8_init 39 = .ok (.putfield 30, 3) := by decide +kernel
theorem dX8_init_42 : decode cX8_init 42 = .ok (.aload_n 0, 1) := by decide +kernel
theorem dX8_init_43 : decode cX8_init 43 = .ok (.iconst 0, 1) := by decide +kernel
theorem dX8_init_44 : decode cX8_init 44 = .ok (.putfield 34, 3) := by decide +kernel
theorem dX8_init_47 : decode cX8_init 47 = .ok (.aload_n 0, 1) := by decide +kernel
theorem dX8_init_48 : decode cX8_init 48 = .ok (.new 37, 3) := by decide +kernel
theorem dX8_init_51 : decode cX8_init 51 = .ok (.dup, 1) := by decide +kernel
theorem dX8_init_52 : decode cX8_init 52 = .ok (.invokespecial 39, 3) := by decide +kernel
theorem dX8_init_55 : decode cX8_init 55 = .ok (.putfield 40, 3) := by decide +kernel
theorem dX8_init_58 : decode cX8_init 58 = .ok (.aload_n 0, 1) := by decide +kernel
theorem dX8_init_59 : decode cX8_init 59 = .ok (.new 44, 3) := by decide +kernel
theorem dX8_init_62 : decode cX8_init 62 = .ok (.dup, 1) := by decide +kernel
theorem dX8_init_63 : decode cX8_init 63 = .ok (.invokespecial 46, 3) := by decide +kernel
theorem dX8_init_66 : decode cX8_init 66 = .ok (.putfield 47, 3) := by decide +kernel
theorem dX8_init_69 : decode cX8_init 69 = .ok (.aload_n 0, 1) := by decide +kernel
theorem dX8_init_70 : decode cX8_init 70 = .ok (.new 44, 3) := by decide +kernel
theorem dX8_init_73 : decode cX8_init 73 = .ok (.dup, 1) := by decide +kernel
theorem dX8_init_74 : decode cX8_init 74 = .ok (.invokespecial 46, 3) := by decide +kernel
theorem dX8_init_77 : decode cX8_init 77 = .ok (.putfield 51, 3) := by decide +kernel
theorem dX8_init_80 : decode cX8_init 80 = .ok (.aload_n 0, 1) := by decide +kernel
theorem dX8_init_81 : decode cX8_init 81 = .ok (.iconst 0, 1) := by decide +kernel
theorem dX8_init_82 : decode cX8_init 82 = .ok (.putfield 54, 3) := by decide +kernel
theorem dX8_init_85 : decode cX8_init 85 = .ok (.aload_n 0, 1) := by decide +kernel
theorem dX8_init_86 : decode cX8_init 86 = .ok (.iconst 0, 1) := by decide +kernel
theorem dX8_init_87 : decode cX8_init 87 = .ok (.putfield 57, 3) := by decide +kernel
theorem dX8_init_90 : decode cX8_init 90 = .ok (.aload_n 0, 1) := by decide +kernel
theorem dX8_init_91 : decode cX8_init 91 = .ok (.new 60, 3) := by decide +kernel
theorem dX8_init_94 : decode cX8_init 94 = .ok (.dup, 1) := by decide +kernel
theorem dX8_init_95 : decode cX8_init 95 = .ok (.invokespecial 62, 3) := by decide +kernel
theorem dX8_init_98 : decode cX8_init 98 = .ok (.putfield 63, 3) := by decide +kernel
theorem dX8_init_101 : decode cX8_init 101 = .ok (.aload_n 0, 1) := by decide +kernel
theorem dX8_init_102 : decode cX8_init 102 = .ok (.new 67, 3) := by decide +kernel
theorem dX8_init_105 : decode cX8_init 105 = .ok (.dup, 1) := by decide +kernel
theorem dX8_init_106 : decode cX8_init 106 = .ok (.invokespecial 69, 3) := by decide +kernel
theorem dX8_init_109 : decode cX8_init 109 = .ok (.putfield 70, 3) := by decide +kernel
theorem dX8_init_112 : decode cX8_init 112 = .ok (.return_, 1) := by decide +kernel
theorem dX8_flat_0 : decode cX8_flat 0 = .ok (.iload_n 1, 1) := by decide +kernel
theorem dX8_flat_1 : decode cX8_flat 1 = .ok (.ifCond .lt 24, 3) := by decide +kernel
theorem dX8_flat_4 : decode cX8_flat 4 = .ok (.iload_n 1, 1) := by decide +kernel
theorem dX8_flat_5 : decode cX8_flat 5 = .ok (.iconst 3, 1) := by decide +kernel
theorem dX8_flat_6 : decode cX8_flat 6 = .ok (.if_icmp .gt 19, 3) := by decide +kernel
theorem dX8_flat_9 : decode cX8_flat 9 = .ok (.iload_n 2, 1) := by decide +kernel
theorem dX8_flat_10 : decode cX8_flat 10 = .ok (.invokestatic 74, 3) := by decide +kernel
theorem dX8_flat_13 : decode cX8_flat 13 = .ok (.ifCond .eq 12, 3) := by decide +kernel
theorem dX8_flat_16 : decode cX8_flat 16 = .ok (.aload_n 0, 1) := by decide +kernel
theorem dX8_flat_17 : decode cX8_flat 17 = .ok (.getfield 15, 3) := by decide +kernel
theorem dX8_flat_20 : decode cX8_flat 20 = .ok (.bipush 6, 2) := by decide +kernel
theorem dX8_flat_22 : decode cX8_flat 22 = .ok (.if_icmp .lt 5, 3) := by decide +kernel
theorem dX8_flat_25 : decode cX8_flat 25 = .ok (.iconst (-1), 1) := by decide +kernel
theorem dX8_flat_26 : decode cX8_flat 26 = .ok (.ireturn, 1) := by decide +kernel
theorem dX8_flat_27 : decode cX8_flat 27 = .ok (.aload_n 0, 1) := by decide +kernel
theorem dX8_flat_28 : decode cX8_flat 28 = .ok (.getfield 15, 3) := by decide +kernel
theorem dX8_flat_31 : decode cX8_flat 31 = .ok (.istore_n 3, 1) := by decide +kernel
theorem dX8_flat_32 : decode cX8_flat 32 = .ok (.aload_n 0, 1) := by decide +kernel
theorem dX8_flat_33 : decode cX8_flat 33 = .ok (.getfield 11, 3) := by decide +kernel
theorem dX8_flat_36 : decode cX8_flat 36 = .ok (.iload_n 3, 1) := by decide +kernel
theorem dX8_flat_37 : decode cX8_flat 37 = .ok (.new 9, 3) := by decide +kernel
theorem dX8_flat_40 : decode cX8_flat 40 = .ok (.dup, 1) := by decide +kernel
theorem dX8_flat_41 : decode cX8_flat 41 = .ok (.iload_n 3, 1) := by decide +kernel
theorem dX8_flat_42 : decode cX8_flat 42 = .ok (.iload_n 1, 1) := by decide +kernel
theorem dX8_flat_43 : decode cX8_flat 43 = .ok (.iload_n 2, 1) := by decide +kernel
theorem dX8_flat_44 : decode cX8_flat 44 = .ok (.invokespecial 78, 3) := by decide +kernel
theorem dX8_flat_47 : decode cX8_flat 47 = .ok (.aastore, 1) := by decide +kernel
theorem dX8_flat_48 : decode cX8_flat 48 = .ok (.aload_n 0, 1) := by decide +kernel
theorem dX8_flat_49 : decode cX8_flat 49 = .ok (.dup, 1) := by decide +kernel
theorem dX8_flat_50 : decode cX8_flat 50 = .ok (.getfield 15, 3) := by decide +kernel
theorem dX8_flat_53 : decode cX8_flat 53 = .ok (.iconst 1, 1) := by decide +kernel
theorem dX8_flat_54 : decode cX8_flat 54 = .ok (.iadd, 1) := by decide +kernel
theorem dX8_flat_55 : decode cX8_flat 55 = .ok (.putfield 15, 3) := by decide +kernel
theorem dX8_flat_58 : decode cX8_flat 58 = .ok (.iload_n 3, 1) := by decide +kernel
theorem dX8_flat_59 : decode cX8_flat 59 = .ok (.ireturn, 1) := by decide +kernel
theorem dX8_owner_0 : decode cX8_owner 0 = .ok (.iload_n 1, 1) := by decide +kernel
theorem dX8_owner_1 : decode cX8_owner 1 = .ok (.ifCond .lt 19, 3) := by decide +kernel
theorem dX8_owner_4 : decode cX8_owner 4 = .ok (.iload_n 1, 1) := by decide +kernel
theorem dX8_owner_5 : decode cX8_owner 5 = .ok (.sipush 9999, 3) := by decide +kernel
theorem dX8_owner_8 : decode cX8_owner 8 = .ok (.if_icmp .gt 12, 3) := by decide +kernel
theorem dX8_owner_11 : decode cX8_owner 11 = .ok (.aload_n 0, 1) := by decide +kernel
theorem dX8_owner_12 : decode cX8_owner 12 = .ok (.getfield 25, 3) := by decide +kernel
theorem dX8_owner_15 : decode cX8_owner 15 = .ok (.bipush 10, 2) := by decide +kernel
theorem dX8_owner_17 : decode cX8_owner 17 = .ok (.if_icmp .lt 5, 3) := by decide +kernel
theorem dX8_owner_20 : decode cX8_owner 20 = .ok (.iconst (-1), 1) := by decide +kernel
theorem dX8_owner_21 : decode cX8_owner 21 = .ok (.ireturn, 1) := by decide +kernel
theorem dX8_owner_22 : decode cX8_owner 22 = .ok (.aload_n 0, 1) := by decide +kernel
theorem dX8_owner_23 : decode cX8_owner 23 = .ok (.getfield 25, 3) := by decide +kernel
theorem dX8_owner_26 : decode cX8_owner 26 = .ok (.istore_n 2, 1) := by decide +kernel
theorem dX8_owner_27 : decode cX8_owner 27 = .ok (.aload_n 0, 1) := by decide +kernel
theorem dX8_owner_28 : decode cX8_owner 28 = .ok (.getfield 21, 3) := by decide +kernel
theorem dX8_owner_31 : decode cX8_owner 31 = .ok (.iload_n 2, 1) := by decide +kernel
theorem dX8_owner_32 : decode cX8_owner 32 = .ok (.new 19, 3) := by decide +kernel
theorem dX8_owner_35 : decode cX8_owner 35 = .ok (.dup, 1) := by decide +kernel
theorem dX8_owner_36 : decode cX8_owner 36 = .ok (.iload_n 2, 1) := by decide +kernel
theorem dX8_owner_37 : decode cX8_owner 37 = .ok (.iload_n 1, 1) := by decide +kernel
theorem dX8_owner_38 : decode cX8_owner 38 = .ok (.invokespecial 81, 3) := by decide +kernel
theorem dX8_owner_41 : decode cX8_owner 41 = .ok (.aastore, 1) := by decide +kernel
theorem dX8_owner_42 : decode cX8_owner 42 = .ok (.aload_n 0, 1) := by decide +kernel
theorem dX8_owner_43 : decode cX8_owner 43 = .ok (.dup, 1) := by decide +kernel
theorem dX8_owner_44 : decode cX8_owner 44 = .ok (.getfield 25, 3) := by decide +kernel
theorem dX8_owner_47 : decode cX8_owner 47 = .ok (.iconst 1, 1) := by decide +kernel
theorem dX8_owner_48 : decode cX8_owner 48 = .ok (.iadd, 1) := by decide +kernel
theorem dX8_owner_49 : decode cX8_owner 49 = .ok (.putfield 25, 3) := by decide +kernel
theorem dX8_owner_52 : decode cX8_owner 52 = .ok (.iload_n 2, 1) := by decide +kernel
theorem dX8_owner_53 : decode cX8_owner 53 = .ok (.ireturn, 1) := by decide +kernel
theorem dX8_own_0 : decode cX8_own 0 = .ok (.aload_n 0, 1) := by decide +kernel
theorem dX8_own_1 : decode cX8_own 1 = .ok (.iload_n 1, 1) := by decide +kernel
theorem dX8_own_2 : decode cX8_own 2 = .ok (.invokevirtual 84, 3) := by decide +kernel
theorem dX8_own_5 : decode cX8_own 5 = .ok (.astore 4, 2) := by decide +kernel
theorem dX8_own_7 : decode cX8_own 7 = .ok (.aload_n 0, 1) := by decide +kernel
theorem dX8_own_8 : decode cX8_own 8 = .ok (.iload_n 3, 1) := by decide +kernel
theorem dX8_own_9 : decode cX8_own 9 = .ok (.invokevirtual 88, 3) := by decide +kernel
theorem dX8_own_12 : decode cX8_own 12 = .ok (.astore 5, 2) := by decide +kernel
theorem dX8_own_14 : decode cX8_own 14 = .ok (.aload 4, 2) := by decide +kernel
theorem dX8_own_16 : decode cX8_own 16 = .ok (.ifnull 20, 3) := by decide +kernel
theorem dX8_own_19 : decode cX8_own 19 = .ok (.iload_n 2, 1) := by decide +kernel
theorem dX8_own_20 : decode cX8_own 20 = .ok (.invokestatic 92, 3) := by decide +kernel
theorem dX8_own_23 : decode cX8_own 23 = .ok (.ifCond .eq 13, 3) := by decide +kernel
theorem dX8_own_26 : decode cX8_own 26 = .ok (.aload 5, 2) := by decide +kernel
theorem dX8_own_28 : decode cX8_own 28 = .ok (.ifnonnull 10, 3) := by decide +kernel
theorem dX8_own_31 : decode cX8_own 31 = .ok (.iload_n 3, 1) := by decide +kernel
theorem dX8_own_32 : decode cX8_own 32 = .ok (.iconst (-1), 1) := by decide +kernel
theorem dX8_own_33 : decode cX8_own 33 = .ok (.if_icmp .eq 5, 3) := by decide +kernel
theorem dX8_own_36 : decode cX8_own 36 = .ok (.iconst 0, 1) := by decide +kernel
theorem dX8_own_37 : decode cX8_own 37 = .ok (.ireturn, 1) := by decide +kernel
theorem dX8_own_38 : decode cX8_own 38 = .ok (.aload 4, 2) := by decide +kernel
theorem dX8_own_40 : decode cX8_own 40 = .ok (.getfield 95, 3) := by decide +kernel
theorem dX8_own_43 : decode cX8_own 43 = .ok (.iload_n 2, 1) := by decide +kernel
theorem dX8_own_44 : decode cX8_own 44 = .ok (.aaload, 1) := by decide +kernel
theorem dX8_own_45 : decode cX8_own 45 = .ok (.astore 6, 2) := by decide +kernel
theorem dX8_own_47 : decode cX8_own 47 = .ok (.aload 6, 2) := by decide +kernel
theorem dX8_own_49 : decode cX8_own 49 = .ok (.ifnull 13, 3) := by decide +kernel
theorem dX8_own_52 : decode cX8_own 52 = .ok (.aload 6, 2) := by decide +kernel
theorem dX8_own_54 : decode cX8_own 54 = .ok (.invokevirtual 96, 3) := by decide +kernel
theorem dX8_own_57 : decode cX8_own 57 = .ok (.ifCond .eq 5, 3) := by decide +kernel
theorem dX8_own_60 : decode cX8_own 60 = .ok (.iconst 0, 1) := by decide +kernel
theorem dX8_own_61 : decode cX8_own 61 = .ok (.ireturn, 1) := by decide +kernel
theorem dX8_own_62 : decode cX8_own 62 = .ok (.aload 4, 2) := by decide +kernel
theorem dX8_own_64 : decode cX8_own 64 = .ok (.iload_n 2, 1) := by decide +kernel
theorem dX8_own_65 : decode cX8_own 65 = .ok (.aload 5, 2) := by decide +kernel
theorem dX8_own_67 : decode cX8_own 67 = .ok (.invokevirtual 100, 3) := by decide +kernel
theorem dX8_own_70 : decode cX8_own 70 = .ok (.iconst 1, 1) := by decide +kernel
theorem dX8_own_71 : decode cX8_own 71 = .ok (.ireturn, 1) := by decide +kernel
theorem dX8_feed_0 : decode cX8_feed 0 = .ok (.aload_n 0, 1) := by decide +kernel
theorem dX8_feed_1 : decode cX8_feed 1 = .ok (.getfield 40, 3) := by decide +kernel
theorem dX8_feed_4 : decode cX8_feed 4 = .ok (.getfield 104, 3) := by decide +kernel
theorem dX8_feed_7 : decode cX8_feed 7 = .ok (.bipush 20, 2) := by decide +kernel
theorem dX8_feed_9 : decode cX8_feed 9 = .ok (.iadd, 1) := by decide +kernel
theorem dX8_feed_10 : decode cX8_feed 10 = .ok (.sipush 300, 3) := by decide +kernel
theorem dX8_feed_13 : decode cX8_feed 13 = .ok (.if_icmp .le 5, 3) := by decide +kernel
theorem dX8_feed_16 : decode cX8_feed 16 = .ok (.iconst (-1), 1) := by decide +kernel
theorem dX8_feed_17 : decode cX8_feed 17 = .ok (.ireturn, 1) := by decide +kernel
theorem dX8_feed_18 : decode cX8_feed 18 = .ok (.aload_n 0, 1) := by decide +kernel
theorem dX8_feed_19 : decode cX8_feed 19 = .ok (.getfield 40, 3) := by decide +kernel
theorem dX8_feed_22 : decode cX8_feed 22 = .ok (.iload_n 1, 1) := by decide +kernel
theorem dX8_feed_23 : decode cX8_feed 23 = .ok (.invokevirtual 107, 3) := by decide +kernel
theorem dX8_feed_26 : decode cX8_feed 26 = .ok (.aload_n 0, 1) := by decide +kernel
theorem dX8_feed_27 : decode cX8_feed 27 = .ok (.getfield 40, 3) := by decide +kernel
theorem dX8_feed_30 : decode cX8_feed 30 = .ok (.iload_n 2, 1) := by decide +kernel
theorem dX8_feed_31 : decode cX8_feed 31 = .ok (.invokevirtual 107, 3) := by decide +kernel
theorem dX8_feed_34 : decode cX8_feed 34 = .ok (.aload_n 0, 1) := by decide +kernel
theorem dX8_feed_35 : decode cX8_feed 35 = .ok (.getfield 40, 3) := by decide +kernel
theorem dX8_feed_38 : decode cX8_feed 38 = .ok (.iload_n 3, 1) := by decide +kernel
theorem dX8_feed_39 : decode cX8_feed 39 = .ok (.invokevirtual 107, 3) := by decide +kernel
theorem dX8_feed_42 : decode cX8_feed 42 = .ok (.aload_n 0, 1) := by decide +kernel
theorem dX8_feed_43 : decode cX8_feed 43 = .ok (.getfield 40, 3) := by decide +kernel
theorem dX8_feed_46 : decode cX8_feed 46 = .ok (.iload 4, 2) := by decide +kernel
theorem dX8_feed_48 : decode cX8_feed 48 = .ok (.invokevirtual 107, 3) := by decide +kernel
theorem dX8_feed_51 : decode cX8_feed 51 = .ok (.aload_n 0, 1) := by decide +kernel
theorem dX8_feed_52 : decode cX8_feed 52 = .ok (.getfield 40, 3) := by decide +kernel
theorem dX8_feed_55 : decode cX8_feed 55 = .ok (.iload 5, 2) := by decide +kernel
theorem dX8_feed_57 : decode cX8_feed 57 = .ok (.invokevirtual 107, 3) := by decide +kernel
theorem dX8_feed_60 : decode cX8_feed 60 = .ok (.aload_n 0, 1) := by decide +kernel
theorem dX8_feed_61 : decode cX8_feed 61 = .ok (.getfield 40, 3) := by decide +kernel
theorem dX8_feed_64 : decode cX8_feed 64 = .ok (.getfield 104, 3) := by decide +kernel
theorem dX8_feed_67 : decode cX8_feed 67 = .ok (.ireturn, 1) := by decide +kernel
theorem dX8_end_0 : decode cX8_end 0 = .ok (.iload_n 1, 1) := by decide +kernel
theorem dX8_end_1 : decode cX8_end 1 = .ok (.ifCond .lt 14, 3) := by decide +kernel
theorem dX8_end_4 : decode cX8_end 4 = .ok (.iload_n 1, 1) := by decide +kernel
theorem dX8_end_5 : decode cX8_end 5 = .ok (.aload_n 0, 1) := by decide +kernel
theorem dX8_end_6 : decode cX8_end 6 = .ok (.getfield 40, 3) := by decide +kernel
theorem dX8_end_9 : decode cX8_end 9 = .ok (.getfield 104, 3) := by decide +kernel
theorem dX8_end_12 : decode cX8_end 12 = .ok (.if_icmp .le 5, 3) := by decide +kernel
theorem dX8_end_15 : decode cX8_end 15 = .ok (.iconst (-1), 1) := by decide +kernel
theorem dX8_end_16 : decode cX8_end 16 = .ok (.ireturn, 1) := by decide +kernel
theorem dX8_end_17 : decode cX8_end 17 = .ok (.aload_n 0, 1) := by decide +kernel
theorem dX8_end_18 : decode cX8_end 18 = .ok (.getfield 40, 3) := by decide +kernel
theorem dX8_end_21 : decode cX8_end 21 = .ok (.iload_n 1, 1) := by decide +kernel
theorem dX8_end_22 : decode cX8_end 22 = .ok (.putfield 104, 3) := by decide +kernel
theorem dX8_end_25 : decode cX8_end 25 = .ok (.iload_n 1, 1) := by decide +kernel
theorem dX8_end_26 : decode cX8_end 26 = .ok (.ireturn, 1) := by decide +kernel
theorem dX8_rules_0 : decode cX8_rules 0 = .ok (.aload_n 0, 1) := by decide +kernel
theorem dX8_rules_1 : decode cX8_rules 1 = .ok (.getfield 40, 3) := by decide +kernel
theorem dX8_rules_4 : decode cX8_rules 4 = .ok (.aload_n 0, 1) := by decide +kernel
theorem dX8_rules_5 : decode cX8_rules 5 = .ok (.getfield 51, 3) := by decide +kernel
theorem dX8_rules_8 : decode cX8_rules 8 = .ok (.invokevirtual 111, 3) := by decide +kernel
theorem dX8_rules_11 : decode cX8_rules 11 = .ok (.aload_n 0, 1) := by decide +kernel
theorem dX8_rules_12 : decode cX8_rules 12 = .ok (.getfield 40, 3) := by decide +kernel
theorem dX8_rules_15 : decode cX8_rules 15 = .ok (.iconst 0, 1) := by decide +kernel
theorem dX8_rules_16 : decode cX8_rules 16 = .ok (.putfield 104, 3) := by decide +kernel
theorem dX8_rules_19 : decode cX8_rules 19 = .ok (.aload_n 0, 1) := by decide +kernel
theorem dX8_rules_20 : decode cX8_rules 20 = .ok (.getfield 40, 3) := by decide +kernel
theorem dX8_rules_23 : decode cX8_rules 23 = .ok (.getfield 115, 3) := by decide +kernel
theorem dX8_rules_26 : decode cX8_rules 26 = .ok (.ifCond .eq 14, 3) := by decide +kernel
theorem dX8_rules_29 : decode cX8_rules 29 = .ok (.aload_n 0, 1) := by decide +kernel
theorem dX8_rules_30 : decode cX8_rules 30 = .ok (.getfield 40, 3) := by decide +kernel
theorem dX8_rules_33 : decode cX8_rules 33 = .ok (.getfield 115, 3) := by decide +kernel
theorem dX8_rules_36 : decode cX8_rules 36 = .ok (.ineg, 1) := by decide +kernel
theorem dX8_rules_37 : decode cX8_rules 37 = .ok (.iconst 1, 1) := by decide +kernel
theorem dX8_rules_38 : decode cX8_rules 38 = .ok (.isub, 1) := by decide +kernel
theorem dX8_rules_39 : decode cX8_rules 39 = .ok (.ireturn, 1) := by decide +kernel
theorem dX8_rules_40 : decode cX8_rules 40 = .ok (.aload_n 0, 1) := by decide +kernel
theorem dX8_rules_41 : decode cX8_rules 41 = .ok (.getfield 47, 3) := by decide +kernel
theorem dX8_rules_44 : decode cX8_rules 44 = .ok (.astore_n 1, 1) := by decide +kernel
theorem dX8_rules_45 : decode cX8_rules 45 = .ok (.aload_n 0, 1) := by decide +kernel
theorem dX8_rules_46 : decode cX8_rules 46 = .ok (.aload_n 0, 1) := by decide +kernel
theorem dX8_rules_47 : decode cX8_rules 47 = .ok (.getfield 51, 3) := by decide +kernel
theorem dX8_rules_50 : decode cX8_rules 50 = .ok (.putfield 47, 3) := by decide +kernel
theorem dX8_rules_53 : decode cX8_rules 53 = .ok (.aload_n 0, 1) := by decide +kernel
theorem dX8_rules_54 : decode cX8_rules 54 = .ok (.aload_n 1, 1) := by decide +kernel
theorem dX8_rules_55 : decode cX8_rules 55 = .ok (.putfield 51, 3) := by decide +kernel
theorem dX8_rules_58 : decode cX8_rules 58 = .ok (.aload_n 0, 1) := by decide +kernel
theorem dX8_rules_59 : decode cX8_rules 59 = .ok (.getfield 47, 3) := by decide +kernel
theorem dX8_rules_62 : decode cX8_rules 62 = .ok (.getfield 118, 3) := by decide +kernel
theorem dX8_rules_65 : decode cX8_rules 65 = .ok (.ireturn, 1) := by decide +kernel
theorem dX8_place_0 : decode cX8_place 0 = .ok (.aload_n 0, 1) := by decide +kernel
theorem dX8_place_1 : decode cX8_place 1 = .ok (.getfield 40, 3) := by decide +kernel
theorem dX8_place_4 : decode cX8_place 4 = .ok (.getfield 121, 3) := by decide +kernel
theorem dX8_place_7 : decode cX8_place 7 = .ok (.ireturn, 1) := by decide +kernel
theorem dX8_worth_0 : decode cX8_worth 0 = .ok (.aload_n 0, 1) := by decide +kernel
theorem dX8_worth_1 : decode cX8_worth 1 = .ok (.iload_n 1, 1) := by decide +kernel
theorem dX8_worth_2 : decode cX8_worth 2 = .ok (.invokevirtual 84, 3) := by decide +kernel
theorem dX8_worth_5 : decode cX8_worth 5 = .ok (.astore_n 3, 1) := by decide +kernel
theorem dX8_worth_6 : decode cX8_worth 6 = .ok (.aload_n 3, 1) := by decide +kernel
theorem dX8_worth_7 : decode cX8_worth 7 = .ok (.ifnull 10, 3) := by decide +kernel
theorem dX8_worth_10 : decode cX8_worth 10 = .ok (.iload_n 2, 1) := by decide +kernel
theorem dX8_worth_11 : decode cX8_worth 11 = .ok (.invokestatic 92, 3) := by decide +kernel
theorem dX8_worth_14 : decode cX8_worth 14 = .ok (.ifCond .ne 5, 3) := by decide +kernel
theorem dX8_worth_17 : decode cX8_worth 17 = .ok (.iconst (-1), 1) := by decide +kernel
theorem dX8_worth_18 : decode cX8_worth 18 = .ok (.ireturn, 1) := by decide +kernel
theorem dX8_worth_19 : decode cX8_worth 19 = .ok (.aload_n 0, 1) := by decide +kernel
theorem dX8_worth_20 : decode cX8_worth 20 = .ok (.getfield 47, 3) := by decide +kernel
theorem dX8_worth_23 : decode cX8_worth 23 = .ok (.aload_n 3, 1) := by decide +kernel
theorem dX8_worth_24 : decode cX8_worth 24 = .ok (.getfield 124, 3) := by decide +kernel
theorem dX8_worth_27 : decode cX8_worth 27 = .ok (.iload_n 2, 1) := by decide +kernel
theorem dX8_worth_28 : decode cX8_worth 28 = .ok (.iload_n 2, 1) := by decide +kernel
theorem dX8_worth_29 : decode cX8_worth 29 = .ok (.aload_n 0, 1) := by decide +kernel
theorem dX8_worth_30 : decode cX8_worth 30 = .ok (.getfield 57, 3) := by decide +kernel
theorem dX8_worth_33 : decode cX8_worth 33 = .ok (.isub, 1) := by decide +kernel
theorem dX8_worth_34 : decode cX8_worth 34 = .ok (.invokevirtual 127, 3) := by decide +kernel
theorem dX8_worth_37 : decode cX8_worth 37 = .ok (.ireturn, 1) := by decide +kernel
theorem dX8_give_0 : decode cX8_give 0 = .ok (.aload_n 0, 1) := by decide +kernel
theorem dX8_give_1 : decode cX8_give 1 = .ok (.iload_n 1, 1) := by decide +kernel
theorem dX8_give_2 : decode cX8_give 2 = .ok (.invokevirtual 88, 3) := by decide +kernel
theorem dX8_give_5 : decode cX8_give 5 = .ok (.astore 4, 2) := by decide +kernel
theorem dX8_give_7 : decode cX8_give 7 = .ok (.aload_n 0, 1) := by decide +kernel
theorem dX8_give_8 : decode cX8_give 8 = .ok (.iload_n 2, 1) := by decide +kernel
theorem dX8_give_9 : decode cX8_give 9 = .ok (.invokevirtual 84, 3) := by decide +kernel
theorem dX8_give_12 : decode cX8_give 12 = .ok (.astore 5, 2) := by decide +kernel
theorem dX8_give_14 : decode cX8_give 14 = .ok (.aload 4, 2) := by decide +kernel
theorem dX8_give_16 : decode cX8_give 16 = .ok (.ifnull 15, 3) := by decide +kernel
theorem dX8_give_19 : decode cX8_give 19 = .ok (.aload 5, 2) := by decide +kernel
theorem dX8_give_21 : decode cX8_give 21 = .ok (.ifnull 10, 3) := by decide +kernel
theorem dX8_give_24 : decode cX8_give 24 = .ok (.iload_n 3, 1) := by decide +kernel
theorem dX8_give_25 : decode cX8_give 25 = .ok (.invokestatic 92, 3) := by decide +kernel
theorem dX8_give_28 : decode cX8_give 28 = .ok (.ifCond .ne 5, 3) := by decide +kernel
theorem dX8_give_31 : decode cX8_give 31 = .ok (.iconst (-1), 1) := by decide +kernel
theorem dX8_give_32 : decode cX8_give 32 = .ok (.ireturn, 1) := by decide +kernel
theorem dX8_give_33 : decode cX8_give 33 = .ok (.aload 5, 2) := by decide +kernel
theorem dX8_give_35 : decode cX8_give 35 = .ok (.getfield 131, 3) := by decide +kernel
theorem dX8_give_38 : decode cX8_give 38 = .ok (.iload_n 3, 1) := by decide +kernel
theorem dX8_give_39 : decode cX8_give 39 = .ok (.aaload, 1) := by decide +kernel
theorem dX8_give_40 : decode cX8_give 40 = .ok (.aload 4, 2) := by decide +kernel
theorem dX8_give_42 : decode cX8_give 42 = .ok (.if_acmp .eq 6, 3) := by decide +kernel
theorem dX8_give_45 : decode cX8_give 45 = .ok (.bipush (-2), 2) := by decide +kernel
theorem dX8_give_47 : decode cX8_give 47 = .ok (.ireturn, 1) := by decide +kernel
theorem dX8_give_48 : decode cX8_give 48 = .ok (.iload_n 3, 1) := by decide +kernel
theorem dX8_give_49 : decode cX8_give 49 = .ok (.aload_n 0, 1) := by decide +kernel
theorem dX8_give_50 : decode cX8_give 50 = .ok (.getfield 57, 3) := by decide +kernel
theorem dX8_give_53 : decode cX8_give 53 = .ok (.if_icmp .gt 6, 3) := by decide +kernel
theorem dX8_give_56 : decode cX8_give 56 = .ok (.bipush (-3), 2) := by decide +kernel
theorem dX8_give_58 : decode cX8_give 58 = .ok (.ireturn, 1) := by decide +kernel
theorem dX8_give_59 : decode cX8_give 59 = .ok (.aload 5, 2) := by decide +kernel
theorem dX8_give_61 : decode cX8_give 61 = .ok (.getfield 132, 3) := by decide +kernel
theorem dX8_give_64 : decode cX8_give 64 = .ok (.iload_n 3, 1) := by decide +kernel
theorem dX8_give_65 : decode cX8_give 65 = .ok (.baload, 1) := by decide +kernel
theorem dX8_give_66 : decode cX8_give 66 = .ok (.ifCond .eq 6, 3) := by decide +kernel
theorem dX8_give_69 : decode cX8_give 69 = .ok (.bipush (-4), 2) := by decide +kernel
theorem dX8_give_71 : decode cX8_give 71 = .ok (.ireturn, 1) := by decide +kernel
theorem dX8_give_72 : decode cX8_give 72 = .ok (.aload 5, 2) := by decide +kernel
theorem dX8_give_74 : decode cX8_give 74 = .ok (.getfield 95, 3) := by decide +kernel
theorem dX8_give_77 : decode cX8_give 77 = .ok (.iload_n 3, 1) := by decide +kernel
theorem dX8_give_78 : decode cX8_give 78 = .ok (.aaload, 1) := by decide +kernel
theorem dX8_give_79 : decode cX8_give 79 = .ok (.astore 6, 2) := by decide +kernel
theorem dX8_give_81 : decode cX8_give 81 = .ok (.aload 6, 2) := by decide +kernel
theorem dX8_give_83 : decode cX8_give 83 = .ok (.ifnull 15, 3) := by decide +kernel
theorem dX8_give_86 : decode cX8_give 86 = .ok (.aload 6, 2) := by decide +kernel
theorem dX8_give_88 : decode cX8_give 88 = .ok (.getfield 136, 3) := by decide +kernel
theorem dX8_give_91 : decode cX8_give 91 = .ok (.iconst 4, 1) := by decide +kernel
theorem dX8_give_92 : decode cX8_give 92 = .ok (.if_icmp .eq 6, 3) := by decide +kernel
theorem dX8_give_95 : decode cX8_give 95 = .ok (.bipush (-5), 2) := by decide +kernel
theorem dX8_give_97 : decode cX8_give 97 = .ok (.ireturn, 1) := by decide +kernel
theorem dX8_give_98 : decode cX8_give 98 = .ok (.aload_n 0, 1) := by decide +kernel
theorem dX8_give_99 : decode cX8_give 99 = .ok (.getfield 34, 3) := by decide +kernel
theorem dX8_give_102 : decode cX8_give 102 = .ok (.sipush 200, 3) := by decide +kernel
theorem dX8_give_105 : decode cX8_give 105 = .ok (.if_icmp .ge 13, 3) := by decide +kernel
theorem dX8_give_108 : decode cX8_give 108 = .ok (.aload_n 0, 1) := by decide +kernel
theorem dX8_give_109 : decode cX8_give 109 = .ok (.iconst 0, 1) := by decide +kernel
theorem dX8_give_110 : decode cX8_give 110 = .ok (.invokevirtual 139, 3) := by decide +kernel
theorem dX8_give_113 : decode cX8_give 113 = .ok (.bipush 9, 2) := by decide +kernel
theorem dX8_give_115 : decode cX8_give 115 = .ok (.if_icmp .lt 6, 3) := by decide +kernel
theorem dX8_give_118 : decode cX8_give 118 = .ok (.bipush (-6), 2) := by decide +kernel
theorem dX8_give_120 : decode cX8_give 120 = .ok (.ireturn, 1) := by decide +kernel
theorem dX8_give_121 : decode cX8_give 121 = .ok (.aload_n 0, 1) := by decide +kernel
theorem dX8_give_122 : decode cX8_give 122 = .ok (.aload 4, 2) := by decide +kernel
theorem dX8_give_124 : decode cX8_give 124 = .ok (.aload 5, 2) := by decide +kernel
theorem dX8_give_126 : decode cX8_give 126 = .ok (.iload_n 3, 1) := by decide +kernel
theorem dX8_give_127 : decode cX8_give 127 = .ok (.invokevirtual 143, 3) := by decide +kernel
theorem dX8_give_130 : decode cX8_give 130 = .ok (.ireturn, 1) := by decide +kernel
theorem dX8_wish_0 : decode cX8_wish 0 = .ok (.aload_n 0, 1) := by decide +kernel
theorem dX8_wish_1 : decode cX8_wish 1 = .ok (.iload_n 1, 1) := by decide +kernel
theorem dX8_wish_2 : decode cX8_wish 2 = .ok (.iconst 0, 1) := by decide +kernel
theorem dX8_wish_3 : decode cX8_wish 3 = .ok (.invokevirtual 147, 3) := by decide +kernel
theorem dX8_wish_6 : decode cX8_wish 6 = .ok (.astore 6, 2) := by decide +kernel
theorem dX8_wish_8 : decode cX8_wish 8 = .ok (.aload 6, 2) := by decide +kernel
theorem dX8_wish_10 : decode cX8_wish 10 = .ok (.ifnull 15, 3) := by decide +kernel
theorem dX8_wish_13 : decode cX8_wish 13 = .ok (.iload_n 2, 1) := by decide +kernel
theorem dX8_wish_14 : decode cX8_wish 14 = .ok (.iload_n 3, 1) := by decide +kernel
theorem dX8_wish_15 : decode cX8_wish 15 = .ok (.iload 4, 2) := by decide +kernel
theorem dX8_wish_17 : decode cX8_wish 17 = .ok (.iload 5, 2) := by decide +kernel
theorem dX8_wish_19 : decode cX8_wish 19 = .ok (.invokestatic 151, 3) := by decide +kernel
theorem dX8_wish_22 : decode cX8_wish 22 = .ok (.ifCond .ne 5, 3) := by decide +kernel
theorem dX8_wish_25 : decode cX8_wish 25 = .ok (.iconst 0, 1) := by decide +kernel
theorem dX8_wish_26 : decode cX8_wish 26 = .ok (.ireturn, 1) := by decide +kernel
theorem dX8_wish_27 : decode cX8_wish 27 = .ok (.aload 6, 2) := by decide +kernel
theorem dX8_wish_29 : decode cX8_wish 29 = .ok (.new 155, 3) := by decide +kernel
theorem dX8_wish_32 : decode cX8_wish 32 = .ok (.dup, 1) := by decide +kernel
theorem dX8_wish_33 : decode cX8_wish 33 = .ok (.iload_n 2, 1) := by decide +kernel
theorem dX8_wish_34 : decode cX8_wish 34 = .ok (.iload_n 3, 1) := by decide +kernel
theorem dX8_wish_35 : decode cX8_wish 35 = .ok (.iload 4, 2) := by decide +kernel
theorem dX8_wish_37 : decode cX8_wish 37 = .ok (.iload 5, 2) := by decide +kernel
theorem dX8_wish_39 : decode cX8_wish 39 = .ok (.invokespecial 157, 3) := by decide +kernel
theorem dX8_wish_42 : decode cX8_wish 42 = .ok (.putfield 160, 3) := by decide +kernel
theorem dX8_wish_45 : decode cX8_wish 45 = .ok (.iconst 1, 1) := by decide +kernel
theorem dX8_wish_46 : decode cX8_wish 46 = .ok (.ireturn, 1) := by decide +kernel
theorem dX8_rushWish_0 : decode cX8_rushWish 0 = .ok (.aload_n 0, 1) := by decide +kernel
theorem dX8_rushWish_1 : decode cX8_rushWish 1 = .ok (.iload_n 1, 1) := by decide +kernel
theorem dX8_rushWish_2 : decode cX8_rushWish 2 = .ok (.invokevirtual 88, 3) := by decide +kernel
theorem dX8_rushWish_5 : decode cX8_rushWish 5 = .ok (.astore 6, 2) := by decide +kernel
theorem dX8_rushWish_7 : decode cX8_rushWish 7 = .ok (.aload 6, 2) := by decide +kernel
theorem dX8_rushWish_9 : decode cX8_rushWish 9 = .ok (.ifnull 15, 3) := by decide +kernel
theorem dX8_rushWish_12 : decode cX8_rushWish 12 = .ok (.iload_n 2, 1) := by decide +kernel
theorem dX8_rushWish_13 : decode cX8_rushWish 13 = .ok (.iload_n 3, 1) := by decide +kernel
theorem dX8_rushWish_14 : decode cX8_rushWish 14 = .ok (.iload 4, 2) := by decide +kernel
theorem dX8_rushWish_16 : decode cX8_rushWish 16 = .ok (.iload 5, 2) := by decide +kernel
theorem dX8_rushWish_18 : decode cX8_rushWish 18 = .ok (.invokestatic 151, 3) := by decide +kernel
theorem dX8_rushWish_21 : decode cX8_rushWish 21 = .ok (.ifCond .ne 5, 3) := by decide +kernel
theorem dX8_rushWish_24 : decode cX8_rushWish 24 = .ok (.iconst 0, 1) := by decide +kernel
theorem dX8_rushWish_25 : decode cX8_rushWish 25 = .ok (.ireturn, 1) := by decide +kernel
theorem dX8_rushWish_26 : decode cX8_rushWish 26 = .ok (.aload 6, 2) := by decide +kernel
theorem dX8_rushWish_28 : decode cX8_rushWish 28 = .ok (.new 155, 3) := by decide +kernel
theorem dX8_rushWish_31 : decode cX8_rushWish 31 = .ok (.dup, 1) := by decide +kernel
theorem dX8_rushWish_32 : decode cX8_rushWish 32 = .ok (.iload_n 2, 1) := by decide +kernel
theorem dX8_rushWish_33 : decode cX8_rushWish 33 = .ok (.iload_n 3, 1) := by decide +kernel
theorem dX8_rushWish_34 : decode cX8_rushWish 34 = .ok (.iload 4, 2) := by decide +kernel
theorem dX8_rushWish_36 : decode cX8_rushWish 36 = .ok (.iload 5, 2) := by decide +kernel
theorem dX8_rushWish_38 : decode cX8_rushWish 38 = .ok (.invokespecial 157, 3) := by decide +kernel
theorem dX8_rushWish_41 : decode cX8_rushWish 41 = .ok (.putfield 164, 3) := by decide +kernel
theorem dX8_rushWish_44 : decode cX8_rushWish 44 = .ok (.iconst 1, 1) := by decide +kernel
theorem dX8_rushWish_45 : decode cX8_rushWish 45 = .ok (.ireturn, 1) := by decide +kernel
theorem dX8_rings_0 : decode cX8_rings 0 = .ok (.iload_n 1, 1) := by decide +kernel
theorem dX8_rings_1 : decode cX8_rings 1 = .ok (.iconst 2, 1) := by decide +kernel
theorem dX8_rings_2 : decode cX8_rings 2 = .ok (.if_icmp .lt 9, 3) := by decide +kernel
theorem dX8_rings_5 : decode cX8_rings 5 = .ok (.iload_n 1, 1) := by decide +kernel
theorem dX8_rings_6 : decode cX8_rings 6 = .ok (.bipush 9, 2) := by decide +kernel
theorem dX8_rings_8 : decode cX8_rings 8 = .ok (.if_icmp .le 5, 3) := by decide +kernel
theorem dX8_rings_11 : decode cX8_rings 11 = .ok (.iconst (-1), 1) := by decide +kernel
theorem dX8_rings_12 : decode cX8_rings 12 = .ok (.ireturn, 1) := by decide +kernel
theorem dX8_rings_13 : decode cX8_rings 13 = .ok (.aload_n 0, 1) := by decide +kernel
theorem dX8_rings_14 : decode cX8_rings 14 = .ok (.getfield 63, 3) := by decide +kernel
theorem dX8_rings_17 : decode cX8_rings 17 = .ok (.invokevirtual 165, 3) := by decide +kernel
theorem dX8_rings_20 : decode cX8_rings 20 = .ok (.iconst 0, 1) := by decide +kernel
theorem dX8_rings_21 : decode cX8_rings 21 = .ok (.istore_n 2, 1) := by decide +kernel
theorem dX8_rings_22 : decode cX8_rings 22 = .ok (.iload_n 2, 1) := by decide +kernel
theorem dX8_rings_23 : decode cX8_rings 23 = .ok (.aload_n 0, 1) := by decide +kernel
theorem dX8_rings_24 : decode cX8_rings 24 = .ok (.getfield 34, 3) := by decide +kernel
theorem dX8_rings_27 : decode cX8_rings 27 = .ok (.if_icmp .ge 46, 3) := by decide +kernel
theorem dX8_rings_30 : decode cX8_rings 30 = .ok (.aload_n 0, 1) := by decide +kernel
theorem dX8_rings_31 : decode cX8_rings 31 = .ok (.getfield 30, 3) := by decide +kernel
theorem dX8_rings_34 : decode cX8_rings 34 = .ok (.iload_n 2, 1) := by decide +kernel
theorem dX8_rings_35 : decode cX8_rings 35 = .ok (.aaload, 1) := by decide +kernel
theorem dX8_rings_36 : decode cX8_rings 36 = .ok (.getfield 136, 3) := by decide +kernel
theorem dX8_rings_39 : decode cX8_rings 39 = .ok (.ifCond .ne 28, 3) := by decide +kernel
theorem dX8_rings_42 : decode cX8_rings 42 = .ok (.aload_n 0, 1) := by decide +kernel
theorem dX8_rings_43 : decode cX8_rings 43 = .ok (.getfield 30, 3) := by decide +kernel
theorem dX8_rings_46 : decode cX8_rings 46 = .ok (.iload_n 2, 1) := by decide +kernel
theorem dX8_rings_47 : decode cX8_rings 47 = .ok (.aaload, 1) := by decide +kernel
theorem dX8_rings_48 : decode cX8_rings 48 = .ok (.getfield 160, 3) := by decide +kernel
theorem dX8_rings_51 : decode cX8_rings 51 = .ok (.ifnull 16, 3) := by decide +kernel
end
section
theorem dX8_rings_54 : decode cX8_rings 54 = .ok (.aload_n 0, 1) := by decide +kernel
theorem dX8_rings_55 : decode cX8_rings 55 = .ok (.getfield 63, 3) := by decide +kernel
theorem dX8_rings_58 : decode cX8_rings 58 = .ok (.aload_n 0, 1) := by decide +kernel
theorem dX8_rings_59 : decode cX8_rings 59 = .ok (.getfield 30, 3) := by decide +kernel
theorem dX8_rings_62 : decode cX8_rings 62 = .ok (.iload_n 2, 1) := by decide +kernel
theorem dX8_rings_63 : decode cX8_rings 63 = .ok (.aaload, 1) := by decide +kernel
theorem dX8_rings_64 : decode cX8_rings 64 = .ok (.invokevirtual 168, 3) := by decide +kernel
theorem dX8_rings_67 : decode cX8_rings 67 = .ok (.iinc 2 1, 3) := by decide +kernel
theorem dX8_rings_70 : decode cX8_rings 70 = .ok (.goto (-48), 3) := by decide +kernel
theorem dX8_rings_73 : decode cX8_rings 73 = .ok (.aload_n 0, 1) := by decide +kernel
theorem dX8_rings_74 : decode cX8_rings 74 = .ok (.getfield 63, 3) := by decide +kernel
theorem dX8_rings_77 : decode cX8_rings 77 = .ok (.iload_n 1, 1) := by decide +kernel
theorem dX8_rings_78 : decode cX8_rings 78 = .ok (.invokevirtual 172, 3) := by decide +kernel
theorem dX8_rings_81 : decode cX8_rings 81 = .ok (.aload_n 0, 1) := by decide +kernel
theorem dX8_rings_82 : decode cX8_rings 82 = .ok (.getfield 63, 3) := by decide +kernel
theorem dX8_rings_85 : decode cX8_rings 85 = .ok (.invokevirtual 175, 3) := by decide +kernel
theorem dX8_rings_88 : decode cX8_rings 88 = .ok (.ireturn, 1) := by decide +kernel
theorem dX8_bank_0 : decode cX8_bank 0 = .ok (.aload_n 0, 1) := by decide +kernel
theorem dX8_bank_1 : decode cX8_bank 1 = .ok (.iload_n 1, 1) := by decide +kernel
theorem dX8_bank_2 : decode cX8_bank 2 = .ok (.iconst 0, 1) := by decide +kernel
theorem dX8_bank_3 : decode cX8_bank 3 = .ok (.invokevirtual 147, 3) := by decide +kernel
theorem dX8_bank_6 : decode cX8_bank 6 = .ok (.astore_n 2, 1) := by decide +kernel
theorem dX8_bank_7 : decode cX8_bank 7 = .ok (.aload_n 2, 1) := by decide +kernel
theorem dX8_bank_8 : decode cX8_bank 8 = .ok (.ifnonnull 5, 3) := by decide +kernel
theorem dX8_bank_11 : decode cX8_bank 11 = .ok (.iconst (-1), 1) := by decide +kernel
theorem dX8_bank_12 : decode cX8_bank 12 = .ok (.ireturn, 1) := by decide +kernel
theorem dX8_bank_13 : decode cX8_bank 13 = .ok (.aload_n 2, 1) := by decide +kernel
theorem dX8_bank_14 : decode cX8_bank 14 = .ok (.iconst 2, 1) := by decide +kernel
theorem dX8_bank_15 : decode cX8_bank 15 = .ok (.putfield 136, 3) := by decide +kernel
theorem dX8_bank_18 : decode cX8_bank 18 = .ok (.aload_n 2, 1) := by decide +kernel
theorem dX8_bank_19 : decode cX8_bank 19 = .ok (.getfield 179, 3) := by decide +kernel
theorem dX8_bank_22 : decode cX8_bank 22 = .ok (.dup, 1) := by decide +kernel
theorem dX8_bank_23 : decode cX8_bank 23 = .ok (.getfield 183, 3) := by decide +kernel
theorem dX8_bank_26 : decode cX8_bank 26 = .ok (.aload_n 2, 1) := by decide +kernel
theorem dX8_bank_27 : decode cX8_bank 27 = .ok (.getfield 186, 3) := by decide +kernel
theorem dX8_bank_30 : decode cX8_bank 30 = .ok (.iadd, 1) := by decide +kernel
theorem dX8_bank_31 : decode cX8_bank 31 = .ok (.putfield 183, 3) := by decide +kernel
theorem dX8_bank_34 : decode cX8_bank 34 = .ok (.aload_n 2, 1) := by decide +kernel
theorem dX8_bank_35 : decode cX8_bank 35 = .ok (.getfield 179, 3) := by decide +kernel
theorem dX8_bank_38 : decode cX8_bank 38 = .ok (.getfield 183, 3) := by decide +kernel
theorem dX8_bank_41 : decode cX8_bank 41 = .ok (.ireturn, 1) := by decide +kernel
theorem dX8_take_0 : decode cX8_take 0 = .ok (.aload_n 0, 1) := by decide +kernel
theorem dX8_take_1 : decode cX8_take 1 = .ok (.iload_n 1, 1) := by decide +kernel
theorem dX8_take_2 : decode cX8_take 2 = .ok (.invokevirtual 88, 3) := by decide +kernel
theorem dX8_take_5 : decode cX8_take 5 = .ok (.astore_n 3, 1) := by decide +kernel
theorem dX8_take_6 : decode cX8_take 6 = .ok (.aload_n 0, 1) := by decide +kernel
theorem dX8_take_7 : decode cX8_take 7 = .ok (.iload_n 2, 1) := by decide +kernel
theorem dX8_take_8 : decode cX8_take 8 = .ok (.iconst 2, 1) := by decide +kernel
theorem dX8_take_9 : decode cX8_take 9 = .ok (.invokevirtual 147, 3) := by decide +kernel
theorem dX8_take_12 : decode cX8_take 12 = .ok (.astore 4, 2) := by decide +kernel
theorem dX8_take_14 : decode cX8_take 14 = .ok (.aload_n 3, 1) := by decide +kernel
theorem dX8_take_15 : decode cX8_take 15 = .ok (.ifnull 8, 3) := by decide +kernel
theorem dX8_take_18 : decode cX8_take 18 = .ok (.aload 4, 2) := by decide +kernel
theorem dX8_take_20 : decode cX8_take 20 = .ok (.ifnonnull 5, 3) := by decide +kernel
theorem dX8_take_23 : decode cX8_take 23 = .ok (.iconst (-1), 1) := by decide +kernel
theorem dX8_take_24 : decode cX8_take 24 = .ok (.ireturn, 1) := by decide +kernel
theorem dX8_take_25 : decode cX8_take 25 = .ok (.aload_n 3, 1) := by decide +kernel
theorem dX8_take_26 : decode cX8_take 26 = .ok (.getfield 183, 3) := by decide +kernel
theorem dX8_take_29 : decode cX8_take 29 = .ok (.aload 4, 2) := by decide +kernel
theorem dX8_take_31 : decode cX8_take 31 = .ok (.getfield 186, 3) := by decide +kernel
theorem dX8_take_34 : decode cX8_take 34 = .ok (.if_icmp .ge 6, 3) := by decide +kernel
theorem dX8_take_37 : decode cX8_take 37 = .ok (.bipush (-2), 2) := by decide +kernel
theorem dX8_take_39 : decode cX8_take 39 = .ok (.ireturn, 1) := by decide +kernel
theorem dX8_take_40 : decode cX8_take 40 = .ok (.aload 4, 2) := by decide +kernel
theorem dX8_take_42 : decode cX8_take 42 = .ok (.aload_n 3, 1) := by decide +kernel
theorem dX8_take_43 : decode cX8_take 43 = .ok (.invokevirtual 189, 3) := by decide +kernel
theorem dX8_take_46 : decode cX8_take 46 = .ok (.aload_n 3, 1) := by decide +kernel
theorem dX8_take_47 : decode cX8_take 47 = .ok (.getfield 183, 3) := by decide +kernel
theorem dX8_take_50 : decode cX8_take 50 = .ok (.ireturn, 1) := by decide +kernel
theorem dX8_rush_0 : decode cX8_rush 0 = .ok (.iconst 0, 1) := by decide +kernel
theorem dX8_rush_1 : decode cX8_rush 1 = .ok (.istore_n 1, 1) := by decide +kernel
theorem dX8_rush_2 : decode cX8_rush 2 = .ok (.iload_n 1, 1) := by decide +kernel
theorem dX8_rush_3 : decode cX8_rush 3 = .ok (.aload_n 0, 1) := by decide +kernel
theorem dX8_rush_4 : decode cX8_rush 4 = .ok (.getfield 25, 3) := by decide +kernel
theorem dX8_rush_7 : decode cX8_rush 7 = .ok (.if_icmp .ge 35, 3) := by decide +kernel
theorem dX8_rush_10 : decode cX8_rush 10 = .ok (.aload_n 0, 1) := by decide +kernel
theorem dX8_rush_11 : decode cX8_rush 11 = .ok (.getfield 21, 3) := by decide +kernel
theorem dX8_rush_14 : decode cX8_rush 14 = .ok (.iload_n 1, 1) := by decide +kernel
theorem dX8_rush_15 : decode cX8_rush 15 = .ok (.aaload, 1) := by decide +kernel
theorem dX8_rush_16 : decode cX8_rush 16 = .ok (.aload_n 0, 1) := by decide +kernel
theorem dX8_rush_17 : decode cX8_rush 17 = .ok (.getfield 21, 3) := by decide +kernel
theorem dX8_rush_20 : decode cX8_rush 20 = .ok (.iload_n 1, 1) := by decide +kernel
theorem dX8_rush_21 : decode cX8_rush 21 = .ok (.aaload, 1) := by decide +kernel
theorem dX8_rush_22 : decode cX8_rush 22 = .ok (.getfield 164, 3) := by decide +kernel
theorem dX8_rush_25 : decode cX8_rush 25 = .ok (.ifnull 7, 3) := by decide +kernel
theorem dX8_rush_28 : decode cX8_rush 28 = .ok (.iconst 1, 1) := by decide +kernel
theorem dX8_rush_29 : decode cX8_rush 29 = .ok (.goto 4, 3) := by decide +kernel
theorem dX8_rush_32 : decode cX8_rush 32 = .ok (.iconst 0, 1) := by decide +kernel
theorem dX8_rush_33 : decode cX8_rush 33 = .ok (.putfield 193, 3) := by decide +kernel
theorem dX8_rush_36 : decode cX8_rush 36 = .ok (.iinc 1 1, 3) := by decide +kernel
theorem dX8_rush_39 : decode cX8_rush 39 = .ok (.goto (-37), 3) := by decide +kernel
theorem dX8_rush_42 : decode cX8_rush 42 = .ok (.iconst 0, 1) := by decide +kernel
theorem dX8_rush_43 : decode cX8_rush 43 = .ok (.istore_n 1, 1) := by decide +kernel
theorem dX8_rush_44 : decode cX8_rush 44 = .ok (.iconst 0, 1) := by decide +kernel
theorem dX8_rush_45 : decode cX8_rush 45 = .ok (.istore_n 2, 1) := by decide +kernel
theorem dX8_rush_46 : decode cX8_rush 46 = .ok (.iload_n 2, 1) := by decide +kernel
theorem dX8_rush_47 : decode cX8_rush 47 = .ok (.aload_n 0, 1) := by decide +kernel
theorem dX8_rush_48 : decode cX8_rush 48 = .ok (.getfield 25, 3) := by decide +kernel
theorem dX8_rush_51 : decode cX8_rush 51 = .ok (.if_icmp .ge 66, 3) := by decide +kernel
theorem dX8_rush_54 : decode cX8_rush 54 = .ok (.aload_n 0, 1) := by decide +kernel
theorem dX8_rush_55 : decode cX8_rush 55 = .ok (.invokevirtual 197, 3) := by decide +kernel
theorem dX8_rush_58 : decode cX8_rush 58 = .ok (.astore_n 3, 1) := by decide +kernel
theorem dX8_rush_59 : decode cX8_rush 59 = .ok (.aload_n 3, 1) := by decide +kernel
theorem dX8_rush_60 : decode cX8_rush 60 = .ok (.ifnonnull 6, 3) := by decide +kernel
theorem dX8_rush_63 : decode cX8_rush 63 = .ok (.goto 54, 3) := by decide +kernel
theorem dX8_rush_66 : decode cX8_rush 66 = .ok (.aload_n 3, 1) := by decide +kernel
theorem dX8_rush_67 : decode cX8_rush 67 = .ok (.iconst 0, 1) := by decide +kernel
theorem dX8_rush_68 : decode cX8_rush 68 = .ok (.putfield 193, 3) := by decide +kernel
theorem dX8_rush_71 : decode cX8_rush 71 = .ok (.aload_n 0, 1) := by decide +kernel
theorem dX8_rush_72 : decode cX8_rush 72 = .ok (.aload_n 3, 1) := by decide +kernel
theorem dX8_rush_73 : decode cX8_rush 73 = .ok (.invokevirtual 201, 3) := by decide +kernel
theorem dX8_rush_76 : decode cX8_rush 76 = .ok (.astore 4, 2) := by decide +kernel
theorem dX8_rush_78 : decode cX8_rush 78 = .ok (.aload 4, 2) := by decide +kernel
theorem dX8_rush_80 : decode cX8_rush 80 = .ok (.ifnull 31, 3) := by decide +kernel
theorem dX8_rush_83 : decode cX8_rush 83 = .ok (.aload 4, 2) := by decide +kernel
theorem dX8_rush_85 : decode cX8_rush 85 = .ok (.aload_n 3, 1) := by decide +kernel
theorem dX8_rush_86 : decode cX8_rush 86 = .ok (.invokevirtual 189, 3) := by decide +kernel
theorem dX8_rush_89 : decode cX8_rush 89 = .ok (.aload_n 3, 1) := by decide +kernel
theorem dX8_rush_90 : decode cX8_rush 90 = .ok (.dup, 1) := by decide +kernel
theorem dX8_rush_91 : decode cX8_rush 91 = .ok (.getfield 205, 3) := by decide +kernel
theorem dX8_rush_94 : decode cX8_rush 94 = .ok (.aload 4, 2) := by decide +kernel
theorem dX8_rush_96 : decode cX8_rush 96 = .ok (.getfield 186, 3) := by decide +kernel
theorem dX8_rush_99 : decode cX8_rush 99 = .ok (.iadd, 1) := by decide +kernel
theorem dX8_rush_100 : decode cX8_rush 100 = .ok (.putfield 205, 3) := by decide +kernel
theorem dX8_rush_103 : decode cX8_rush 103 = .ok (.aload_n 3, 1) := by decide +kernel
theorem dX8_rush_104 : decode cX8_rush 104 = .ok (.aconst_null, 1) := by decide +kernel
theorem dX8_rush_105 : decode cX8_rush 105 = .ok (.putfield 164, 3) := by decide +kernel
theorem dX8_rush_108 : decode cX8_rush 108 = .ok (.iinc 1 1, 3) := by decide +kernel
theorem dX8_rush_111 : decode cX8_rush 111 = .ok (.iinc 2 1, 3) := by decide +kernel
theorem dX8_rush_114 : decode cX8_rush 114 = .ok (.goto (-68), 3) := by decide +kernel
theorem dX8_rush_117 : decode cX8_rush 117 = .ok (.iload_n 1, 1) := by decide +kernel
theorem dX8_rush_118 : decode cX8_rush 118 = .ok (.ireturn, 1) := by decide +kernel
theorem dX8_shut_0 : decode cX8_shut 0 = .ok (.aload_n 0, 1) := by decide +kernel
theorem dX8_shut_1 : decode cX8_shut 1 = .ok (.iload_n 1, 1) := by decide +kernel
theorem dX8_shut_2 : decode cX8_shut 2 = .ok (.invokevirtual 84, 3) := by decide +kernel
theorem dX8_shut_5 : decode cX8_shut 5 = .ok (.astore 4, 2) := by decide +kernel
theorem dX8_shut_7 : decode cX8_shut 7 = .ok (.aload 4, 2) := by decide +kernel
theorem dX8_shut_9 : decode cX8_shut 9 = .ok (.ifnull 22, 3) := by decide +kernel
theorem dX8_shut_12 : decode cX8_shut 12 = .ok (.iload_n 2, 1) := by decide +kernel
theorem dX8_shut_13 : decode cX8_shut 13 = .ok (.aload_n 0, 1) := by decide +kernel
theorem dX8_shut_14 : decode cX8_shut 14 = .ok (.getfield 57, 3) := by decide +kernel
theorem dX8_shut_17 : decode cX8_shut 17 = .ok (.if_icmp .lt 14, 3) := by decide +kernel
theorem dX8_shut_20 : decode cX8_shut 20 = .ok (.iload_n 2, 1) := by decide +kernel
theorem dX8_shut_21 : decode cX8_shut 21 = .ok (.iload_n 3, 1) := by decide +kernel
theorem dX8_shut_22 : decode cX8_shut 22 = .ok (.if_icmp .gt 9, 3) := by decide +kernel
theorem dX8_shut_25 : decode cX8_shut 25 = .ok (.iload_n 3, 1) := by decide +kernel
theorem dX8_shut_26 : decode cX8_shut 26 = .ok (.bipush 52, 2) := by decide +kernel
theorem dX8_shut_28 : decode cX8_shut 28 = .ok (.if_icmp .le 5, 3) := by decide +kernel
theorem dX8_shut_31 : decode cX8_shut 31 = .ok (.iconst (-1), 1) := by decide +kernel
theorem dX8_shut_32 : decode cX8_shut 32 = .ok (.ireturn, 1) := by decide +kernel
theorem dX8_shut_33 : decode cX8_shut 33 = .ok (.iload_n 2, 1) := by decide +kernel
theorem dX8_shut_34 : decode cX8_shut 34 = .ok (.istore 5, 2) := by decide +kernel
theorem dX8_shut_36 : decode cX8_shut 36 = .ok (.iload 5, 2) := by decide +kernel
theorem dX8_shut_38 : decode cX8_shut 38 = .ok (.iload_n 3, 1) := by decide +kernel
theorem dX8_shut_39 : decode cX8_shut 39 = .ok (.if_icmp .gt 18, 3) := by decide +kernel
theorem dX8_shut_42 : decode cX8_shut 42 = .ok (.aload 4, 2) := by decide +kernel
theorem dX8_shut_44 : decode cX8_shut 44 = .ok (.getfield 132, 3) := by decide +kernel
theorem dX8_shut_47 : decode cX8_shut 47 = .ok (.iload 5, 2) := by decide +kernel
theorem dX8_shut_49 : decode cX8_shut 49 = .ok (.iconst 1, 1) := by decide +kernel
theorem dX8_shut_50 : decode cX8_shut 50 = .ok (.bastore, 1) := by decide +kernel
theorem dX8_shut_51 : decode cX8_shut 51 = .ok (.iinc 5 1, 3) := by decide +kernel
theorem dX8_shut_54 : decode cX8_shut 54 = .ok (.goto (-18), 3) := by decide +kernel
theorem dX8_shut_57 : decode cX8_shut 57 = .ok (.iconst 0, 1) := by decide +kernel
theorem dX8_shut_58 : decode cX8_shut 58 = .ok (.istore 5, 2) := by decide +kernel
theorem dX8_shut_60 : decode cX8_shut 60 = .ok (.iconst 0, 1) := by decide +kernel
theorem dX8_shut_61 : decode cX8_shut 61 = .ok (.istore 6, 2) := by decide +kernel
theorem dX8_shut_63 : decode cX8_shut 63 = .ok (.iload 6, 2) := by decide +kernel
theorem dX8_shut_65 : decode cX8_shut 65 = .ok (.aload_n 0, 1) := by decide +kernel
theorem dX8_shut_66 : decode cX8_shut 66 = .ok (.getfield 34, 3) := by decide +kernel
theorem dX8_shut_69 : decode cX8_shut 69 = .ok (.if_icmp .ge 86, 3) := by decide +kernel
theorem dX8_shut_72 : decode cX8_shut 72 = .ok (.aload_n 0, 1) := by decide +kernel
theorem dX8_shut_73 : decode cX8_shut 73 = .ok (.getfield 30, 3) := by decide +kernel
theorem dX8_shut_76 : decode cX8_shut 76 = .ok (.iload 6, 2) := by decide +kernel
theorem dX8_shut_78 : decode cX8_shut 78 = .ok (.aaload, 1) := by decide +kernel
theorem dX8_shut_79 : decode cX8_shut 79 = .ok (.astore 7, 2) := by decide +kernel
theorem dX8_shut_81 : decode cX8_shut 81 = .ok (.aload 7, 2) := by decide +kernel
theorem dX8_shut_83 : decode cX8_shut 83 = .ok (.getfield 208, 3) := by decide +kernel
theorem dX8_shut_86 : decode cX8_shut 86 = .ok (.aload 4, 2) := by decide +kernel
theorem dX8_shut_88 : decode cX8_shut 88 = .ok (.if_acmp .ne 25, 3) := by decide +kernel
theorem dX8_shut_91 : decode cX8_shut 91 = .ok (.aload 7, 2) := by decide +kernel
theorem dX8_shut_93 : decode cX8_shut 93 = .ok (.getfield 212, 3) := by decide +kernel
theorem dX8_shut_96 : decode cX8_shut 96 = .ok (.iload_n 2, 1) := by decide +kernel
theorem dX8_shut_97 : decode cX8_shut 97 = .ok (.if_icmp .lt 16, 3) := by decide +kernel
theorem dX8_shut_100 : decode cX8_shut 100 = .ok (.aload 7, 2) := by decide +kernel
theorem dX8_shut_102 : decode cX8_shut 102 = .ok (.getfield 212, 3) := by decide +kernel
theorem dX8_shut_105 : decode cX8_shut 105 = .ok (.iload_n 3, 1) := by decide +kernel
theorem dX8_shut_106 : decode cX8_shut 106 = .ok (.if_icmp .gt 7, 3) := by decide +kernel
theorem dX8_shut_109 : decode cX8_shut 109 = .ok (.iconst 1, 1) := by decide +kernel
theorem dX8_shut_110 : decode cX8_shut 110 = .ok (.goto 4, 3) := by decide +kernel
theorem dX8_shut_113 : decode cX8_shut 113 = .ok (.iconst 0, 1) := by decide +kernel
theorem dX8_shut_114 : decode cX8_shut 114 = .ok (.istore 8, 2) := by decide +kernel
theorem dX8_shut_116 : decode cX8_shut 116 = .ok (.iload 8, 2) := by decide +kernel
theorem dX8_shut_118 : decode cX8_shut 118 = .ok (.ifCond .eq 31, 3) := by decide +kernel
theorem dX8_shut_121 : decode cX8_shut 121 = .ok (.aload 7, 2) := by decide +kernel
theorem dX8_shut_123 : decode cX8_shut 123 = .ok (.getfield 215, 3) := by decide +kernel
theorem dX8_shut_126 : decode cX8_shut 126 = .ok (.aload_n 0, 1) := by decide +kernel
theorem dX8_shut_127 : decode cX8_shut 127 = .ok (.getfield 54, 3) := by decide +kernel
theorem dX8_shut_130 : decode cX8_shut 130 = .ok (.if_icmp .ne 19, 3) := by decide +kernel
theorem dX8_shut_133 : decode cX8_shut 133 = .ok (.aload 7, 2) := by decide +kernel
theorem dX8_shut_135 : decode cX8_shut 135 = .ok (.invokevirtual 96, 3) := by decide +kernel
theorem dX8_shut_138 : decode cX8_shut 138 = .ok (.ifCond .eq 11, 3) := by decide +kernel
theorem dX8_shut_141 : decode cX8_shut 141 = .ok (.aload 7, 2) := by decide +kernel
theorem dX8_shut_143 : decode cX8_shut 143 = .ok (.invokevirtual 218, 3) := by decide +kernel
theorem dX8_shut_146 : decode cX8_shut 146 = .ok (.iinc 5 1, 3) := by decide +kernel
theorem dX8_shut_149 : decode cX8_shut 149 = .ok (.iinc 6 1, 3) := by decide +kernel
theorem dX8_shut_152 : decode cX8_shut 152 = .ok (.goto (-89), 3) := by decide +kernel
theorem dX8_shut_155 : decode cX8_shut 155 = .ok (.iload 5, 2) := by decide +kernel
theorem dX8_shut_157 : decode cX8_shut 157 = .ok (.ireturn, 1) := by decide +kernel
theorem dX8_weeks_0 : decode cX8_weeks 0 = .ok (.iload_n 1, 1) := by decide +kernel
theorem dX8_weeks_1 : decode cX8_weeks 1 = .ok (.iconst 1, 1) := by decide +kernel
theorem dX8_weeks_2 : decode cX8_weeks 2 = .ok (.if_icmp .lt 14, 3) := by decide +kernel
theorem dX8_weeks_5 : decode cX8_weeks 5 = .ok (.iload_n 1, 1) := by decide +kernel
theorem dX8_weeks_6 : decode cX8_weeks 6 = .ok (.bipush 52, 2) := by decide +kernel
theorem dX8_weeks_8 : decode cX8_weeks 8 = .ok (.aload_n 0, 1) := by decide +kernel
theorem dX8_weeks_9 : decode cX8_weeks 9 = .ok (.getfield 57, 3) := by decide +kernel
theorem dX8_weeks_12 : decode cX8_weeks 12 = .ok (.isub, 1) := by decide +kernel
theorem dX8_weeks_13 : decode cX8_weeks 13 = .ok (.if_icmp .le 5, 3) := by decide +kernel
theorem dX8_weeks_16 : decode cX8_weeks 16 = .ok (.iconst (-1), 1) := by decide +kernel
theorem dX8_weeks_17 : decode cX8_weeks 17 = .ok (.ireturn, 1) := by decide +kernel
theorem dX8_weeks_18 : decode cX8_weeks 18 = .ok (.aload_n 0, 1) := by decide +kernel
theorem dX8_weeks_19 : decode cX8_weeks 19 = .ok (.dup, 1) := by decide +kernel
theorem dX8_weeks_20 : decode cX8_weeks 20 = .ok (.getfield 57, 3) := by decide +kernel
theorem dX8_weeks_23 : decode cX8_weeks 23 = .ok (.iload_n 1, 1) := by decide +kernel
theorem dX8_weeks_24 : decode cX8_weeks 24 = .ok (.iadd, 1) := by decide +kernel
theorem dX8_weeks_25 : decode cX8_weeks 25 = .ok (.putfield 57, 3) := by decide +kernel
theorem dX8_weeks_28 : decode cX8_weeks 28 = .ok (.aload_n 0, 1) := by decide +kernel
theorem dX8_weeks_29 : decode cX8_weeks 29 = .ok (.aload_n 0, 1) := by decide +kernel
theorem dX8_weeks_30 : decode cX8_weeks 30 = .ok (.getfield 57, 3) := by decide +kernel
theorem dX8_weeks_33 : decode cX8_weeks 33 = .ok (.invokevirtual 221, 3) := by decide +kernel
theorem dX8_weeks_36 : decode cX8_weeks 36 = .ok (.aload_n 0, 1) := by decide +kernel
theorem dX8_weeks_37 : decode cX8_weeks 37 = .ok (.getfield 57, 3) := by decide +kernel
theorem dX8_weeks_40 : decode cX8_weeks 40 = .ok (.ireturn, 1) := by decide +kernel
theorem dX8_year_0 : decode cX8_year 0 = .ok (.aload_n 0, 1) := by decide +kernel
theorem dX8_year_1 : decode cX8_year 1 = .ok (.bipush 52, 2) := by decide +kernel
theorem dX8_year_3 : decode cX8_year 3 = .ok (.invokevirtual 221, 3) := by decide +kernel
theorem dX8_year_6 : decode cX8_year 6 = .ok (.iconst 0, 1) := by decide +kernel
theorem dX8_year_7 : decode cX8_year 7 = .ok (.istore_n 1, 1) := by decide +kernel
theorem dX8_year_8 : decode cX8_year 8 = .ok (.iload_n 1, 1) := by decide +kernel
theorem dX8_year_9 : decode cX8_year 9 = .ok (.aload_n 0, 1) := by decide +kernel
theorem dX8_year_10 : decode cX8_year 10 = .ok (.getfield 15, 3) := by decide +kernel
theorem dX8_year_13 : decode cX8_year 13 = .ok (.if_icmp .ge 18, 3) := by decide +kernel
theorem dX8_year_16 : decode cX8_year 16 = .ok (.aload_n 0, 1) := by decide +kernel
theorem dX8_year_17 : decode cX8_year 17 = .ok (.getfield 11, 3) := by decide +kernel
theorem dX8_year_20 : decode cX8_year 20 = .ok (.iload_n 1, 1) := by decide +kernel
theorem dX8_year_21 : decode cX8_year 21 = .ok (.aaload, 1) := by decide +kernel
theorem dX8_year_22 : decode cX8_year 22 = .ok (.invokevirtual 224, 3) := by decide +kernel
theorem dX8_year_25 : decode cX8_year 25 = .ok (.iinc 1 1, 3) := by decide +kernel
theorem dX8_year_28 : decode cX8_year 28 = .ok (.goto (-20), 3) := by decide +kernel
theorem dX8_year_31 : decode cX8_year 31 = .ok (.aload_n 0, 1) := by decide +kernel
theorem dX8_year_32 : decode cX8_year 32 = .ok (.iconst 0, 1) := by decide +kernel
theorem dX8_year_33 : decode cX8_year 33 = .ok (.putfield 57, 3) := by decide +kernel
theorem dX8_year_36 : decode cX8_year 36 = .ok (.aload_n 0, 1) := by decide +kernel
theorem dX8_year_37 : decode cX8_year 37 = .ok (.dup, 1) := by decide +kernel
theorem dX8_year_38 : decode cX8_year 38 = .ok (.getfield 54, 3) := by decide +kernel
theorem dX8_year_41 : decode cX8_year 41 = .ok (.iconst 1, 1) := by decide +kernel
theorem dX8_year_42 : decode cX8_year 42 = .ok (.iadd, 1) := by decide +kernel
theorem dX8_year_43 : decode cX8_year 43 = .ok (.putfield 54, 3) := by decide +kernel
theorem dX8_year_46 : decode cX8_year 46 = .ok (.aload_n 0, 1) := by decide +kernel
theorem dX8_year_47 : decode cX8_year 47 = .ok (.getfield 54, 3) := by decide +kernel
theorem dX8_year_50 : decode cX8_year 50 = .ok (.ireturn, 1) := by decide +kernel
theorem dX8_dies_0 : decode cX8_dies 0 = .ok (.aload_n 0, 1) := by decide +kernel
theorem dX8_dies_1 : decode cX8_dies 1 = .ok (.iload_n 1, 1) := by decide +kernel
theorem dX8_dies_2 : decode cX8_dies 2 = .ok (.invokevirtual 88, 3) := by decide +kernel
theorem dX8_dies_5 : decode cX8_dies 5 = .ok (.astore 4, 2) := by decide +kernel
theorem dX8_dies_7 : decode cX8_dies 7 = .ok (.aload_n 0, 1) := by decide +kernel
theorem dX8_dies_8 : decode cX8_dies 8 = .ok (.iload_n 2, 1) := by decide +kernel
theorem dX8_dies_9 : decode cX8_dies 9 = .ok (.invokevirtual 88, 3) := by decide +kernel
theorem dX8_dies_12 : decode cX8_dies 12 = .ok (.astore 5, 2) := by decide +kernel
theorem dX8_dies_14 : decode cX8_dies 14 = .ok (.aload 4, 2) := by decide +kernel
theorem dX8_dies_16 : decode cX8_dies 16 = .ok (.ifnull 15, 3) := by decide +kernel
theorem dX8_dies_19 : decode cX8_dies 19 = .ok (.aload 5, 2) := by decide +kernel
theorem dX8_dies_21 : decode cX8_dies 21 = .ok (.ifnull 10, 3) := by decide +kernel
theorem dX8_dies_24 : decode cX8_dies 24 = .ok (.aload 4, 2) := by decide +kernel
theorem dX8_dies_26 : decode cX8_dies 26 = .ok (.aload 5, 2) := by decide +kernel
theorem dX8_dies_28 : decode cX8_dies 28 = .ok (.if_acmp .ne 5, 3) := by decide +kernel
theorem dX8_dies_31 : decode cX8_dies 31 = .ok (.iconst (-1), 1) := by decide +kernel
theorem dX8_dies_32 : decode cX8_dies 32 = .ok (.ireturn, 1) := by decide +kernel
theorem dX8_dies_33 : decode cX8_dies 33 = .ok (.iconst 0, 1) := by decide +kernel
theorem dX8_dies_34 : decode cX8_dies 34 = .ok (.istore 6, 2) := by decide +kernel
theorem dX8_dies_36 : decode cX8_dies 36 = .ok (.iload 6, 2) := by decide +kernel
theorem dX8_dies_38 : decode cX8_dies 38 = .ok (.aload_n 0, 1) := by decide +kernel
theorem dX8_dies_39 : decode cX8_dies 39 = .ok (.getfield 34, 3) := by decide +kernel
theorem dX8_dies_42 : decode cX8_dies 42 = .ok (.if_icmp .ge 48, 3) := by decide +kernel
theorem dX8_dies_45 : decode cX8_dies 45 = .ok (.aload_n 0, 1) := by decide +kernel
theorem dX8_dies_46 : decode cX8_dies 46 = .ok (.getfield 30, 3) := by decide +kernel
theorem dX8_dies_49 : decode cX8_dies 49 = .ok (.iload 6, 2) := by decide +kernel
theorem dX8_dies_51 : decode cX8_dies 51 = .ok (.aaload, 1) := by decide +kernel
theorem dX8_dies_52 : decode cX8_dies 52 = .ok (.getfield 179, 3) := by decide +kernel
theorem dX8_dies_55 : decode cX8_dies 55 = .ok (.aload 4, 2) := by decide +kernel
theorem dX8_dies_57 : decode cX8_dies 57 = .ok (.if_acmp .ne 27, 3) := by decide +kernel
theorem dX8_dies_60 : decode cX8_dies 60 = .ok (.aload_n 0, 1) := by decide +kernel
theorem dX8_dies_61 : decode cX8_dies 61 = .ok (.getfield 30, 3) := by decide +kernel
theorem dX8_dies_64 : decode cX8_dies 64 = .ok (.iload 6, 2) := by decide +kernel
theorem dX8_dies_66 : decode cX8_dies 66 = .ok (.aaload, 1) := by decide +kernel
theorem dX8_dies_67 : decode cX8_dies 67 = .ok (.getfield 136, 3) := by decide +kernel
theorem dX8_dies_70 : decode cX8_dies 70 = .ok (.ifCond .ne 14, 3) := by decide +kernel
theorem dX8_dies_73 : decode cX8_dies 73 = .ok (.aload_n 0, 1) := by decide +kernel
theorem dX8_dies_74 : decode cX8_dies 74 = .ok (.getfield 30, 3) := by decide +kernel
theorem dX8_dies_77 : decode cX8_dies 77 = .ok (.iload 6, 2) := by decide +kernel
theorem dX8_dies_79 : decode cX8_dies 79 = .ok (.aaload, 1) := by decide +kernel
theorem dX8_dies_80 : decode cX8_dies 80 = .ok (.iconst 4, 1) := by decide +kernel
theorem dX8_dies_81 : decode cX8_dies 81 = .ok (.putfield 136, 3) := by decide +kernel
theorem dX8_dies_84 : decode cX8_dies 84 = .ok (.iinc 6 1, 3) := by decide +kernel
theorem dX8_dies_87 : decode cX8_dies 87 = .ok (.goto (-51), 3) := by decide +kernel
theorem dX8_dies_90 : decode cX8_dies 90 = .ok (.aload_n 0, 1) := by decide +kernel
theorem dX8_dies_91 : decode cX8_dies 91 = .ok (.getfield 47, 3) := by decide +kernel
theorem dX8_dies_94 : decode cX8_dies 94 = .ok (.getfield 227, 3) := by decide +kernel
theorem dX8_dies_97 : decode cX8_dies 97 = .ok (.ifCond .ne 7, 3) := by decide +kernel
theorem dX8_dies_100 : decode cX8_dies 100 = .ok (.iload_n 3, 1) := by decide +kernel
theorem dX8_dies_101 : decode cX8_dies 101 = .ok (.ifCond .eq 7, 3) := by decide +kernel
theorem dX8_dies_104 : decode cX8_dies 104 = .ok (.iconst 1, 1) := by decide +kernel
theorem dX8_dies_105 : decode cX8_dies 105 = .ok (.goto 4, 3) := by decide +kernel
theorem dX8_dies_108 : decode cX8_dies 108 = .ok (.iconst 0, 1) := by decide +kernel
theorem dX8_dies_109 : decode cX8_dies 109 = .ok (.istore 6, 2) := by decide +kernel
theorem dX8_dies_111 : decode cX8_dies 111 = .ok (.iload 6, 2) := by decide +kernel
theorem dX8_dies_113 : decode cX8_dies 113 = .ok (.ifCond .eq 11, 3) := by decide +kernel
theorem dX8_dies_116 : decode cX8_dies 116 = .ok (.aload 4, 2) := by decide +kernel
theorem dX8_dies_118 : decode cX8_dies 118 = .ok (.getfield 230, 3) := by decide +kernel
theorem dX8_dies_121 : decode cX8_dies 121 = .ok (.goto 4, 3) := by decide +kernel
theorem dX8_dies_124 : decode cX8_dies 124 = .ok (.iconst 0, 1) := by decide +kernel
theorem dX8_dies_125 : decode cX8_dies 125 = .ok (.istore 7, 2) := by decide +kernel
theorem dX8_dies_127 : decode cX8_dies 127 = .ok (.aload_n 0, 1) := by decide +kernel
theorem dX8_dies_128 : decode cX8_dies 128 = .ok (.aload 4, 2) := by decide +kernel
theorem dX8_dies_130 : decode cX8_dies 130 = .ok (.iload 6, 2) := by decide +kernel
theorem dX8_dies_132 : decode cX8_dies 132 = .ok (.ifCond .eq 8, 3) := by decide +kernel
theorem dX8_dies_135 : decode cX8_dies 135 = .ok (.aload 5, 2) := by decide +kernel
theorem dX8_dies_137 : decode cX8_dies 137 = .ok (.goto 4, 3) := by decide +kernel
theorem dX8_dies_140 : decode cX8_dies 140 = .ok (.aconst_null, 1) := by decide +kernel
theorem dX8_dies_141 : decode cX8_dies 141 = .ok (.invokevirtual 233, 3) := by decide +kernel
theorem dX8_dies_144 : decode cX8_dies 144 = .ok (.iload 6, 2) := by decide +kernel
theorem dX8_dies_146 : decode cX8_dies 146 = .ok (.ifCond .eq 18, 3) := by decide +kernel
theorem dX8_dies_149 : decode cX8_dies 149 = .ok (.aload 5, 2) := by decide +kernel
theorem dX8_dies_151 : decode cX8_dies 151 = .ok (.dup, 1) := by decide +kernel
theorem dX8_dies_152 : decode cX8_dies 152 = .ok (.getfield 183, 3) := by decide +kernel
theorem dX8_dies_155 : decode cX8_dies 155 = .ok (.aload 4, 2) := by decide +kernel
theorem dX8_dies_157 : decode cX8_dies 157 = .ok (.getfield 183, 3) := by decide +kernel
theorem dX8_dies_160 : decode cX8_dies 160 = .ok (.iadd, 1) := by decide +kernel
theorem dX8_dies_161 : decode cX8_dies 161 = .ok (.putfield 183, 3) := by decide +kernel
theorem dX8_dies_164 : decode cX8_dies 164 = .ok (.aload 4, 2) := by decide +kernel
theorem dX8_dies_166 : decode cX8_dies 166 = .ok (.iconst 0, 1) := by decide +kernel
theorem dX8_dies_167 : decode cX8_dies 167 = .ok (.putfield 183, 3) := by decide +kernel
theorem dX8_dies_170 : decode cX8_dies 170 = .ok (.aload 4, 2) := by decide +kernel
theorem dX8_dies_172 : decode cX8_dies 172 = .ok (.aconst_null, 1) := by decide +kernel
theorem dX8_dies_173 : decode cX8_dies 173 = .ok (.putfield 164, 3) := by decide +kernel
theorem dX8_dies_176 : decode cX8_dies 176 = .ok (.aload 4, 2) := by decide +kernel
theorem dX8_dies_178 : decode cX8_dies 178 = .ok (.iconst 1, 1) := by decide +kernel
theorem dX8_dies_179 : decode cX8_dies 179 = .ok (.putfield 237, 3) := by decide +kernel
theorem dX8_dies_182 : decode cX8_dies 182 = .ok (.iload 7, 2) := by decide +kernel
theorem dX8_dies_184 : decode cX8_dies 184 = .ok (.ireturn, 1) := by decide +kernel
theorem dX8_fees_0 : decode cX8_fees 0 = .ok (.iload_n 1, 1) := by decide +kernel
theorem dX8_fees_1 : decode cX8_fees 1 = .ok (.iconst 1, 1) := by decide +kernel
theorem dX8_fees_2 : decode cX8_fees 2 = .ok (.if_icmp .lt 18, 3) := by decide +kernel
theorem dX8_fees_5 : decode cX8_fees 5 = .ok (.iload_n 1, 1) := by decide +kernel
theorem dX8_fees_6 : decode cX8_fees 6 = .ok (.ldc 240, 2) := by decide +kernel
theorem dX8_fees_8 : decode cX8_fees 8 = .ok (.if_icmp .gt 12, 3) := by decide +kernel
theorem dX8_fees_11 : decode cX8_fees 11 = .ok (.iload_n 2, 1) := by decide +kernel
theorem dX8_fees_12 : decode cX8_fees 12 = .ok (.ifCond .lt 8, 3) := by decide +kernel
theorem dX8_fees_15 : decode cX8_fees 15 = .ok (.iload_n 2, 1) := by decide +kernel
theorem dX8_fees_16 : decode cX8_fees 16 = .ok (.iconst 2, 1) := by decide +kernel
theorem dX8_fees_17 : decode cX8_fees 17 = .ok (.if_icmp .le 5, 3) := by decide +kernel
theorem dX8_fees_20 : decode cX8_fees 20 = .ok (.iconst (-1), 1) := by decide +kernel
theorem dX8_fees_21 : decode cX8_fees 21 = .ok (.ireturn, 1) := by decide +kernel
theorem dX8_fees_22 : decode cX8_fees 22 = .ok (.aload_n 0, 1) := by decide +kernel
theorem dX8_fees_23 : decode cX8_fees 23 = .ok (.getfield 70, 3) := by decide +kernel
theorem dX8_fees_26 : decode cX8_fees 26 = .ok (.invokevirtual 241, 3) := by decide +kernel
theorem dX8_fees_29 : decode cX8_fees 29 = .ok (.iconst 0, 1) := by decide +kernel
theorem dX8_fees_30 : decode cX8_fees 30 = .ok (.istore_n 3, 1) := by decide +kernel
theorem dX8_fees_31 : decode cX8_fees 31 = .ok (.iload_n 3, 1) := by decide +kernel
theorem dX8_fees_32 : decode cX8_fees 32 = .ok (.aload_n 0, 1) := by decide +kernel
theorem dX8_fees_33 : decode cX8_fees 33 = .ok (.getfield 25, 3) := by decide +kernel
theorem dX8_fees_36 : decode cX8_fees 36 = .ok (.if_icmp .ge 46, 3) := by decide +kernel
theorem dX8_fees_39 : decode cX8_fees 39 = .ok (.aload_n 0, 1) := by decide +kernel
theorem dX8_fees_40 : decode cX8_fees 40 = .ok (.getfield 21, 3) := by decide +kernel
theorem dX8_fees_43 : decode cX8_fees 43 = .ok (.iload_n 3, 1) := by decide +kernel
theorem dX8_fees_44 : decode cX8_fees 44 = .ok (.aaload, 1) := by decide +kernel
theorem dX8_fees_45 : decode cX8_fees 45 = .ok (.getfield 237, 3) := by decide +kernel
theorem dX8_fees_48 : decode cX8_fees 48 = .ok (.ifCond .ne 28, 3) := by decide +kernel
theorem dX8_fees_51 : decode cX8_fees 51 = .ok (.aload_n 0, 1) := by decide +kernel
theorem dX8_fees_52 : decode cX8_fees 52 = .ok (.getfield 70, 3) := by decide +kernel
theorem dX8_fees_55 : decode cX8_fees 55 = .ok (.aload_n 0, 1) := by decide +kernel
theorem dX8_fees_56 : decode cX8_fees 56 = .ok (.getfield 21, 3) := by decide +kernel
theorem dX8_fees_59 : decode cX8_fees 59 = .ok (.iload_n 3, 1) := by decide +kernel
theorem dX8_fees_60 : decode cX8_fees 60 = .ok (.aaload, 1) := by decide +kernel
theorem dX8_fees_61 : decode cX8_fees 61 = .ok (.getfield 242, 3) := by decide +kernel
theorem dX8_fees_64 : decode cX8_fees 64 = .ok (.aload_n 0, 1) := by decide +kernel
theorem dX8_fees_65 : decode cX8_fees 65 = .ok (.getfield 21, 3) := by decide +kernel
theorem dX8_fees_68 : decode cX8_fees 68 = .ok (.iload_n 3, 1) := by decide +kernel
theorem dX8_fees_69 : decode cX8_fees 69 = .ok (.aaload, 1) := by decide +kernel
theorem dX8_fees_70 : decode cX8_fees 70 = .ok (.getfield 230, 3) := by decide +kernel
theorem dX8_fees_73 : decode cX8_fees 73 = .ok (.invokevirtual 245, 3) := by decide +kernel
theorem dX8_fees_76 : decode cX8_fees 76 = .ok (.iinc 3 1, 3) := by decide +kernel
theorem dX8_fees_79 : decode cX8_fees 79 = .ok (.goto (-48), 3) := by decide +kernel
theorem dX8_fees_82 : decode cX8_fees 82 = .ok (.aload_n 0, 1) := by decide +kernel
theorem dX8_fees_83 : decode cX8_fees 83 = .ok (.getfield 70, 3) := by decide +kernel
theorem dX8_fees_86 : decode cX8_fees 86 = .ok (.iload_n 1, 1) := by decide +kernel
theorem dX8_fees_87 : decode cX8_fees 87 = .ok (.invokevirtual 247, 3) := by decide +kernel
theorem dX8_fees_90 : decode cX8_fees 90 = .ok (.iload_n 2, 1) := by decide +kernel
theorem dX8_fees_91 : decode cX8_fees 91 = .ok (.ifCond .ne 11, 3) := by decide +kernel
theorem dX8_fees_94 : decode cX8_fees 94 = .ok (.aload_n 0, 1) := by decide +kernel
theorem dX8_fees_95 : decode cX8_fees 95 = .ok (.getfield 70, 3) := by decide +kernel
theorem dX8_fees_98 : decode cX8_fees 98 = .ok (.getfield 250, 3) := by decide +kernel
theorem dX8_fees_101 : decode cX8_fees 101 = .ok (.ireturn, 1) := by decide +kernel
theorem dX8_fees_102 : decode cX8_fees 102 = .ok (.iload_n 2, 1) := by decide +kernel
theorem dX8_fees_103 : decode cX8_fees 103 = .ok (.iconst 1, 1) := by decide +kernel
theorem dX8_fees_104 : decode cX8_fees 104 = .ok (.if_icmp .ne 13, 3) := by decide +kernel
theorem dX8_fees_107 : decode cX8_fees 107 = .ok (.aload_n 0, 1) := by decide +kernel
theorem dX8_fees_108 : decode cX8_fees 108 = .ok (.getfield 70, 3) := by decide +kernel
theorem dX8_fees_111 : decode cX8_fees 111 = .ok (.getfield 253, 3) := by decide +kernel
theorem dX8_fees_114 : decode cX8_fees 114 = .ok (.goto 10, 3) := by decide +kernel
theorem dX8_fees_117 : decode cX8_fees 117 = .ok (.aload_n 0, 1) := by decide +kernel
theorem dX8_fees_118 : decode cX8_fees 118 = .ok (.getfield 70, 3) := by decide +kernel
theorem dX8_fees_121 : decode cX8_fees 121 = .ok (.invokevirtual 256, 3) := by decide +kernel
theorem dX8_fees_124 : decode cX8_fees 124 = .ok (.ireturn, 1) := by decide +kernel
theorem dX8_party_0 : decode cX8_party 0 = .ok (.aload_n 0, 1) := by decide +kernel
theorem dX8_party_1 : decode cX8_party 1 = .ok (.iload_n 1, 1) := by decide +kernel
theorem dX8_party_2 : decode cX8_party 2 = .ok (.invokevirtual 84, 3) := by decide +kernel
theorem dX8_party_5 : decode cX8_party 5 = .ok (.astore_n 3, 1) := by decide +kernel
theorem dX8_party_6 : decode cX8_party 6 = .ok (.aload_n 3, 1) := by decide +kernel
theorem dX8_party_7 : decode cX8_party 7 = .ok (.ifnull 10, 3) := by decide +kernel
theorem dX8_party_10 : decode cX8_party 10 = .ok (.iload_n 2, 1) := by decide +kernel
theorem dX8_party_11 : decode cX8_party 11 = .ok (.invokestatic 92, 3) := by decide +kernel
theorem dX8_party_14 : decode cX8_party 14 = .ok (.ifCond .ne 5, 3) := by decide +kernel
theorem dX8_party_17 : decode cX8_party 17 = .ok (.iconst (-1), 1) := by decide +kernel
theorem dX8_party_18 : decode cX8_party 18 = .ok (.ireturn, 1) := by decide +kernel
theorem dX8_party_19 : decode cX8_party 19 = .ok (.aload_n 3, 1) := by decide +kernel
theorem dX8_party_20 : decode cX8_party 20 = .ok (.getfield 95, 3) := by decide +kernel
theorem dX8_party_23 : decode cX8_party 23 = .ok (.iload_n 2, 1) := by decide +kernel
theorem dX8_party_24 : decode cX8_party 24 = .ok (.aaload, 1) := by decide +kernel
theorem dX8_party_25 : decode cX8_party 25 = .ok (.astore 4, 2) := by decide +kernel
theorem dX8_party_27 : decode cX8_party 27 = .ok (.aload 4, 2) := by decide +kernel
theorem dX8_party_29 : decode cX8_party 29 = .ok (.ifnull 11, 3) := by decide +kernel
theorem dX8_party_32 : decode cX8_party 32 = .ok (.aload 4, 2) := by decide +kernel
theorem dX8_party_34 : decode cX8_party 34 = .ok (.invokevirtual 96, 3) := by decide +kernel
theorem dX8_party_37 : decode cX8_party 37 = .ok (.ifCond .ne 13, 3) := by decide +kernel
theorem dX8_party_40 : decode cX8_party 40 = .ok (.aload_n 3, 1) := by decide +kernel
theorem dX8_party_41 : decode cX8_party 41 = .ok (.getfield 131, 3) := by decide +kernel
theorem dX8_party_44 : decode cX8_party 44 = .ok (.iload_n 2, 1) := by decide +kernel
theorem dX8_party_45 : decode cX8_party 45 = .ok (.aaload, 1) := by decide +kernel
theorem dX8_party_46 : decode cX8_party 46 = .ok (.invokestatic 259, 3) := by decide +kernel
theorem dX8_party_49 : decode cX8_party 49 = .ok (.ireturn, 1) := by decide +kernel
theorem dX8_party_50 : decode cX8_party 50 = .ok (.aload 4, 2) := by decide +kernel
theorem dX8_party_52 : decode cX8_party 52 = .ok (.invokevirtual 263, 3) := by decide +kernel
theorem dX8_party_55 : decode cX8_party 55 = .ok (.ifCond .eq 14, 3) := by decide +kernel
theorem dX8_party_58 : decode cX8_party 58 = .ok (.aload 4, 2) := by decide +kernel
theorem dX8_party_60 : decode cX8_party 60 = .ok (.getfield 266, 3) := by decide +kernel
theorem dX8_party_63 : decode cX8_party 63 = .ok (.invokestatic 259, 3) := by decide +kernel
theorem dX8_party_66 : decode cX8_party 66 = .ok (.goto 5, 3) := by decide +kernel
theorem dX8_party_69 : decode cX8_party 69 = .ok (.bipush (-2), 2) := by decide +kernel
theorem dX8_party_71 : decode cX8_party 71 = .ok (.ireturn, 1) := by decide +kernel
theorem dX8_of_0 : decode cX8_of 0 = .ok (.aload_n 0, 1) := by decide +kernel
theorem dX8_of_1 : decode cX8_of 1 = .ok (.iload_n 1, 1) := by decide +kernel
theorem dX8_of_2 : decode cX8_of 2 = .ok (.invokevirtual 269, 3) := by decide +kernel
theorem dX8_of_5 : decode cX8_of 5 = .ok (.astore_n 3, 1) := by decide +kernel
theorem dX8_of_6 : decode cX8_of 6 = .ok (.aload_n 3, 1) := by decide +kernel
theorem dX8_of_7 : decode cX8_of 7 = .ok (.ifnonnull 14, 3) := by decide +kernel
theorem dX8_of_10 : decode cX8_of 10 = .ok (.new 273, 3) := by decide +kernel
theorem dX8_of_13 : decode cX8_of 13 = .ok (.dup, 1) := by decide +kernel
theorem dX8_of_14 : decode cX8_of 14 = .ok (.ldc_w 275, 3) := by decide +kernel
theorem dX8_of_17 : decode cX8_of 17 = .ok (.invokespecial 277, 3) := by decide +kernel
theorem dX8_of_20 : decode cX8_of 20 = .ok (.athrow, 1) := by decide +kernel
theorem dX8_of_21 : decode cX8_of 21 = .ok (.iload_n 2, 1) := by decide +kernel
theorem dX8_of_22 : decode cX8_of 22 = .ok (.tableswitch 128 0 7 #[46, 54, 62, 67, 72, 77, 82, 109], 46) := by decide +kernel
theorem dX8_of_68 : decode cX8_of 68 = .ok (.aload_n 3, 1) := by decide +kernel
theorem dX8_of_69 : decode cX8_of 69 = .ok (.getfield 179, 3) := by decide +kernel
theorem dX8_of_72 : decode cX8_of 72 = .ok (.getfield 280, 3) := by decide +kernel
theorem dX8_of_75 : decode cX8_of 75 = .ok (.ireturn, 1) := by decide +kernel
theorem dX8_of_76 : decode cX8_of 76 = .ok (.aload_n 3, 1) := by decide +kernel
theorem dX8_of_77 : decode cX8_of 77 = .ok (.getfield 208, 3) := by decide +kernel
theorem dX8_of_80 : decode cX8_of 80 = .ok (.getfield 283, 3) := by decide +kernel
theorem dX8_of_83 : decode cX8_of 83 = .ok (.ireturn, 1) := by decide +kernel
theorem dX8_of_84 : decode cX8_of 84 = .ok (.aload_n 3, 1) := by decide +kernel
theorem dX8_of_85 : decode cX8_of 85 = .ok (.getfield 212, 3) := by decide +kernel
theorem dX8_of_88 : decode cX8_of 88 = .ok (.ireturn, 1) := by decide +kernel
theorem dX8_of_89 : decode cX8_of 89 = .ok (.aload_n 3, 1) := by decide +kernel
theorem dX8_of_90 : decode cX8_of 90 = .ok (.getfield 215, 3) := by decide +kernel
theorem dX8_of_93 : decode cX8_of 93 = .ok (.ireturn, 1) := by decide +kernel
theorem dX8_of_94 : decode cX8_of 94 = .ok (.aload_n 3, 1) := by decide +kernel
theorem dX8_of_95 : decode cX8_of 95 = .ok (.getfield 186, 3) := by decide +kernel
theorem dX8_of_98 : decode cX8_of 98 = .ok (.ireturn, 1) := by decide +kernel
theorem dX8_of_99 : decode cX8_of 99 = .ok (.aload_n 3, 1) := by decide +kernel
theorem dX8_of_100 : decode cX8_of 100 = .ok (.getfield 136, 3) := by decide +kernel
theorem dX8_of_103 : decode cX8_of 103 = .ok (.ireturn, 1) := by decide +kernel
theorem dX8_of_104 : decode cX8_of 104 = .ok (.aload_n 3, 1) := by decide +kernel
theorem dX8_of_105 : decode cX8_of 105 = .ok (.getfield 136, 3) := by decide +kernel
theorem dX8_of_108 : decode cX8_of 108 = .ok (.iconst 1, 1) := by decide +kernel
theorem dX8_of_109 : decode cX8_of 109 = .ok (.if_icmp .ne 20, 3) := by decide +kernel
theorem dX8_of_112 : decode cX8_of 112 = .ok (.aload_n 3, 1) := by decide +kernel
theorem dX8_of_113 : decode cX8_of 113 = .ok (.getfield 284, 3) := by decide +kernel
theorem dX8_of_116 : decode cX8_of 116 = .ok (.ifnull 13, 3) := by decide +kernel
theorem dX8_of_119 : decode cX8_of 119 = .ok (.aload_n 3, 1) := by decide +kernel
theorem dX8_of_120 : decode cX8_of 120 = .ok (.getfield 284, 3) := by decide +kernel
theorem dX8_of_123 : decode cX8_of 123 = .ok (.getfield 288, 3) := by decide +kernel
theorem dX8_of_126 : decode cX8_of 126 = .ok (.goto 4, 3) := by decide +kernel
theorem dX8_of_129 : decode cX8_of 129 = .ok (.iconst (-1), 1) := by decide +kernel
theorem dX8_of_130 : decode cX8_of 130 = .ok (.ireturn, 1) := by decide +kernel
theorem dX8_of_131 : decode cX8_of 131 = .ok (.aload_n 3, 1) := by decide +kernel
theorem dX8_of_132 : decode cX8_of 132 = .ok (.invokevirtual 263, 3) := by decide +kernel
theorem dX8_of_135 : decode cX8_of 135 = .ok (.ifCond .eq 13, 3) := by decide +kernel
theorem dX8_of_138 : decode cX8_of 138 = .ok (.aload_n 3, 1) := by decide +kernel
theorem dX8_of_139 : decode cX8_of 139 = .ok (.getfield 266, 3) := by decide +kernel
theorem dX8_of_142 : decode cX8_of 142 = .ok (.invokestatic 259, 3) := by decide +kernel
theorem dX8_of_145 : decode cX8_of 145 = .ok (.goto 4, 3) := by decide +kernel
theorem dX8_of_148 : decode cX8_of 148 = .ok (.iconst (-1), 1) := by decide +kernel
theorem dX8_of_149 : decode cX8_of 149 = .ok (.ireturn, 1) := by decide +kernel
theorem dX8_of_150 : decode cX8_of 150 = .ok (.new 273, 3) := by decide +kernel
theorem dX8_of_153 : decode cX8_of 153 = .ok (.dup, 1) := by decide +kernel
theorem dX8_of_154 : decode cX8_of 154 = .ok (.ldc_w 289, 3) := by decide +kernel
theorem dX8_of_157 : decode cX8_of 157 = .ok (.invokespecial 277, 3) := by decide +kernel
theorem dX8_of_160 : decode cX8_of 160 = .ok (.athrow, 1) := by decide +kernel
theorem dX8_ownerOf_0 : decode cX8_ownerOf 0 = .ok (.aload_n 0, 1) := by decide +kernel
theorem dX8_ownerOf_1 : decode cX8_ownerOf 1 = .ok (.iload_n 1, 1) := by decide +kernel
theorem dX8_ownerOf_2 : decode cX8_ownerOf 2 = .ok (.invokevirtual 291, 3) := by decide +kernel
theorem dX8_ownerOf_5 : decode cX8_ownerOf 5 = .ok (.astore_n 3, 1) := by decide +kernel
theorem dX8_ownerOf_6 : decode cX8_ownerOf 6 = .ok (.aload_n 3, 1) := by decide +kernel
theorem dX8_ownerOf_7 : decode cX8_ownerOf 7 = .ok (.ifnonnull 5, 3) := by decide +kernel
theorem dX8_ownerOf_10 : decode cX8_ownerOf 10 = .ok (.iconst (-1), 1) := by decide +kernel
theorem dX8_ownerOf_11 : decode cX8_ownerOf 11 = .ok (.ireturn, 1) := by decide +kernel
theorem dX8_ownerOf_12 : decode cX8_ownerOf 12 = .ok (.iload_n 2, 1) := by decide +kernel
theorem dX8_ownerOf_13 : decode cX8_ownerOf 13 = .ok (.tableswitch 85 0 5 #[39, 44, 49, 54, 59, 72], 39) := by decide +kernel
theorem dX8_ownerOf_52 : decode cX8_ownerOf 52 = .ok (.aload_n 3, 1) := by decide +kernel
theorem dX8_ownerOf_53 : decode cX8_ownerOf 53 = .ok (.getfield 183, 3) := by decide +kernel
theorem dX8_ownerOf_56 : decode cX8_ownerOf 56 = .ok (.ireturn, 1) := by decide +kernel
theorem dX8_ownerOf_57 : decode cX8_ownerOf 57 = .ok (.aload_n 3, 1) := by decide +kernel
theorem dX8_ownerOf_58 : decode cX8_ownerOf 58 = .ok (.getfield 205, 3) := by decide +kernel
theorem dX8_ownerOf_61 : decode cX8_ownerOf 61 = .ok (.ireturn, 1) := by decide +kernel
theorem dX8_ownerOf_62 : decode cX8_ownerOf 62 = .ok (.aload_n 3, 1) := by decide +kernel
theorem dX8_ownerOf_63 : decode cX8_ownerOf 63 = .ok (.getfield 242, 3) := by decide +kernel
theorem dX8_ownerOf_66 : decode cX8_ownerOf 66 = .ok (.ireturn, 1) := by decide +kernel
theorem dX8_ownerOf_67 : decode cX8_ownerOf 67 = .ok (.aload_n 3, 1) := by decide +kernel
theorem dX8_ownerOf_68 : decode cX8_ownerOf 68 = .ok (.getfield 230, 3) := by decide +kernel
theorem dX8_ownerOf_71 : decode cX8_ownerOf 71 = .ok (.ireturn, 1) := by decide +kernel
theorem dX8_ownerOf_72 : decode cX8_ownerOf 72 = .ok (.aload_n 3, 1) := by decide +kernel
theorem dX8_ownerOf_73 : decode cX8_ownerOf 73 = .ok (.getfield 237, 3) := by decide +kernel
theorem dX8_ownerOf_76 : decode cX8_ownerOf 76 = .ok (.ifCond .eq 7, 3) := by decide +kernel
theorem dX8_ownerOf_79 : decode cX8_ownerOf 79 = .ok (.iconst 1, 1) := by decide +kernel
theorem dX8_ownerOf_80 : decode cX8_ownerOf 80 = .ok (.goto 4, 3) := by decide +kernel
theorem dX8_ownerOf_83 : decode cX8_ownerOf 83 = .ok (.iconst 0, 1) := by decide +kernel
theorem dX8_ownerOf_84 : decode cX8_ownerOf 84 = .ok (.ireturn, 1) := by decide +kernel
theorem dX8_ownerOf_85 : decode cX8_ownerOf 85 = .ok (.aload_n 3, 1) := by decide +kernel
theorem dX8_ownerOf_86 : decode cX8_ownerOf 86 = .ok (.getfield 164, 3) := by decide +kernel
theorem dX8_ownerOf_89 : decode cX8_ownerOf 89 = .ok (.ifnull 7, 3) := by decide +kernel
theorem dX8_ownerOf_92 : decode cX8_ownerOf 92 = .ok (.iconst 1, 1) := by decide +kernel
theorem dX8_ownerOf_93 : decode cX8_ownerOf 93 = .ok (.goto 4, 3) := by decide +kernel
theorem dX8_ownerOf_96 : decode cX8_ownerOf 96 = .ok (.iconst 0, 1) := by decide +kernel
theorem dX8_ownerOf_97 : decode cX8_ownerOf 97 = .ok (.ireturn, 1) := by decide +kernel
theorem dX8_ownerOf_98 : decode cX8_ownerOf 98 = .ok (.iconst (-1), 1) := by decide +kernel
theorem dX8_ownerOf_99 : decode cX8_ownerOf 99 = .ok (.ireturn, 1) := by decide +kernel
theorem dX8_count_0 : decode cX8_count 0 = .ok (.iload_n 1, 1) := by decide +kernel
theorem dX8_count_1 : decode cX8_count 1 = .ok (.tableswitch 121 0 9 #[55, 60, 65, 70, 75, 80, 86, 92, 100, 116], 55) := by decide +kernel
theorem dX8_count_56 : decode cX8_count 56 = .ok (.aload_n 0, 1) := by decide +kernel
theorem dX8_count_57 : decode cX8_count 57 = .ok (.getfield 15, 3) := by decide +kernel
theorem dX8_count_60 : decode cX8_count 60 = .ok (.ireturn, 1) := by decide +kernel
theorem dX8_count_61 : decode cX8_count 61 = .ok (.aload_n 0, 1) := by decide +kernel
theorem dX8_count_62 : decode cX8_count 62 = .ok (.getfield 25, 3) := by decide +kernel
theorem dX8_count_65 : decode cX8_count 65 = .ok (.ireturn, 1) := by decide +kernel
theorem dX8_count_66 : decode cX8_count 66 = .ok (.aload_n 0, 1) := by decide +kernel
theorem dX8_count_67 : decode cX8_count 67 = .ok (.getfield 54, 3) := by decide +kernel
theorem dX8_count_70 : decode cX8_count 70 = .ok (.ireturn, 1) := by decide +kernel
theorem dX8_count_71 : decode cX8_count 71 = .ok (.aload_n 0, 1) := by decide +kernel
theorem dX8_count_72 : decode cX8_count 72 = .ok (.getfield 57, 3) := by decide +kernel
theorem dX8_count_75 : decode cX8_count 75 = .ok (.ireturn, 1) := by decide +kernel
theorem dX8_count_76 : decode cX8_count 76 = .ok (.aload_n 0, 1) := by decide +kernel
theorem dX8_count_77 : decode cX8_count 77 = .ok (.getfield 34, 3) := by decide +kernel
theorem dX8_count_80 : decode cX8_count 80 = .ok (.ireturn, 1) := by decide +kernel
theorem dX8_count_81 : decode cX8_count 81 = .ok (.aload_n 0, 1) := by decide +kernel
theorem dX8_count_82 : decode cX8_count 82 = .ok (.iconst 0, 1) := by decide +kernel
theorem dX8_count_83 : decode cX8_count 83 = .ok (.invokevirtual 139, 3) := by decide +kernel
theorem dX8_count_86 : decode cX8_count 86 = .ok (.ireturn, 1) := by decide +kernel
theorem dX8_count_87 : decode cX8_count 87 = .ok (.aload_n 0, 1) := by decide +kernel
theorem dX8_count_88 : decode cX8_count 88 = .ok (.iconst 2, 1) := by decide +kernel
theorem dX8_count_89 : decode cX8_count 89 = .ok (.invokevirtual 139, 3) := by decide +kernel
theorem dX8_count_92 : decode cX8_count 92 = .ok (.ireturn, 1) := by decide +kernel
theorem dX8_count_93 : decode cX8_count 93 = .ok (.aload_n 0, 1) := by decide +kernel
theorem dX8_count_94 : decode cX8_count 94 = .ok (.getfield 40, 3) := by decide +kernel
theorem dX8_count_97 : decode cX8_count 97 = .ok (.getfield 104, 3) := by decide +kernel
theorem dX8_count_100 : decode cX8_count 100 = .ok (.ireturn, 1) := by decide +kernel
theorem dX8_count_101 : decode cX8_count 101 = .ok (.aload_n 0, 1) := by decide +kernel
theorem dX8_count_102 : decode cX8_count 102 = .ok (.getfield 47, 3) := by decide +kernel
theorem dX8_count_105 : decode cX8_count 105 = .ok (.getfield 227, 3) := by decide +kernel
theorem dX8_count_108 : decode cX8_count 108 = .ok (.ifCond .eq 7, 3) := by decide +kernel
theorem dX8_count_111 : decode cX8_count 111 = .ok (.iconst 1, 1) := by decide +kernel
theorem dX8_count_112 : decode cX8_count 112 = .ok (.goto 4, 3) := by decide +kernel
theorem dX8_count_115 : decode cX8_count 115 = .ok (.iconst 0, 1) := by decide +kernel
theorem dX8_count_116 : decode cX8_count 116 = .ok (.ireturn, 1) := by decide +kernel
theorem dX8_count_117 : decode cX8_count 117 = .ok (.aload_n 0, 1) := by decide +kernel
theorem dX8_count_118 : decode cX8_count 118 = .ok (.invokevirtual 294, 3) := by decide +kernel
theorem dX8_count_121 : decode cX8_count 121 = .ok (.ireturn, 1) := by decide +kernel
theorem dX8_count_122 : decode cX8_count 122 = .ok (.iconst (-1), 1) := by decide +kernel
theorem dX8_count_123 : decode cX8_count 123 = .ok (.ireturn, 1) := by decide +kernel
theorem dX8_isWeek_0 : decode cX8_isWeek 0 = .ok (.iload_n 0, 1) := by decide +kernel
theorem dX8_isWeek_1 : decode cX8_isWeek 1 = .ok (.ifCond .lt 13, 3) := by decide +kernel
theorem dX8_isWeek_4 : decode cX8_isWeek 4 = .ok (.iload_n 0, 1) := by decide +kernel
theorem dX8_isWeek_5 : decode cX8_isWeek 5 = .ok (.bipush 52, 2) := by decide +kernel
theorem dX8_isWeek_7 : decode cX8_isWeek 7 = .ok (.if_icmp .gt 7, 3) := by decide +kernel
theorem dX8_isWeek_10 : decode cX8_isWeek 10 = .ok (.iconst 1, 1) := by decide +kernel
theorem dX8_isWeek_11 : decode cX8_isWeek 11 = .ok (.goto 4, 3) := by decide +kernel
theorem dX8_isWeek_14 : decode cX8_isWeek 14 = .ok (.iconst 0, 1) := by decide +kernel
theorem dX8_isWeek_15 : decode cX8_isWeek 15 = .ok (.ireturn, 1) := by decide +kernel
theorem dX8_isSize_0 : decode cX8_isSize 0 = .ok (.iload_n 0, 1) := by decide +kernel
theorem dX8_isSize_1 : decode cX8_isSize 1 = .ok (.iconst 1, 1) := by decide +kernel
theorem dX8_isSize_2 : decode cX8_isSize 2 = .ok (.if_icmp .lt 12, 3) := by decide +kernel
theorem dX8_isSize_5 : decode cX8_isSize 5 = .ok (.iload_n 0, 1) := by decide +kernel
theorem dX8_isSize_6 : decode cX8_isSize 6 = .ok (.iconst 4, 1) := by decide +kernel
theorem dX8_isSize_7 : decode cX8_isSize 7 = .ok (.if_icmp .gt 7, 3) := by decide +kernel
theorem dX8_isSize_10 : decode cX8_isSize 10 = .ok (.iconst 1, 1) := by decide +kernel
theorem dX8_isSize_11 : decode cX8_isSize 11 = .ok (.goto 4, 3) := by decide +kernel
theorem dX8_isSize_14 : decode cX8_isSize 14 = .ok (.iconst 0, 1) := by decide +kernel
theorem dX8_isSize_15 : decode cX8_isSize 15 = .ok (.ireturn, 1) := by decide +kernel
theorem dX8_canBeWished_0 : decode cX8_canBeWished 0 = .ok (.iload_n 0, 1) := by decide +kernel
theorem dX8_canBeWished_1 : decode cX8_canBeWished 1 = .ok (.iconst (-1), 1) := by decide +kernel
theorem dX8_canBeWished_2 : decode cX8_canBeWished 2 = .ok (.if_icmp .eq 12, 3) := by decide +kernel
theorem dX8_canBeWished_5 : decode cX8_canBeWished 5 = .ok (.iload_n 0, 1) := by decide +kernel
theorem dX8_canBeWished_6 : decode cX8_canBeWished 6 = .ok (.ifCond .lt 12, 3) := by decide +kernel
theorem dX8_canBeWished_9 : decode cX8_canBeWished 9 = .ok (.iload_n 0, 1) := by decide +kernel
theorem dX8_canBeWished_10 : decode cX8_canBeWished 10 = .ok (.iconst 3, 1) := by decide +kernel
theorem dX8_canBeWished_11 : decode cX8_canBeWished 11 = .ok (.if_icmp .gt 7, 3) := by decide +kernel
theorem dX8_canBeWished_14 : decode cX8_canBeWished 14 = .ok (.iconst 1, 1) := by decide +kernel
theorem dX8_canBeWished_15 : decode cX8_canBeWished 15 = .ok (.goto 4, 3) := by decide +kernel
theorem dX8_canBeWished_18 : decode cX8_canBeWished 18 = .ok (.iconst 0, 1) := by decide +kernel
theorem dX8_canBeWished_19 : decode cX8_canBeWished 19 = .ok (.istore 4, 2) := by decide +kernel
theorem dX8_canBeWished_21 : decode cX8_canBeWished 21 = .ok (.iload 4, 2) := by decide +kernel
theorem dX8_canBeWished_23 : decode cX8_canBeWished 23 = .ok (.ifCond .eq 33, 3) := by decide +kernel
theorem dX8_canBeWished_26 : decode cX8_canBeWished 26 = .ok (.iload_n 1, 1) := by decide +kernel
theorem dX8_canBeWished_27 : decode cX8_canBeWished 27 = .ok (.invokestatic 92, 3) := by decide +kernel
theorem dX8_canBeWished_30 : decode cX8_canBeWished 30 = .ok (.ifCond .eq 26, 3) := by decide +kernel
theorem dX8_canBeWished_33 : decode cX8_canBeWished 33 = .ok (.iload_n 2, 1) := by decide +kernel
theorem dX8_canBeWished_34 : decode cX8_canBeWished 34 = .ok (.invokestatic 92, 3) := by decide +kernel
theorem dX8_canBeWished_37 : decode cX8_canBeWished 37 = .ok (.ifCond .eq 19, 3) := by decide +kernel
theorem dX8_canBeWished_40 : decode cX8_canBeWished 40 = .ok (.iload_n 1, 1) := by decide +kernel
theorem dX8_canBeWished_41 : decode cX8_canBeWished 41 = .ok (.iload_n 2, 1) := by decide +kernel
theorem dX8_canBeWished_42 : decode cX8_canBeWished 42 = .ok (.if_icmp .gt 14, 3) := by decide +kernel
theorem dX8_canBeWished_45 : decode cX8_canBeWished 45 = .ok (.iload_n 3, 1) := by decide +kernel
theorem dX8_canBeWished_46 : decode cX8_canBeWished 46 = .ok (.invokestatic 74, 3) := by decide +kernel
theorem dX8_canBeWished_49 : decode cX8_canBeWished 49 = .ok (.ifCond .eq 7, 3) := by decide +kernel
theorem dX8_canBeWished_52 : decode cX8_canBeWished 52 = .ok (.iconst 1, 1) := by decide +kernel
theorem dX8_canBeWished_53 : decode cX8_canBeWished 53 = .ok (.goto 4, 3) := by decide +kernel
theorem dX8_canBeWished_56 : decode cX8_canBeWished 56 = .ok (.iconst 0, 1) := by decide +kernel
theorem dX8_canBeWished_57 : decode cX8_canBeWished 57 = .ok (.ireturn, 1) := by decide +kernel
theorem dX8_numberOf_0 : decode cX8_numberOf 0 = .ok (.aload_n 0, 1) := by decide +kernel
theorem dX8_numberOf_1 : decode cX8_numberOf 1 = .ok (.ifnonnull 7, 3) := by decide +kernel
theorem dX8_numberOf_4 : decode cX8_numberOf 4 = .ok (.iconst (-1), 1) := by decide +kernel
theorem dX8_numberOf_5 : decode cX8_numberOf 5 = .ok (.goto 7, 3) := by decide +kernel
theorem dX8_numberOf_8 : decode cX8_numberOf 8 = .ok (.aload_n 0, 1) := by decide +kernel
theorem dX8_numberOf_9 : decode cX8_numberOf 9 = .ok (.getfield 280, 3) := by decide +kernel
theorem dX8_numberOf_12 : decode cX8_numberOf 12 = .ok (.ireturn, 1) := by decide +kernel
theorem dX8_flatAt_0 : decode cX8_flatAt 0 = .ok (.iload_n 1, 1) := by decide +kernel
theorem dX8_flatAt_1 : decode cX8_flatAt 1 = .ok (.ifCond .lt 20, 3) := by decide +kernel
theorem dX8_flatAt_4 : decode cX8_flatAt 4 = .ok (.iload_n 1, 1) := by decide +kernel
theorem dX8_flatAt_5 : decode cX8_flatAt 5 = .ok (.aload_n 0, 1) := by decide +kernel
theorem dX8_flatAt_6 : decode cX8_flatAt 6 = .ok (.getfield 15, 3) := by decide +kernel
theorem dX8_flatAt_9 : decode cX8_flatAt 9 = .ok (.if_icmp .ge 12, 3) := by decide +kernel
theorem dX8_flatAt_12 : decode cX8_flatAt 12 = .ok (.aload_n 0, 1) := by decide +kernel
theorem dX8_flatAt_13 : decode cX8_flatAt 13 = .ok (.getfield 11, 3) := by decide +kernel
theorem dX8_flatAt_16 : decode cX8_flatAt 16 = .ok (.iload_n 1, 1) := by decide +kernel
theorem dX8_flatAt_17 : decode cX8_flatAt 17 = .ok (.aaload, 1) := by decide +kernel
theorem dX8_flatAt_18 : decode cX8_flatAt 18 = .ok (.goto 4, 3) := by decide +kernel
theorem dX8_flatAt_21 : decode cX8_flatAt 21 = .ok (.aconst_null, 1) := by decide +kernel
theorem dX8_flatAt_22 : decode cX8_flatAt 22 = .ok (.areturn, 1) := by decide +kernel
theorem dX8_ownerAt_0 : decode cX8_ownerAt 0 = .ok (.iload_n 1, 1) := by decide +kernel
theorem dX8_ownerAt_1 : decode cX8_ownerAt 1 = .ok (.ifCond .lt 20, 3) := by decide +kernel
theorem dX8_ownerAt_4 : decode cX8_ownerAt 4 = .ok (.iload_n 1, 1) := by decide +kernel
theorem dX8_ownerAt_5 : decode cX8_ownerAt 5 = .ok (.aload_n 0, 1) := by decide +kernel
theorem dX8_ownerAt_6 : decode cX8_ownerAt 6 = .ok (.getfield 25, 3) := by decide +kernel
theorem dX8_ownerAt_9 : decode cX8_ownerAt 9 = .ok (.if_icmp .ge 12, 3) := by decide +kernel
theorem dX8_ownerAt_12 : decode cX8_ownerAt 12 = .ok (.aload_n 0, 1) := by decide +kernel
theorem dX8_ownerAt_13 : decode cX8_ownerAt 13 = .ok (.getfield 21, 3) := by decide +kernel
theorem dX8_ownerAt_16 : decode cX8_ownerAt 16 = .ok (.iload_n 1, 1) := by decide +kernel
theorem dX8_ownerAt_17 : decode cX8_ownerAt 17 = .ok (.aaload, 1) := by decide +kernel
theorem dX8_ownerAt_18 : decode cX8_ownerAt 18 = .ok (.goto 4, 3) := by decide +kernel
theorem dX8_ownerAt_21 : decode cX8_ownerAt 21 = .ok (.aconst_null, 1) := by decide +kernel
theorem dX8_ownerAt_22 : decode cX8_ownerAt 22 = .ok (.areturn, 1) := by decide +kernel
theorem dX8_livingOwnerAt_0 : decode cX8_livingOwnerAt 0 = .ok (.aload_n 0, 1) := by decide +kernel
theorem dX8_livingOwnerAt_1 : decode cX8_livingOwnerAt 1 = .ok (.iload_n 1, 1) := by decide +kernel
theorem dX8_livingOwnerAt_2 : decode cX8_livingOwnerAt 2 = .ok (.invokevirtual 291, 3) := by decide +kernel
theorem dX8_livingOwnerAt_5 : decode cX8_livingOwnerAt 5 = .ok (.astore_n 2, 1) := by decide +kernel
theorem dX8_livingOwnerAt_6 : decode cX8_livingOwnerAt 6 = .ok (.aload_n 2, 1) := by decide +kernel
theorem dX8_livingOwnerAt_7 : decode cX8_livingOwnerAt 7 = .ok (.ifnull 10, 3) := by decide +kernel
theorem dX8_livingOwnerAt_10 : decode cX8_livingOwnerAt 10 = .ok (.aload_n 2, 1) := by decide +kernel
theorem dX8_livingOwnerAt_11 : decode cX8_livingOwnerAt 11 = .ok (.getfield 237, 3) := by decide +kernel
theorem dX8_livingOwnerAt_14 : decode cX8_livingOwnerAt 14 = .ok (.ifCond .eq 7, 3) := by decide +kernel
theorem dX8_livingOwnerAt_17 : decode cX8_livingOwnerAt 17 = .ok (.aconst_null, 1) := by decide +kernel
theorem dX8_livingOwnerAt_18 : decode cX8_livingOwnerAt 18 = .ok (.goto 4, 3) := by decide +kernel
theorem dX8_livingOwnerAt_21 : decode cX8_livingOwnerAt 21 = .ok (.aload_n 2, 1) := by decide +kernel
theorem dX8_livingOwnerAt_22 : decode cX8_livingOwnerAt 22 = .ok (.areturn, 1) := by decide +kernel
theorem dX8_giftAt_0 : decode cX8_giftAt 0 = .ok (.iload_n 1, 1) := by decide +kernel
theorem dX8_giftAt_1 : decode cX8_giftAt 1 = .ok (.ifCond .lt 20, 3) := by decide +kernel
theorem dX8_giftAt_4 : decode cX8_giftAt 4 = .ok (.iload_n 1, 1) := by decide +kernel
theorem dX8_giftAt_5 : decode cX8_giftAt 5 = .ok (.aload_n 0, 1) := by decide +kernel
theorem dX8_giftAt_6 : decode cX8_giftAt 6 = .ok (.getfield 34, 3) := by decide +kernel
theorem dX8_giftAt_9 : decode cX8_giftAt 9 = .ok (.if_icmp .ge 12, 3) := by decide +kernel
theorem dX8_giftAt_12 : decode cX8_giftAt 12 = .ok (.aload_n 0, 1) := by decide +kernel
theorem dX8_giftAt_13 : decode cX8_giftAt 13 = .ok (.getfield 30, 3) := by decide +kernel
theorem dX8_giftAt_16 : decode cX8_giftAt 16 = .ok (.iload_n 1, 1) := by decide +kernel
theorem dX8_giftAt_17 : decode cX8_giftAt 17 = .ok (.aaload, 1) := by decide +kernel
theorem dX8_giftAt_18 : decode cX8_giftAt 18 = .ok (.goto 4, 3) := by decide +kernel
theorem dX8_giftAt_21 : decode cX8_giftAt 21 = .ok (.aconst_null, 1) := by decide +kernel
theorem dX8_giftAt_22 : decode cX8_giftAt 22 = .ok (.areturn, 1) := by decide +kernel
theorem dX8_giftThatIs_0 : decode cX8_giftThatIs 0 = .ok (.aload_n 0, 1) := by decide +kernel
theorem dX8_giftThatIs_1 : decode cX8_giftThatIs 1 = .ok (.iload_n 1, 1) := by decide +kernel
theorem dX8_giftThatIs_2 : decode cX8_giftThatIs 2 = .ok (.invokevirtual 269, 3) := by decide +kernel
theorem dX8_giftThatIs_5 : decode cX8_giftThatIs 5 = .ok (.astore_n 3, 1) := by decide +kernel
theorem dX8_giftThatIs_6 : decode cX8_giftThatIs 6 = .ok (.aload_n 3, 1) := by decide +kernel
theorem dX8_giftThatIs_7 : decode cX8_giftThatIs 7 = .ok (.ifnull 11, 3) := by decide +kernel
theorem dX8_giftThatIs_10 : decode cX8_giftThatIs 10 = .ok (.aload_n 3, 1) := by decide +kernel
theorem dX8_giftThatIs_11 : decode cX8_giftThatIs 11 = .ok (.getfield 136, 3) := by decide +kernel
theorem dX8_giftThatIs_14 : decode cX8_giftThatIs 14 = .ok (.iload_n 2, 1) := by decide +kernel
theorem dX8_giftThatIs_15 : decode cX8_giftThatIs 15 = .ok (.if_icmp .eq 7, 3) := by decide +kernel
theorem dX8_giftThatIs_18 : decode cX8_giftThatIs 18 = .ok (.aconst_null, 1) := by decide +kernel
theorem dX8_giftThatIs_19 : decode cX8_giftThatIs 19 = .ok (.goto 4, 3) := by decide +kernel
theorem dX8_giftThatIs_22 : decode cX8_giftThatIs 22 = .ok (.aload_n 3, 1) := by decide +kernel
theorem dX8_giftThatIs_23 : decode cX8_giftThatIs 23 = .ok (.areturn, 1) := by decide +kernel
theorem dX8_addGift_0 : decode cX8_addGift 0 = .ok (.new 28, 3) := by decide +kernel
theorem dX8_addGift_3 : decode cX8_addGift 3 = .ok (.dup, 1) := by decide +kernel
theorem dX8_addGift_4 : decode cX8_addGift 4 = .ok (.aload_n 0, 1) := by decide +kernel
theorem dX8_addGift_5 : decode cX8_addGift 5 = .ok (.getfield 34, 3) := by decide +kernel
theorem dX8_addGift_8 : decode cX8_addGift 8 = .ok (.aload_n 1, 1) := by decide +kernel
theorem dX8_addGift_9 : decode cX8_addGift 9 = .ok (.aload_n 2, 1) := by decide +kernel
theorem dX8_addGift_10 : decode cX8_addGift 10 = .ok (.iload_n 3, 1) := by decide +kernel
theorem dX8_addGift_11 : decode cX8_addGift 11 = .ok (.invokespecial 297, 3) := by decide +kernel
theorem dX8_addGift_14 : decode cX8_addGift 14 = .ok (.astore 4, 2) := by decide +kernel
theorem dX8_addGift_16 : decode cX8_addGift 16 = .ok (.aload 4, 2) := by decide +kernel
theorem dX8_addGift_18 : decode cX8_addGift 18 = .ok (.aload_n 0, 1) := by decide +kernel
theorem dX8_addGift_19 : decode cX8_addGift 19 = .ok (.getfield 54, 3) := by decide +kernel
theorem dX8_addGift_22 : decode cX8_addGift 22 = .ok (.putfield 215, 3) := by decide +kernel
theorem dX8_addGift_25 : decode cX8_addGift 25 = .ok (.aload 4, 2) := by decide +kernel
theorem dX8_addGift_27 : decode cX8_addGift 27 = .ok (.aload_n 0, 1) := by decide +kernel
theorem dX8_addGift_28 : decode cX8_addGift 28 = .ok (.getfield 47, 3) := by decide +kernel
theorem dX8_addGift_31 : decode cX8_addGift 31 = .ok (.aload_n 2, 1) := by decide +kernel
theorem dX8_addGift_32 : decode cX8_addGift 32 = .ok (.getfield 124, 3) := by decide +kernel
theorem dX8_addGift_35 : decode cX8_addGift 35 = .ok (.iload_n 3, 1) := by decide +kernel
theorem dX8_addGift_36 : decode cX8_addGift 36 = .ok (.iload_n 3, 1) := by decide +kernel
theorem dX8_addGift_37 : decode cX8_addGift 37 = .ok (.aload_n 0, 1) := by decide +kernel
theorem dX8_addGift_38 : decode cX8_addGift 38 = .ok (.getfield 57, 3) := by decide +kernel
theorem dX8_addGift_41 : decode cX8_addGift 41 = .ok (.isub, 1) := by decide +kernel
theorem dX8_addGift_42 : decode cX8_addGift 42 = .ok (.invokevirtual 127, 3) := by decide +kernel
theorem dX8_addGift_45 : decode cX8_addGift 45 = .ok (.putfield 186, 3) := by decide +kernel
theorem dX8_addGift_48 : decode cX8_addGift 48 = .ok (.aload_n 0, 1) := by decide +kernel
theorem dX8_addGift_49 : decode cX8_addGift 49 = .ok (.getfield 30, 3) := by decide +kernel
theorem dX8_addGift_52 : decode cX8_addGift 52 = .ok (.aload_n 0, 1) := by decide +kernel
theorem dX8_addGift_53 : decode cX8_addGift 53 = .ok (.getfield 34, 3) := by decide +kernel
theorem dX8_addGift_56 : decode cX8_addGift 56 = .ok (.aload 4, 2) := by decide +kernel
theorem dX8_addGift_58 : decode cX8_addGift 58 = .ok (.aastore, 1) := by decide +kernel
theorem dX8_addGift_59 : decode cX8_addGift 59 = .ok (.aload_n 0, 1) := by decide +kernel
theorem dX8_addGift_60 : decode cX8_addGift 60 = .ok (.dup, 1) := by decide +kernel
theorem dX8_addGift_61 : decode cX8_addGift 61 = .ok (.getfield 34, 3) := by decide +kernel
theorem dX8_addGift_64 : decode cX8_addGift 64 = .ok (.iconst 1, 1) := by decide +kernel
theorem dX8_addGift_65 : decode cX8_addGift 65 = .ok (.iadd, 1) := by decide +kernel
theorem dX8_addGift_66 : decode cX8_addGift 66 = .ok (.putfield 34, 3) := by decide +kernel
theorem dX8_addGift_69 : decode cX8_addGift 69 = .ok (.aload_n 2, 1) := by decide +kernel
theorem dX8_addGift_70 : decode cX8_addGift 70 = .ok (.getfield 95, 3) := by decide +kernel
theorem dX8_addGift_73 : decode cX8_addGift 73 = .ok (.iload_n 3, 1) := by decide +kernel
theorem dX8_addGift_74 : decode cX8_addGift 74 = .ok (.aload 4, 2) := by decide +kernel
theorem dX8_addGift_76 : decode cX8_addGift 76 = .ok (.aastore, 1) := by decide +kernel
theorem dX8_addGift_77 : decode cX8_addGift 77 = .ok (.aload 4, 2) := by decide +kernel
theorem dX8_addGift_79 : decode cX8_addGift 79 = .ok (.getfield 288, 3) := by decide +kernel
theorem dX8_addGift_82 : decode cX8_addGift 82 = .ok (.ireturn, 1) := by decide +kernel
theorem dX8_countGifts_0 : decode cX8_countGifts 0 = .ok (.iconst 0, 1) := by decide +kernel
theorem dX8_countGifts_1 : decode cX8_countGifts 1 = .ok (.istore_n 2, 1) := by decide +kernel
theorem dX8_countGifts_2 : decode cX8_countGifts 2 = .ok (.iconst 0, 1) := by decide +kernel
theorem dX8_countGifts_3 : decode cX8_countGifts 3 = .ok (.istore_n 3, 1) := by decide +kernel
theorem dX8_countGifts_4 : decode cX8_countGifts 4 = .ok (.iload_n 3, 1) := by decide +kernel
theorem dX8_countGifts_5 : decode cX8_countGifts 5 = .ok (.aload_n 0, 1) := by decide +kernel
theorem dX8_countGifts_6 : decode cX8_countGifts 6 = .ok (.getfield 34, 3) := by decide +kernel
theorem dX8_countGifts_9 : decode cX8_countGifts 9 = .ok (.if_icmp .ge 25, 3) := by decide +kernel
theorem dX8_countGifts_12 : decode cX8_countGifts 12 = .ok (.aload_n 0, 1) := by decide +kernel
theorem dX8_countGifts_13 : decode cX8_countGifts 13 = .ok (.getfield 30, 3) := by decide +kernel
theorem dX8_countGifts_16 : decode cX8_countGifts 16 = .ok (.iload_n 3, 1) := by decide +kernel
theorem dX8_countGifts_17 : decode cX8_countGifts 17 = .ok (.aaload, 1) := by decide +kernel
theorem dX8_countGifts_18 : decode cX8_countGifts 18 = .ok (.getfield 136, 3) := by decide +kernel
theorem dX8_countGifts_21 : decode cX8_countGifts 21 = .ok (.iload_n 1, 1) := by decide +kernel
theorem dX8_countGifts_22 : decode cX8_countGifts 22 = .ok (.if_icmp .ne 6, 3) := by decide +kernel
theorem dX8_countGifts_25 : decode cX8_countGifts 25 = .ok (.iinc 2 1, 3) := by decide +kernel
theorem dX8_countGifts_28 : decode cX8_countGifts 28 = .ok (.iinc 3 1, 3) := by decide +kernel
theorem dX8_countGifts_31 : decode cX8_countGifts 31 = .ok (.goto (-27), 3) := by decide +kernel
theorem dX8_countGifts_34 : decode cX8_countGifts 34 = .ok (.iload_n 2, 1) := by decide +kernel
theorem dX8_countGifts_35 : decode cX8_countGifts 35 = .ok (.ireturn, 1) := by decide +kernel
theorem dX8_sumPoints_0 : decode cX8_sumPoints 0 = .ok (.iconst 0, 1) := by decide +kernel
theorem dX8_sumPoints_1 : decode cX8_sumPoints 1 = .ok (.istore_n 1, 1) := by decide +kernel
theorem dX8_sumPoints_2 : decode cX8_sumPoints 2 = .ok (.iconst 0, 1) := by decide +kernel
theorem dX8_sumPoints_3 : decode cX8_sumPoints 3 = .ok (.istore_n 2, 1) := by decide +kernel
theorem dX8_sumPoints_4 : decode cX8_sumPoints 4 = .ok (.iload_n 2, 1) := by decide +kernel
theorem dX8_sumPoints_5 : decode cX8_sumPoints 5 = .ok (.aload_n 0, 1) := by decide +kernel
theorem dX8_sumPoints_6 : decode cX8_sumPoints 6 = .ok (.getfield 25, 3) := by decide +kernel
theorem dX8_sumPoints_9 : decode cX8_sumPoints 9 = .ok (.if_icmp .ge 21, 3) := by decide +kernel
theorem dX8_sumPoints_12 : decode cX8_sumPoints 12 = .ok (.iload_n 1, 1) := by decide +kernel
theorem dX8_sumPoints_13 : decode cX8_sumPoints 13 = .ok (.aload_n 0, 1) := by decide +kernel
theorem dX8_sumPoints_14 : decode cX8_sumPoints 14 = .ok (.getfield 21, 3) := by decide +kernel
theorem dX8_sumPoints_17 : decode cX8_sumPoints 17 = .ok (.iload_n 2, 1) := by decide +kernel
theorem dX8_sumPoints_18 : decode cX8_sumPoints 18 = .ok (.aaload, 1) := by decide +kernel
theorem dX8_sumPoints_19 : decode cX8_sumPoints 19 = .ok (.getfield 183, 3) := by decide +kernel
theorem dX8_sumPoints_22 : decode cX8_sumPoints 22 = .ok (.iadd, 1) := by decide +kernel
theorem dX8_sumPoints_23 : decode cX8_sumPoints 23 = .ok (.istore_n 1, 1) := by decide +kernel
theorem dX8_sumPoints_24 : decode cX8_sumPoints 24 = .ok (.iinc 2 1, 3) := by decide +kernel
theorem dX8_sumPoints_27 : decode cX8_sumPoints 27 = .ok (.goto (-23), 3) := by decide +kernel
theorem dX8_sumPoints_30 : decode cX8_sumPoints 30 = .ok (.iload_n 1, 1) := by decide +kernel
theorem dX8_sumPoints_31 : decode cX8_sumPoints 31 = .ok (.ireturn, 1) := by decide +kernel
theorem dX8_passAllWeeks_0 : decode cX8_passAllWeeks 0 = .ok (.iconst 0, 1) := by decide +kernel
theorem dX8_passAllWeeks_1 : decode cX8_passAllWeeks 1 = .ok (.istore_n 3, 1) := by decide +kernel
theorem dX8_passAllWeeks_2 : decode cX8_passAllWeeks 2 = .ok (.iload_n 3, 1) := by decide +kernel
theorem dX8_passAllWeeks_3 : decode cX8_passAllWeeks 3 = .ok (.aload_n 0, 1) := by decide +kernel
theorem dX8_passAllWeeks_4 : decode cX8_passAllWeeks 4 = .ok (.getfield 15, 3) := by decide +kernel
theorem dX8_passAllWeeks_7 : decode cX8_passAllWeeks 7 = .ok (.if_icmp .ge 53, 3) := by decide +kernel
theorem dX8_passAllWeeks_10 : decode cX8_passAllWeeks 10 = .ok (.iconst 0, 1) := by decide +kernel
theorem dX8_passAllWeeks_11 : decode cX8_passAllWeeks 11 = .ok (.istore 4, 2) := by decide +kernel
theorem dX8_passAllWeeks_13 : decode cX8_passAllWeeks 13 = .ok (.iload 4, 2) := by decide +kernel
theorem dX8_passAllWeeks_15 : decode cX8_passAllWeeks 15 = .ok (.bipush 53, 2) := by decide +kernel
theorem dX8_passAllWeeks_17 : decode cX8_passAllWeeks 17 = .ok (.if_icmp .ge 37, 3) := by decide +kernel
theorem dX8_passAllWeeks_20 : decode cX8_passAllWeeks 20 = .ok (.aload_n 0, 1) := by decide +kernel
theorem dX8_passAllWeeks_21 : decode cX8_passAllWeeks 21 = .ok (.getfield 11, 3) := by decide +kernel
theorem dX8_passAllWeeks_24 : decode cX8_passAllWeeks 24 = .ok (.iload_n 3, 1) := by decide +kernel
theorem dX8_passAllWeeks_25 : decode cX8_passAllWeeks 25 = .ok (.aaload, 1) := by decide +kernel
theorem dX8_passAllWeeks_26 : decode cX8_passAllWeeks 26 = .ok (.getfield 131, 3) := by decide +kernel
theorem dX8_passAllWeeks_29 : decode cX8_passAllWeeks 29 = .ok (.iload 4, 2) := by decide +kernel
theorem dX8_passAllWeeks_31 : decode cX8_passAllWeeks 31 = .ok (.aaload, 1) := by decide +kernel
theorem dX8_passAllWeeks_32 : decode cX8_passAllWeeks 32 = .ok (.aload_n 1, 1) := by decide +kernel
theorem dX8_passAllWeeks_33 : decode cX8_passAllWeeks 33 = .ok (.if_acmp .ne 15, 3) := by decide +kernel
theorem dX8_passAllWeeks_36 : decode cX8_passAllWeeks 36 = .ok (.aload_n 0, 1) := by decide +kernel
theorem dX8_passAllWeeks_37 : decode cX8_passAllWeeks 37 = .ok (.getfield 11, 3) := by decide +kernel
theorem dX8_passAllWeeks_40 : decode cX8_passAllWeeks 40 = .ok (.iload_n 3, 1) := by decide +kernel
theorem dX8_passAllWeeks_41 : decode cX8_passAllWeeks 41 = .ok (.aaload, 1) := by decide +kernel
theorem dX8_passAllWeeks_42 : decode cX8_passAllWeeks 42 = .ok (.iload 4, 2) := by decide +kernel
theorem dX8_passAllWeeks_44 : decode cX8_passAllWeeks 44 = .ok (.aload_n 2, 1) := by decide +kernel
theorem dX8_passAllWeeks_45 : decode cX8_passAllWeeks 45 = .ok (.invokevirtual 100, 3) := by decide +kernel
theorem dX8_passAllWeeks_48 : decode cX8_passAllWeeks 48 = .ok (.iinc 4 1, 3) := by decide +kernel
theorem dX8_passAllWeeks_51 : decode cX8_passAllWeeks 51 = .ok (.goto (-38), 3) := by decide +kernel
theorem dX8_passAllWeeks_54 : decode cX8_passAllWeeks 54 = .ok (.iinc 3 1, 3) := by decide +kernel
theorem dX8_passAllWeeks_57 : decode cX8_passAllWeeks 57 = .ok (.goto (-55), 3) := by decide +kernel
theorem dX8_passAllWeeks_60 : decode cX8_passAllWeeks 60 = .ok (.return_, 1) := by decide +kernel
theorem dX8_endUnusedGifts_0 : decode cX8_endUnusedGifts 0 = .ok (.iconst 0, 1) := by decide +kernel
theorem dX8_endUnusedGifts_1 : decode cX8_endUnusedGifts 1 = .ok (.istore_n 2, 1) := by decide +kernel
theorem dX8_endUnusedGifts_2 : decode cX8_endUnusedGifts 2 = .ok (.iload_n 2, 1) := by decide +kernel
theorem dX8_endUnusedGifts_3 : decode cX8_endUnusedGifts 3 = .ok (.aload_n 0, 1) := by decide +kernel
theorem dX8_endUnusedGifts_4 : decode cX8_endUnusedGifts 4 = .ok (.getfield 34, 3) := by decide +kernel
theorem dX8_endUnusedGifts_7 : decode cX8_endUnusedGifts 7 = .ok (.if_icmp .ge 56, 3) := by decide +kernel
theorem dX8_endUnusedGifts_10 : decode cX8_endUnusedGifts 10 = .ok (.aload_n 0, 1) := by decide +kernel
theorem dX8_endUnusedGifts_11 : decode cX8_endUnusedGifts 11 = .ok (.getfield 30, 3) := by decide +kernel
theorem dX8_endUnusedGifts_14 : decode cX8_endUnusedGifts 14 = .ok (.iload_n 2, 1) := by decide +kernel
theorem dX8_endUnusedGifts_15 : decode cX8_endUnusedGifts 15 = .ok (.aaload, 1) := by decide +kernel
theorem dX8_endUnusedGifts_16 : decode cX8_endUnusedGifts 16 = .ok (.astore_n 3, 1) := by decide +kernel
theorem dX8_endUnusedGifts_17 : decode cX8_endUnusedGifts 17 = .ok (.aload_n 3, 1) := by decide +kernel
theorem dX8_endUnusedGifts_18 : decode cX8_endUnusedGifts 18 = .ok (.getfield 136, 3) := by decide +kernel
theorem dX8_endUnusedGifts_21 : decode cX8_endUnusedGifts 21 = .ok (.ifCond .eq 11, 3) := by decide +kernel
theorem dX8_endUnusedGifts_24 : decode cX8_endUnusedGifts 24 = .ok (.aload_n 3, 1) := by decide +kernel
theorem dX8_endUnusedGifts_25 : decode cX8_endUnusedGifts 25 = .ok (.getfield 136, 3) := by decide +kernel
theorem dX8_endUnusedGifts_28 : decode cX8_endUnusedGifts 28 = .ok (.iconst 2, 1) := by decide +kernel
theorem dX8_endUnusedGifts_29 : decode cX8_endUnusedGifts 29 = .ok (.if_icmp .ne 7, 3) := by decide +kernel
theorem dX8_endUnusedGifts_32 : decode cX8_endUnusedGifts 32 = .ok (.iconst 1, 1) := by decide +kernel
theorem dX8_endUnusedGifts_33 : decode cX8_endUnusedGifts 33 = .ok (.goto 4, 3) := by decide +kernel
theorem dX8_endUnusedGifts_36 : decode cX8_endUnusedGifts 36 = .ok (.iconst 0, 1) := by decide +kernel
theorem dX8_endUnusedGifts_37 : decode cX8_endUnusedGifts 37 = .ok (.istore 4, 2) := by decide +kernel
theorem dX8_endUnusedGifts_39 : decode cX8_endUnusedGifts 39 = .ok (.iload 4, 2) := by decide +kernel
theorem dX8_endUnusedGifts_41 : decode cX8_endUnusedGifts 41 = .ok (.ifCond .eq 16, 3) := by decide +kernel
theorem dX8_endUnusedGifts_44 : decode cX8_endUnusedGifts 44 = .ok (.aload_n 3, 1) := by decide +kernel
theorem dX8_endUnusedGifts_45 : decode cX8_endUnusedGifts 45 = .ok (.getfield 212, 3) := by decide +kernel
theorem dX8_endUnusedGifts_48 : decode cX8_endUnusedGifts 48 = .ok (.iload_n 1, 1) := by decide +kernel
theorem dX8_endUnusedGifts_49 : decode cX8_endUnusedGifts 49 = .ok (.if_icmp .gt 8, 3) := by decide +kernel
theorem dX8_endUnusedGifts_52 : decode cX8_endUnusedGifts 52 = .ok (.aload_n 3, 1) := by decide +kernel
theorem dX8_endUnusedGifts_53 : decode cX8_endUnusedGifts 53 = .ok (.iconst 5, 1) := by decide +kernel
theorem dX8_endUnusedGifts_54 : decode cX8_endUnusedGifts 54 = .ok (.putfield 136, 3) := by decide +kernel
theorem dX8_endUnusedGifts_57 : decode cX8_endUnusedGifts 57 = .ok (.iinc 2 1, 3) := by decide +kernel
theorem dX8_endUnusedGifts_60 : decode cX8_endUnusedGifts 60 = .ok (.goto (-58), 3) := by decide +kernel
theorem dX8_endUnusedGifts_63 : decode cX8_endUnusedGifts 63 = .ok (.return_, 1) := by decide +kernel
theorem dX8_firstInLine_0 : decode cX8_firstInLine 0 = .ok (.aconst_null, 1) := by decide +kernel
theorem dX8_firstInLine_1 : decode cX8_firstInLine 1 = .ok (.astore_n 1, 1) := by decide +kernel
theorem dX8_firstInLine_2 : decode cX8_firstInLine 2 = .ok (.iconst 0, 1) := by decide +kernel
theorem dX8_firstInLine_3 : decode cX8_firstInLine 3 = .ok (.istore_n 2, 1) := by decide +kernel
theorem dX8_firstInLine_4 : decode cX8_firstInLine 4 = .ok (.iload_n 2, 1) := by decide +kernel
theorem dX8_firstInLine_5 : decode cX8_firstInLine 5 = .ok (.aload_n 0, 1) := by decide +kernel
theorem dX8_firstInLine_6 : decode cX8_firstInLine 6 = .ok (.getfield 25, 3) := by decide +kernel
theorem dX8_firstInLine_9 : decode cX8_firstInLine 9 = .ok (.if_icmp .ge 48, 3) := by decide +kernel
theorem dX8_firstInLine_12 : decode cX8_firstInLine 12 = .ok (.aload_n 0, 1) := by decide +kernel
theorem dX8_firstInLine_13 : decode cX8_firstInLine 13 = .ok (.getfield 21, 3) := by decide +kernel
theorem dX8_firstInLine_16 : decode cX8_firstInLine 16 = .ok (.iload_n 2, 1) := by decide +kernel
theorem dX8_firstInLine_17 : decode cX8_firstInLine 17 = .ok (.aaload, 1) := by decide +kernel
theorem dX8_firstInLine_18 : decode cX8_firstInLine 18 = .ok (.getfield 193, 3) := by decide +kernel
theorem dX8_firstInLine_21 : decode cX8_firstInLine 21 = .ok (.ifCond .eq 30, 3) := by decide +kernel
theorem dX8_firstInLine_24 : decode cX8_firstInLine 24 = .ok (.aload_n 1, 1) := by decide +kernel
theorem dX8_firstInLine_25 : decode cX8_firstInLine 25 = .ok (.ifnull 19, 3) := by decide +kernel
theorem dX8_firstInLine_28 : decode cX8_firstInLine 28 = .ok (.aload_n 0, 1) := by decide +kernel
theorem dX8_firstInLine_29 : decode cX8_firstInLine 29 = .ok (.getfield 21, 3) := by decide +kernel
theorem dX8_firstInLine_32 : decode cX8_firstInLine 32 = .ok (.iload_n 2, 1) := by decide +kernel
theorem dX8_firstInLine_33 : decode cX8_firstInLine 33 = .ok (.aaload, 1) := by decide +kernel
theorem dX8_firstInLine_34 : decode cX8_firstInLine 34 = .ok (.getfield 205, 3) := by decide +kernel
theorem dX8_firstInLine_37 : decode cX8_firstInLine 37 = .ok (.aload_n 1, 1) := by decide +kernel
theorem dX8_firstInLine_38 : decode cX8_firstInLine 38 = .ok (.getfield 205, 3) := by decide +kernel
theorem dX8_firstInLine_41 : decode cX8_firstInLine 41 = .ok (.if_icmp .ge 10, 3) := by decide +kernel
theorem dX8_firstInLine_44 : decode cX8_firstInLine 44 = .ok (.aload_n 0, 1) := by decide +kernel
theorem dX8_firstInLine_45 : decode cX8_firstInLine 45 = .ok (.getfield 21, 3) := by decide +kernel
theorem dX8_firstInLine_48 : decode cX8_firstInLine 48 = .ok (.iload_n 2, 1) := by decide +kernel
theorem dX8_firstInLine_49 : decode cX8_firstInLine 49 = .ok (.aaload, 1) := by decide +kernel
theorem dX8_firstInLine_50 : decode cX8_firstInLine 50 = .ok (.astore_n 1, 1) := by decide +kernel
theorem dX8_firstInLine_51 : decode cX8_firstInLine 51 = .ok (.iinc 2 1, 3) := by decide +kernel
theorem dX8_firstInLine_54 : decode cX8_firstInLine 54 = .ok (.goto (-50), 3) := by decide +kernel
theorem dX8_firstInLine_57 : decode cX8_firstInLine 57 = .ok (.aload_n 1, 1) := by decide +kernel
theorem dX8_firstInLine_58 : decode cX8_firstInLine 58 = .ok (.areturn, 1) := by decide +kernel
theorem dX8_bestBankedFor_0 : decode cX8_bestBankedFor 0 = .ok (.aconst_null, 1) := by decide +kernel
theorem dX8_bestBankedFor_1 : decode cX8_bestBankedFor 1 = .ok (.astore_n 2, 1) := by decide +kernel
theorem dX8_bestBankedFor_2 : decode cX8_bestBankedFor 2 = .ok (.iconst 0, 1) := by decide +kernel
theorem dX8_bestBankedFor_3 : decode cX8_bestBankedFor 3 = .ok (.istore_n 3, 1) := by decide +kernel
theorem dX8_bestBankedFor_4 : decode cX8_bestBankedFor 4 = .ok (.iload_n 3, 1) := by decide +kernel
theorem dX8_bestBankedFor_5 : decode cX8_bestBankedFor 5 = .ok (.aload_n 0, 1) := by decide +kernel
theorem dX8_bestBankedFor_6 : decode cX8_bestBankedFor 6 = .ok (.getfield 34, 3) := by decide +kernel
theorem dX8_bestBankedFor_9 : decode cX8_bestBankedFor 9 = .ok (.if_icmp .ge 81, 3) := by decide +kernel
theorem dX8_bestBankedFor_12 : decode cX8_bestBankedFor 12 = .ok (.aload_n 0, 1) := by decide +kernel
theorem dX8_bestBankedFor_13 : decode cX8_bestBankedFor 13 = .ok (.getfield 30, 3) := by decide +kernel
theorem dX8_bestBankedFor_16 : decode cX8_bestBankedFor 16 = .ok (.iload_n 3, 1) := by decide +kernel
theorem dX8_bestBankedFor_17 : decode cX8_bestBankedFor 17 = .ok (.aaload, 1) := by decide +kernel
theorem dX8_bestBankedFor_18 : decode cX8_bestBankedFor 18 = .ok (.astore 4, 2) := by decide +kernel
theorem dX8_bestBankedFor_20 : decode cX8_bestBankedFor 20 = .ok (.aload 4, 2) := by decide +kernel
theorem dX8_bestBankedFor_22 : decode cX8_bestBankedFor 22 = .ok (.getfield 136, 3) := by decide +kernel
theorem dX8_bestBankedFor_25 : decode cX8_bestBankedFor 25 = .ok (.iconst 2, 1) := by decide +kernel
theorem dX8_bestBankedFor_26 : decode cX8_bestBankedFor 26 = .ok (.if_icmp .ne 19, 3) := by decide +kernel
theorem dX8_bestBankedFor_29 : decode cX8_bestBankedFor 29 = .ok (.aload 4, 2) := by decide +kernel
theorem dX8_bestBankedFor_31 : decode cX8_bestBankedFor 31 = .ok (.getfield 186, 3) := by decide +kernel
theorem dX8_bestBankedFor_34 : decode cX8_bestBankedFor 34 = .ok (.aload_n 1, 1) := by decide +kernel
theorem dX8_bestBankedFor_35 : decode cX8_bestBankedFor 35 = .ok (.getfield 183, 3) := by decide +kernel
theorem dX8_bestBankedFor_38 : decode cX8_bestBankedFor 38 = .ok (.if_icmp .gt 7, 3) := by decide +kernel
theorem dX8_bestBankedFor_41 : decode cX8_bestBankedFor 41 = .ok (.iconst 1, 1) := by decide +kernel
theorem dX8_bestBankedFor_42 : decode cX8_bestBankedFor 42 = .ok (.goto 4, 3) := by decide +kernel
theorem dX8_bestBankedFor_45 : decode cX8_bestBankedFor 45 = .ok (.iconst 0, 1) := by decide +kernel
theorem dX8_bestBankedFor_46 : decode cX8_bestBankedFor 46 = .ok (.istore 5, 2) := by decide +kernel
theorem dX8_bestBankedFor_48 : decode cX8_bestBankedFor 48 = .ok (.iload 5, 2) := by decide +kernel
theorem dX8_bestBankedFor_50 : decode cX8_bestBankedFor 50 = .ok (.ifCond .eq 34, 3) := by decide +kernel
theorem dX8_bestBankedFor_53 : decode cX8_bestBankedFor 53 = .ok (.aload 4, 2) := by decide +kernel
theorem dX8_bestBankedFor_55 : decode cX8_bestBankedFor 55 = .ok (.aload_n 1, 1) := by decide +kernel
theorem dX8_bestBankedFor_56 : decode cX8_bestBankedFor 56 = .ok (.getfield 164, 3) := by decide +kernel
theorem dX8_bestBankedFor_59 : decode cX8_bestBankedFor 59 = .ok (.invokevirtual 300, 3) := by decide +kernel
theorem dX8_bestBankedFor_62 : decode cX8_bestBankedFor 62 = .ok (.ifCond .eq 22, 3) := by decide +kernel
theorem dX8_bestBankedFor_65 : decode cX8_bestBankedFor 65 = .ok (.aload_n 2, 1) := by decide +kernel
theorem dX8_bestBankedFor_66 : decode cX8_bestBankedFor 66 = .ok (.ifnull 15, 3) := by decide +kernel
theorem dX8_bestBankedFor_69 : decode cX8_bestBankedFor 69 = .ok (.aload 4, 2) := by decide +kernel
theorem dX8_bestBankedFor_71 : decode cX8_bestBankedFor 71 = .ok (.getfield 186, 3) := by decide +kernel
theorem dX8_bestBankedFor_74 : decode cX8_bestBankedFor 74 = .ok (.aload_n 2, 1) := by decide +kernel
theorem dX8_bestBankedFor_75 : decode cX8_bestBankedFor 75 = .ok (.getfield 186, 3) := by decide +kernel
theorem dX8_bestBankedFor_78 : decode cX8_bestBankedFor 78 = .ok (.if_icmp .le 6, 3) := by decide +kernel
theorem dX8_bestBankedFor_81 : decode cX8_bestBankedFor 81 = .ok (.aload 4, 2) := by decide +kernel
theorem dX8_bestBankedFor_83 : decode cX8_bestBankedFor 83 = .ok (.astore_n 2, 1) := by decide +kernel
theorem dX8_bestBankedFor_84 : decode cX8_bestBankedFor 84 = .ok (.iinc 3 1, 3) := by decide +kernel
theorem dX8_bestBankedFor_87 : decode cX8_bestBankedFor 87 = .ok (.goto (-83), 3) := by decide +kernel
theorem dX8_bestBankedFor_90 : decode cX8_bestBankedFor 90 = .ok (.aload_n 2, 1) := by decide +kernel
theorem dX8_bestBankedFor_91 : decode cX8_bestBankedFor 91 = .ok (.areturn, 1) := by decide +kernel
theorem dX9_thrown_0 : decode cX9_thrown 0 = .ok (.aload_n 0, 1) := by decide +kernel
theorem dX9_thrown_1 : decode cX9_thrown 1 = .ok (.getfield 1, 3) := by decide +kernel
theorem dX9_thrown_4 : decode cX9_thrown 4 = .ok (.ireturn, 1) := by decide +kernel
theorem dX9_within_0 : decode cX9_within 0 = .ok (.iload_n 0, 1) := by decide +kernel
theorem dX9_within_1 : decode cX9_within 1 = .ok (.iload_n 1, 1) := by decide +kernel
theorem dX9_within_2 : decode cX9_within 2 = .ok (.if_icmp .lt 12, 3) := by decide +kernel
theorem dX9_within_5 : decode cX9_within 5 = .ok (.iload_n 0, 1) := by decide +kernel
theorem dX9_within_6 : decode cX9_within 6 = .ok (.iload_n 2, 1) := by decide +kernel
theorem dX9_within_7 : decode cX9_within 7 = .ok (.if_icmp .gt 7, 3) := by decide +kernel
theorem dX9_within_10 : decode cX9_within 10 = .ok (.iconst 1, 1) := by decide +kernel
theorem dX9_within_11 : decode cX9_within 11 = .ok (.goto 4, 3) := by decide +kernel
theorem dX9_within_14 : decode cX9_within 14 = .ok (.iconst 0, 1) := by decide +kernel
theorem dX9_within_15 : decode cX9_within 15 = .ok (.ireturn, 1) := by decide +kernel
theorem dX9_init_0 : decode cX9_init 0 = .ok (.aload_n 0, 1) := by decide +kernel
theorem dX9_init_1 : decode cX9_init 1 = .ok (.invokespecial 7, 3) := by decide +kernel
theorem dX9_init_4 : decode cX9_init 4 = .ok (.aload_n 0, 1) := by decide +kernel
theorem dX9_init_5 : decode cX9_init 5 = .ok (.bipush 6, 2) := by decide +kernel
theorem dX9_init_7 : decode cX9_init 7 = .ok (.newarray .int, 2) := by decide +kernel
theorem dX9_init_9 : decode cX9_init 9 = .ok (.putfield 13, 3) := by decide +kernel
theorem dX9_init_12 : decode cX9_init 12 = .ok (.aload_n 0, 1) := by decide +kernel
theorem dX9_init_13 : decode cX9_init 13 = .ok (.bipush 6, 2) := by decide +kernel
theorem dX9_init_15 : decode cX9_init 15 = .ok (.newarray .int, 2) := by decide +kernel
theorem dX9_init_17 : decode cX9_init 17 = .ok (.putfield 17, 3) := by decide +kernel
theorem dX9_init_20 : decode cX9_init 20 = .ok (.aload_n 0, 1) := by decide +kernel
theorem dX9_init_21 : decode cX9_init 21 = .ok (.bipush 10, 2) := by decide +kernel
theorem dX9_init_23 : decode cX9_init 23 = .ok (.newarray .int, 2) := by decide +kernel
theorem dX9_init_25 : decode cX9_init 25 = .ok (.putfield 20, 3) := by decide +kernel
theorem dX9_init_28 : decode cX9_init 28 = .ok (.aload_n 0, 1) := by decide +kernel
theorem dX9_init_29 : decode cX9_init 29 = .ok (.bipush 10, 2) := by decide +kernel
theorem dX9_init_31 : decode cX9_init 31 = .ok (.newarray .int, 2) := by decide +kernel
theorem dX9_init_33 : decode cX9_init 33 = .ok (.putfield 23, 3) := by decide +kernel
theorem dX9_init_36 : decode cX9_init 36 = .ok (.aload_n 0, 1) := by decide +kernel
theorem dX9_init_37 : decode cX9_init 37 = .ok (.bipush 10, 2) := by decide +kernel
theorem dX9_init_39 : decode cX9_init 39 = .ok (.newarray .int, 2) := by decide +kernel
theorem dX9_init_41 : decode cX9_init 41 = .ok (.putfield 26, 3) := by decide +kernel
theorem dX9_init_44 : decode cX9_init 44 = .ok (.aload_n 0, 1) := by decide +kernel
theorem dX9_init_45 : decode cX9_init 45 = .ok (.bipush 10, 2) := by decide +kernel
theorem dX9_init_47 : decode cX9_init 47 = .ok (.newarray .boolean, 2) := by decide +kernel
theorem dX9_init_49 : decode cX9_init 49 = .ok (.putfield 29, 3) := by decide +kernel
theorem dX9_init_52 : decode cX9_init 52 = .ok (.aload_n 0, 1) := by decide +kernel
theorem dX9_init_53 : decode cX9_init 53 = .ok (.sipush 318, 3) := by decide +kernel
theorem dX9_init_56 : decode cX9_init 56 = .ok (.newarray .int, 2) := by decide +kernel
theorem dX9_init_58 : decode cX9_init 58 = .ok (.putfield 33, 3) := by decide +kernel
theorem dX9_init_61 : decode cX9_init 61 = .ok (.aload_n 0, 1) := by decide +kernel
theorem dX9_init_62 : decode cX9_init 62 = .ok (.sipush 318, 3) := by decide +kernel
theorem dX9_init_65 : decode cX9_init 65 = .ok (.newarray .boolean, 2) := by decide +kernel
theorem dX9_init_67 : decode cX9_init 67 = .ok (.putfield 36, 3) := by decide +kernel
theorem dX9_init_70 : decode cX9_init 70 = .ok (.aload_n 0, 1) := by decide +kernel
theorem dX9_init_71 : decode cX9_init 71 = .ok (.sipush 300, 3) := by decide +kernel
theorem dX9_init_74 : decode cX9_init 74 = .ok (.newarray .byte, 2) := by decide +kernel
theorem dX9_init_76 : decode cX9_init 76 = .ok (.putfield 39, 3) := by decide +kernel
theorem dX9_init_79 : decode cX9_init 79 = .ok (.aload_n 0, 1) := by decide +kernel
theorem dX9_init_80 : decode cX9_init 80 = .ok (.iconst (-1), 1) := by decide +kernel
theorem dX9_init_81 : decode cX9_init 81 = .ok (.putfield 43, 3) := by decide +kernel
theorem dX9_init_84 : decode cX9_init 84 = .ok (.aload_n 0, 1) := by decide +kernel
theorem dX9_init_85 : decode cX9_init 85 = .ok (.bipush 120, 2) := by decide +kernel
theorem dX9_init_87 : decode cX9_init 87 = .ok (.newarray .int, 2) := by decide +kernel
theorem dX9_init_89 : decode cX9_init 89 = .ok (.putfield 46, 3) := by decide +kernel
theorem dX9_init_92 : decode cX9_init 92 = .ok (.aload_n 0, 1) := by decide +kernel
end
section
theorem dX9_init_93 : decode cX9_init 93 = .ok (.bipush 120, 2) := by decide +kernel
theorem dX9_init_95 : decode cX9_init 95 = .ok (.newarray .int, 2) := by decide +kernel
theorem dX9_init_97 : decode cX9_init 97 = .ok (.putfield 49, 3) := by decide +kernel
theorem dX9_init_100 : decode cX9_init 100 = .ok (.aload_n 0, 1) := by decide +kernel
theorem dX9_init_101 : decode cX9_init 101 = .ok (.sipush 200, 3) := by decide +kernel
theorem dX9_init_104 : decode cX9_init 104 = .ok (.newarray .int, 2) := by decide +kernel
theorem dX9_init_106 : decode cX9_init 106 = .ok (.putfield 52, 3) := by decide +kernel
theorem dX9_init_109 : decode cX9_init 109 = .ok (.aload_n 0, 1) := by decide +kernel
theorem dX9_init_110 : decode cX9_init 110 = .ok (.sipush 200, 3) := by decide +kernel
theorem dX9_init_113 : decode cX9_init 113 = .ok (.newarray .int, 2) := by decide +kernel
theorem dX9_init_115 : decode cX9_init 115 = .ok (.putfield 55, 3) := by decide +kernel
theorem dX9_init_118 : decode cX9_init 118 = .ok (.aload_n 0, 1) := by decide +kernel
theorem dX9_init_119 : decode cX9_init 119 = .ok (.sipush 200, 3) := by decide +kernel
theorem dX9_init_122 : decode cX9_init 122 = .ok (.newarray .int, 2) := by decide +kernel
theorem dX9_init_124 : decode cX9_init 124 = .ok (.putfield 58, 3) := by decide +kernel
theorem dX9_init_127 : decode cX9_init 127 = .ok (.aload_n 0, 1) := by decide +kernel
theorem dX9_init_128 : decode cX9_init 128 = .ok (.sipush 200, 3) := by decide +kernel
theorem dX9_init_131 : decode cX9_init 131 = .ok (.newarray .int, 2) := by decide +kernel
theorem dX9_init_133 : decode cX9_init 133 = .ok (.putfield 61, 3) := by decide +kernel
theorem dX9_init_136 : decode cX9_init 136 = .ok (.aload_n 0, 1) := by decide +kernel
theorem dX9_init_137 : decode cX9_init 137 = .ok (.sipush 200, 3) := by decide +kernel
theorem dX9_init_140 : decode cX9_init 140 = .ok (.newarray .int, 2) := by decide +kernel
theorem dX9_init_142 : decode cX9_init 142 = .ok (.putfield 64, 3) := by decide +kernel
theorem dX9_init_145 : decode cX9_init 145 = .ok (.aload_n 0, 1) := by decide +kernel
theorem dX9_init_146 : decode cX9_init 146 = .ok (.sipush 200, 3) := by decide +kernel
theorem dX9_init_149 : decode cX9_init 149 = .ok (.newarray .int, 2) := by decide +kernel
theorem dX9_init_151 : decode cX9_init 151 = .ok (.putfield 67, 3) := by decide +kernel
theorem dX9_init_154 : decode cX9_init 154 = .ok (.aload_n 0, 1) := by decide +kernel
theorem dX9_init_155 : decode cX9_init 155 = .ok (.sipush 200, 3) := by decide +kernel
theorem dX9_init_158 : decode cX9_init 158 = .ok (.newarray .int, 2) := by decide +kernel
theorem dX9_init_160 : decode cX9_init 160 = .ok (.putfield 70, 3) := by decide +kernel
theorem dX9_init_163 : decode cX9_init 163 = .ok (.aload_n 0, 1) := by decide +kernel
theorem dX9_init_164 : decode cX9_init 164 = .ok (.sipush 200, 3) := by decide +kernel
theorem dX9_init_167 : decode cX9_init 167 = .ok (.newarray .int, 2) := by decide +kernel
theorem dX9_init_169 : decode cX9_init 169 = .ok (.putfield 73, 3) := by decide +kernel
theorem dX9_init_172 : decode cX9_init 172 = .ok (.aload_n 0, 1) := by decide +kernel
theorem dX9_init_173 : decode cX9_init 173 = .ok (.sipush 840, 3) := by decide +kernel
theorem dX9_init_176 : decode cX9_init 176 = .ok (.newarray .int, 2) := by decide +kernel
theorem dX9_init_178 : decode cX9_init 178 = .ok (.putfield 76, 3) := by decide +kernel
theorem dX9_init_181 : decode cX9_init 181 = .ok (.aload_n 0, 1) := by decide +kernel
theorem dX9_init_182 : decode cX9_init 182 = .ok (.bipush 9, 2) := by decide +kernel
theorem dX9_init_184 : decode cX9_init 184 = .ok (.newarray .int, 2) := by decide +kernel
theorem dX9_init_186 : decode cX9_init 186 = .ok (.putfield 79, 3) := by decide +kernel
theorem dX9_init_189 : decode cX9_init 189 = .ok (.aload_n 0, 1) := by decide +kernel
theorem dX9_init_190 : decode cX9_init 190 = .ok (.bipush 9, 2) := by decide +kernel
theorem dX9_init_192 : decode cX9_init 192 = .ok (.newarray .int, 2) := by decide +kernel
theorem dX9_init_194 : decode cX9_init 194 = .ok (.putfield 82, 3) := by decide +kernel
theorem dX9_init_197 : decode cX9_init 197 = .ok (.aload_n 0, 1) := by decide +kernel
theorem dX9_init_198 : decode cX9_init 198 = .ok (.bipush 9, 2) := by decide +kernel
theorem dX9_init_200 : decode cX9_init 200 = .ok (.newarray .int, 2) := by decide +kernel
theorem dX9_init_202 : decode cX9_init 202 = .ok (.putfield 85, 3) := by decide +kernel
theorem dX9_init_205 : decode cX9_init 205 = .ok (.aload_n 0, 1) := by decide +kernel
theorem dX9_init_206 : decode cX9_init 206 = .ok (.bipush 9, 2) := by decide +kernel
theorem dX9_init_208 : decode cX9_init 208 = .ok (.newarray .boolean, 2) := by decide +kernel
theorem dX9_init_210 : decode cX9_init 210 = .ok (.putfield 88, 3) := by decide +kernel
theorem dX9_init_213 : decode cX9_init 213 = .ok (.aload_n 0, 1) := by decide +kernel
theorem dX9_init_214 : decode cX9_init 214 = .ok (.bipush 10, 2) := by decide +kernel
theorem dX9_init_216 : decode cX9_init 216 = .ok (.newarray .boolean, 2) := by decide +kernel
theorem dX9_init_218 : decode cX9_init 218 = .ok (.putfield 91, 3) := by decide +kernel
theorem dX9_init_221 : decode cX9_init 221 = .ok (.aload_n 0, 1) := by decide +kernel
theorem dX9_init_222 : decode cX9_init 222 = .ok (.bipush 10, 2) := by decide +kernel
theorem dX9_init_224 : decode cX9_init 224 = .ok (.newarray .int, 2) := by decide +kernel
theorem dX9_init_226 : decode cX9_init 226 = .ok (.putfield 94, 3) := by decide +kernel
theorem dX9_init_229 : decode cX9_init 229 = .ok (.aload_n 0, 1) := by decide +kernel
theorem dX9_init_230 : decode cX9_init 230 = .ok (.bipush 10, 2) := by decide +kernel
theorem dX9_init_232 : decode cX9_init 232 = .ok (.newarray .boolean, 2) := by decide +kernel
theorem dX9_init_234 : decode cX9_init 234 = .ok (.putfield 97, 3) := by decide +kernel
theorem dX9_init_237 : decode cX9_init 237 = .ok (.iconst 0, 1) := by decide +kernel
theorem dX9_init_238 : decode cX9_init 238 = .ok (.istore_n 1, 1) := by decide +kernel
theorem dX9_init_239 : decode cX9_init 239 = .ok (.iload_n 1, 1) := by decide +kernel
theorem dX9_init_240 : decode cX9_init 240 = .ok (.sipush 318, 3) := by decide +kernel
theorem dX9_init_243 : decode cX9_init 243 = .ok (.if_icmp .ge 16, 3) := by decide +kernel
theorem dX9_init_246 : decode cX9_init 246 = .ok (.aload_n 0, 1) := by decide +kernel
theorem dX9_init_247 : decode cX9_init 247 = .ok (.getfield 33, 3) := by decide +kernel
theorem dX9_init_250 : decode cX9_init 250 = .ok (.iload_n 1, 1) := by decide +kernel
theorem dX9_init_251 : decode cX9_init 251 = .ok (.iconst (-1), 1) := by decide +kernel
theorem dX9_init_252 : decode cX9_init 252 = .ok (.iastore, 1) := by decide +kernel
theorem dX9_init_253 : decode cX9_init 253 = .ok (.iinc 1 1, 3) := by decide +kernel
theorem dX9_init_256 : decode cX9_init 256 = .ok (.goto (-17), 3) := by decide +kernel
theorem dX9_init_259 : decode cX9_init 259 = .ok (.return_, 1) := by decide +kernel
theorem dX9_flat_0 : decode cX9_flat 0 = .ok (.aload_n 0, 1) := by decide +kernel
theorem dX9_flat_1 : decode cX9_flat 1 = .ok (.iconst 0, 1) := by decide +kernel
theorem dX9_flat_2 : decode cX9_flat 2 = .ok (.putfield 1, 3) := by decide +kernel
theorem dX9_flat_5 : decode cX9_flat 5 = .ok (.iload_n 1, 1) := by decide +kernel
theorem dX9_flat_6 : decode cX9_flat 6 = .ok (.iconst 0, 1) := by decide +kernel
theorem dX9_flat_7 : decode cX9_flat 7 = .ok (.iconst 3, 1) := by decide +kernel
theorem dX9_flat_8 : decode cX9_flat 8 = .ok (.invokestatic 100, 3) := by decide +kernel
theorem dX9_flat_11 : decode cX9_flat 11 = .ok (.ifCond .eq 21, 3) := by decide +kernel
theorem dX9_flat_14 : decode cX9_flat 14 = .ok (.iload_n 2, 1) := by decide +kernel
theorem dX9_flat_15 : decode cX9_flat 15 = .ok (.iconst 1, 1) := by decide +kernel
theorem dX9_flat_16 : decode cX9_flat 16 = .ok (.iconst 4, 1) := by decide +kernel
theorem dX9_flat_17 : decode cX9_flat 17 = .ok (.invokestatic 100, 3) := by decide +kernel
theorem dX9_flat_20 : decode cX9_flat 20 = .ok (.ifCond .eq 12, 3) := by decide +kernel
theorem dX9_flat_23 : decode cX9_flat 23 = .ok (.aload_n 0, 1) := by decide +kernel
theorem dX9_flat_24 : decode cX9_flat 24 = .ok (.getfield 104, 3) := by decide +kernel
theorem dX9_flat_27 : decode cX9_flat 27 = .ok (.bipush 6, 2) := by decide +kernel
theorem dX9_flat_29 : decode cX9_flat 29 = .ok (.if_icmp .ne 5, 3) := by decide +kernel
theorem dX9_flat_32 : decode cX9_flat 32 = .ok (.iconst (-1), 1) := by decide +kernel
theorem dX9_flat_33 : decode cX9_flat 33 = .ok (.ireturn, 1) := by decide +kernel
theorem dX9_flat_34 : decode cX9_flat 34 = .ok (.aload_n 0, 1) := by decide +kernel
theorem dX9_flat_35 : decode cX9_flat 35 = .ok (.getfield 13, 3) := by decide +kernel
theorem dX9_flat_38 : decode cX9_flat 38 = .ok (.aload_n 0, 1) := by decide +kernel
theorem dX9_flat_39 : decode cX9_flat 39 = .ok (.getfield 104, 3) := by decide +kernel
theorem dX9_flat_42 : decode cX9_flat 42 = .ok (.iload_n 1, 1) := by decide +kernel
theorem dX9_flat_43 : decode cX9_flat 43 = .ok (.iastore, 1) := by decide +kernel
theorem dX9_flat_44 : decode cX9_flat 44 = .ok (.aload_n 0, 1) := by decide +kernel
theorem dX9_flat_45 : decode cX9_flat 45 = .ok (.getfield 17, 3) := by decide +kernel
theorem dX9_flat_48 : decode cX9_flat 48 = .ok (.aload_n 0, 1) := by decide +kernel
theorem dX9_flat_49 : decode cX9_flat 49 = .ok (.getfield 104, 3) := by decide +kernel
theorem dX9_flat_52 : decode cX9_flat 52 = .ok (.iload_n 2, 1) := by decide +kernel
theorem dX9_flat_53 : decode cX9_flat 53 = .ok (.iastore, 1) := by decide +kernel
theorem dX9_flat_54 : decode cX9_flat 54 = .ok (.aload_n 0, 1) := by decide +kernel
theorem dX9_flat_55 : decode cX9_flat 55 = .ok (.dup, 1) := by decide +kernel
theorem dX9_flat_56 : decode cX9_flat 56 = .ok (.getfield 104, 3) := by decide +kernel
theorem dX9_flat_59 : decode cX9_flat 59 = .ok (.iconst 1, 1) := by decide +kernel
theorem dX9_flat_60 : decode cX9_flat 60 = .ok (.iadd, 1) := by decide +kernel
theorem dX9_flat_61 : decode cX9_flat 61 = .ok (.putfield 104, 3) := by decide +kernel
theorem dX9_flat_64 : decode cX9_flat 64 = .ok (.aload_n 0, 1) := by decide +kernel
theorem dX9_flat_65 : decode cX9_flat 65 = .ok (.getfield 104, 3) := by decide +kernel
theorem dX9_flat_68 : decode cX9_flat 68 = .ok (.iconst 1, 1) := by decide +kernel
theorem dX9_flat_69 : decode cX9_flat 69 = .ok (.isub, 1) := by decide +kernel
theorem dX9_flat_70 : decode cX9_flat 70 = .ok (.ireturn, 1) := by decide +kernel
theorem dX9_owner_0 : decode cX9_owner 0 = .ok (.aload_n 0, 1) := by decide +kernel
theorem dX9_owner_1 : decode cX9_owner 1 = .ok (.iconst 0, 1) := by decide +kernel
theorem dX9_owner_2 : decode cX9_owner 2 = .ok (.putfield 1, 3) := by decide +kernel
theorem dX9_owner_5 : decode cX9_owner 5 = .ok (.iload_n 1, 1) := by decide +kernel
theorem dX9_owner_6 : decode cX9_owner 6 = .ok (.iconst 0, 1) := by decide +kernel
theorem dX9_owner_7 : decode cX9_owner 7 = .ok (.sipush 9999, 3) := by decide +kernel
theorem dX9_owner_10 : decode cX9_owner 10 = .ok (.invokestatic 100, 3) := by decide +kernel
theorem dX9_owner_13 : decode cX9_owner 13 = .ok (.ifCond .eq 12, 3) := by decide +kernel
theorem dX9_owner_16 : decode cX9_owner 16 = .ok (.aload_n 0, 1) := by decide +kernel
theorem dX9_owner_17 : decode cX9_owner 17 = .ok (.getfield 107, 3) := by decide +kernel
theorem dX9_owner_20 : decode cX9_owner 20 = .ok (.bipush 10, 2) := by decide +kernel
theorem dX9_owner_22 : decode cX9_owner 22 = .ok (.if_icmp .ne 5, 3) := by decide +kernel
theorem dX9_owner_25 : decode cX9_owner 25 = .ok (.iconst (-1), 1) := by decide +kernel
theorem dX9_owner_26 : decode cX9_owner 26 = .ok (.ireturn, 1) := by decide +kernel
theorem dX9_owner_27 : decode cX9_owner 27 = .ok (.aload_n 0, 1) := by decide +kernel
theorem dX9_owner_28 : decode cX9_owner 28 = .ok (.getfield 20, 3) := by decide +kernel
theorem dX9_owner_31 : decode cX9_owner 31 = .ok (.aload_n 0, 1) := by decide +kernel
theorem dX9_owner_32 : decode cX9_owner 32 = .ok (.getfield 107, 3) := by decide +kernel
theorem dX9_owner_35 : decode cX9_owner 35 = .ok (.iload_n 1, 1) := by decide +kernel
theorem dX9_owner_36 : decode cX9_owner 36 = .ok (.iastore, 1) := by decide +kernel
theorem dX9_owner_37 : decode cX9_owner 37 = .ok (.aload_n 0, 1) := by decide +kernel
theorem dX9_owner_38 : decode cX9_owner 38 = .ok (.dup, 1) := by decide +kernel
theorem dX9_owner_39 : decode cX9_owner 39 = .ok (.getfield 107, 3) := by decide +kernel
theorem dX9_owner_42 : decode cX9_owner 42 = .ok (.iconst 1, 1) := by decide +kernel
theorem dX9_owner_43 : decode cX9_owner 43 = .ok (.iadd, 1) := by decide +kernel
theorem dX9_owner_44 : decode cX9_owner 44 = .ok (.putfield 107, 3) := by decide +kernel
theorem dX9_owner_47 : decode cX9_owner 47 = .ok (.aload_n 0, 1) := by decide +kernel
theorem dX9_owner_48 : decode cX9_owner 48 = .ok (.getfield 107, 3) := by decide +kernel
theorem dX9_owner_51 : decode cX9_owner 51 = .ok (.iconst 1, 1) := by decide +kernel
theorem dX9_owner_52 : decode cX9_owner 52 = .ok (.isub, 1) := by decide +kernel
theorem dX9_owner_53 : decode cX9_owner 53 = .ok (.ireturn, 1) := by decide +kernel
theorem dX9_isPlace_0 : decode cX9_isPlace 0 = .ok (.iload_n 1, 1) := by decide +kernel
theorem dX9_isPlace_1 : decode cX9_isPlace 1 = .ok (.ifCond .lt 25, 3) := by decide +kernel
theorem dX9_isPlace_4 : decode cX9_isPlace 4 = .ok (.iload_n 1, 1) := by decide +kernel
theorem dX9_isPlace_5 : decode cX9_isPlace 5 = .ok (.aload_n 0, 1) := by decide +kernel
theorem dX9_isPlace_6 : decode cX9_isPlace 6 = .ok (.getfield 104, 3) := by decide +kernel
theorem dX9_isPlace_9 : decode cX9_isPlace 9 = .ok (.if_icmp .ge 17, 3) := by decide +kernel
theorem dX9_isPlace_12 : decode cX9_isPlace 12 = .ok (.iload_n 2, 1) := by decide +kernel
theorem dX9_isPlace_13 : decode cX9_isPlace 13 = .ok (.iconst 0, 1) := by decide +kernel
theorem dX9_isPlace_14 : decode cX9_isPlace 14 = .ok (.bipush 52, 2) := by decide +kernel
theorem dX9_isPlace_16 : decode cX9_isPlace 16 = .ok (.invokestatic 100, 3) := by decide +kernel
theorem dX9_isPlace_19 : decode cX9_isPlace 19 = .ok (.ifCond .eq 7, 3) := by decide +kernel
theorem dX9_isPlace_22 : decode cX9_isPlace 22 = .ok (.iconst 1, 1) := by decide +kernel
theorem dX9_isPlace_23 : decode cX9_isPlace 23 = .ok (.goto 4, 3) := by decide +kernel
theorem dX9_isPlace_26 : decode cX9_isPlace 26 = .ok (.iconst 0, 1) := by decide +kernel
theorem dX9_isPlace_27 : decode cX9_isPlace 27 = .ok (.ireturn, 1) := by decide +kernel
theorem dX9_isAlive_0 : decode cX9_isAlive 0 = .ok (.iload_n 1, 1) := by decide +kernel
theorem dX9_isAlive_1 : decode cX9_isAlive 1 = .ok (.ifCond .lt 24, 3) := by decide +kernel
theorem dX9_isAlive_4 : decode cX9_isAlive 4 = .ok (.iload_n 1, 1) := by decide +kernel
theorem dX9_isAlive_5 : decode cX9_isAlive 5 = .ok (.aload_n 0, 1) := by decide +kernel
theorem dX9_isAlive_6 : decode cX9_isAlive 6 = .ok (.getfield 107, 3) := by decide +kernel
theorem dX9_isAlive_9 : decode cX9_isAlive 9 = .ok (.if_icmp .ge 16, 3) := by decide +kernel
theorem dX9_isAlive_12 : decode cX9_isAlive 12 = .ok (.aload_n 0, 1) := by decide +kernel
theorem dX9_isAlive_13 : decode cX9_isAlive 13 = .ok (.getfield 29, 3) := by decide +kernel
theorem dX9_isAlive_16 : decode cX9_isAlive 16 = .ok (.iload_n 1, 1) := by decide +kernel
theorem dX9_isAlive_17 : decode cX9_isAlive 17 = .ok (.baload, 1) := by decide +kernel
theorem dX9_isAlive_18 : decode cX9_isAlive 18 = .ok (.ifCond .ne 7, 3) := by decide +kernel
theorem dX9_isAlive_21 : decode cX9_isAlive 21 = .ok (.iconst 1, 1) := by decide +kernel
theorem dX9_isAlive_22 : decode cX9_isAlive 22 = .ok (.goto 4, 3) := by decide +kernel
theorem dX9_isAlive_25 : decode cX9_isAlive 25 = .ok (.iconst 0, 1) := by decide +kernel
theorem dX9_isAlive_26 : decode cX9_isAlive 26 = .ok (.ireturn, 1) := by decide +kernel
theorem dX9_own_0 : decode cX9_own 0 = .ok (.aload_n 0, 1) := by decide +kernel
theorem dX9_own_1 : decode cX9_own 1 = .ok (.iconst 0, 1) := by decide +kernel
theorem dX9_own_2 : decode cX9_own 2 = .ok (.putfield 1, 3) := by decide +kernel
theorem dX9_own_5 : decode cX9_own 5 = .ok (.aload_n 0, 1) := by decide +kernel
theorem dX9_own_6 : decode cX9_own 6 = .ok (.iload_n 1, 1) := by decide +kernel
theorem dX9_own_7 : decode cX9_own 7 = .ok (.iload_n 2, 1) := by decide +kernel
theorem dX9_own_8 : decode cX9_own 8 = .ok (.invokevirtual 110, 3) := by decide +kernel
theorem dX9_own_11 : decode cX9_own 11 = .ok (.ifCond .eq 16, 3) := by decide +kernel
theorem dX9_own_14 : decode cX9_own 14 = .ok (.iload_n 3, 1) := by decide +kernel
theorem dX9_own_15 : decode cX9_own 15 = .ok (.iconst (-1), 1) := by decide +kernel
theorem dX9_own_16 : decode cX9_own 16 = .ok (.if_icmp .eq 13, 3) := by decide +kernel
theorem dX9_own_19 : decode cX9_own 19 = .ok (.aload_n 0, 1) := by decide +kernel
theorem dX9_own_20 : decode cX9_own 20 = .ok (.iload_n 3, 1) := by decide +kernel
theorem dX9_own_21 : decode cX9_own 21 = .ok (.invokevirtual 114, 3) := by decide +kernel
theorem dX9_own_24 : decode cX9_own 24 = .ok (.ifCond .ne 5, 3) := by decide +kernel
theorem dX9_own_27 : decode cX9_own 27 = .ok (.iconst 0, 1) := by decide +kernel
theorem dX9_own_28 : decode cX9_own 28 = .ok (.ireturn, 1) := by decide +kernel
theorem dX9_own_29 : decode cX9_own 29 = .ok (.aload_n 0, 1) := by decide +kernel
theorem dX9_own_30 : decode cX9_own 30 = .ok (.iload_n 1, 1) := by decide +kernel
theorem dX9_own_31 : decode cX9_own 31 = .ok (.iload_n 2, 1) := by decide +kernel
theorem dX9_own_32 : decode cX9_own 32 = .ok (.invokevirtual 118, 3) := by decide +kernel
theorem dX9_own_35 : decode cX9_own 35 = .ok (.istore 4, 2) := by decide +kernel
theorem dX9_own_37 : decode cX9_own 37 = .ok (.iload 4, 2) := by decide +kernel
theorem dX9_own_39 : decode cX9_own 39 = .ok (.iconst (-1), 1) := by decide +kernel
theorem dX9_own_40 : decode cX9_own 40 = .ok (.if_icmp .eq 16, 3) := by decide +kernel
theorem dX9_own_43 : decode cX9_own 43 = .ok (.aload_n 0, 1) := by decide +kernel
theorem dX9_own_44 : decode cX9_own 44 = .ok (.getfield 67, 3) := by decide +kernel
theorem dX9_own_47 : decode cX9_own 47 = .ok (.iload 4, 2) := by decide +kernel
theorem dX9_own_49 : decode cX9_own 49 = .ok (.iaload, 1) := by decide +kernel
theorem dX9_own_50 : decode cX9_own 50 = .ok (.iconst 4, 1) := by decide +kernel
theorem dX9_own_51 : decode cX9_own 51 = .ok (.if_icmp .ge 5, 3) := by decide +kernel
theorem dX9_own_54 : decode cX9_own 54 = .ok (.iconst 0, 1) := by decide +kernel
theorem dX9_own_55 : decode cX9_own 55 = .ok (.ireturn, 1) := by decide +kernel
theorem dX9_own_56 : decode cX9_own 56 = .ok (.aload_n 0, 1) := by decide +kernel
theorem dX9_own_57 : decode cX9_own 57 = .ok (.getfield 33, 3) := by decide +kernel
theorem dX9_own_60 : decode cX9_own 60 = .ok (.bipush 53, 2) := by decide +kernel
theorem dX9_own_62 : decode cX9_own 62 = .ok (.iload_n 1, 1) := by decide +kernel
theorem dX9_own_63 : decode cX9_own 63 = .ok (.imul, 1) := by decide +kernel
theorem dX9_own_64 : decode cX9_own 64 = .ok (.iload_n 2, 1) := by decide +kernel
theorem dX9_own_65 : decode cX9_own 65 = .ok (.iadd, 1) := by decide +kernel
theorem dX9_own_66 : decode cX9_own 66 = .ok (.iload_n 3, 1) := by decide +kernel
theorem dX9_own_67 : decode cX9_own 67 = .ok (.iastore, 1) := by decide +kernel
theorem dX9_own_68 : decode cX9_own 68 = .ok (.iconst 1, 1) := by decide +kernel
theorem dX9_own_69 : decode cX9_own 69 = .ok (.ireturn, 1) := by decide +kernel
theorem dX9_feed_0 : decode cX9_feed 0 = .ok (.aload_n 0, 1) := by decide +kernel
theorem dX9_feed_1 : decode cX9_feed 1 = .ok (.iconst 0, 1) := by decide +kernel
theorem dX9_feed_2 : decode cX9_feed 2 = .ok (.putfield 1, 3) := by decide +kernel
theorem dX9_feed_5 : decode cX9_feed 5 = .ok (.aload_n 0, 1) := by decide +kernel
theorem dX9_feed_6 : decode cX9_feed 6 = .ok (.getfield 122, 3) := by decide +kernel
theorem dX9_feed_9 : decode cX9_feed 9 = .ok (.bipush 20, 2) := by decide +kernel
theorem dX9_feed_11 : decode cX9_feed 11 = .ok (.iadd, 1) := by decide +kernel
theorem dX9_feed_12 : decode cX9_feed 12 = .ok (.sipush 300, 3) := by decide +kernel
theorem dX9_feed_15 : decode cX9_feed 15 = .ok (.if_icmp .le 5, 3) := by decide +kernel
theorem dX9_feed_18 : decode cX9_feed 18 = .ok (.iconst (-1), 1) := by decide +kernel
theorem dX9_feed_19 : decode cX9_feed 19 = .ok (.ireturn, 1) := by decide +kernel
theorem dX9_feed_20 : decode cX9_feed 20 = .ok (.iconst 0, 1) := by decide +kernel
theorem dX9_feed_21 : decode cX9_feed 21 = .ok (.istore 6, 2) := by decide +kernel
theorem dX9_feed_23 : decode cX9_feed 23 = .ok (.iload 6, 2) := by decide +kernel
theorem dX9_feed_25 : decode cX9_feed 25 = .ok (.bipush 20, 2) := by decide +kernel
theorem dX9_feed_27 : decode cX9_feed 27 = .ok (.if_icmp .ge 90, 3) := by decide +kernel
theorem dX9_feed_30 : decode cX9_feed 30 = .ok (.iload 6, 2) := by decide +kernel
theorem dX9_feed_32 : decode cX9_feed 32 = .ok (.iconst 4, 1) := by decide +kernel
theorem dX9_feed_33 : decode cX9_feed 33 = .ok (.if_icmp .ge 7, 3) := by decide +kernel
theorem dX9_feed_36 : decode cX9_feed 36 = .ok (.iload_n 1, 1) := by decide +kernel
theorem dX9_feed_37 : decode cX9_feed 37 = .ok (.goto 39, 3) := by decide +kernel
theorem dX9_feed_40 : decode cX9_feed 40 = .ok (.iload 6, 2) := by decide +kernel
theorem dX9_feed_42 : decode cX9_feed 42 = .ok (.bipush 8, 2) := by decide +kernel
theorem dX9_feed_44 : decode cX9_feed 44 = .ok (.if_icmp .ge 7, 3) := by decide +kernel
theorem dX9_feed_47 : decode cX9_feed 47 = .ok (.iload_n 2, 1) := by decide +kernel
theorem dX9_feed_48 : decode cX9_feed 48 = .ok (.goto 28, 3) := by decide +kernel
theorem dX9_feed_51 : decode cX9_feed 51 = .ok (.iload 6, 2) := by decide +kernel
theorem dX9_feed_53 : decode cX9_feed 53 = .ok (.bipush 12, 2) := by decide +kernel
theorem dX9_feed_55 : decode cX9_feed 55 = .ok (.if_icmp .ge 7, 3) := by decide +kernel
theorem dX9_feed_58 : decode cX9_feed 58 = .ok (.iload_n 3, 1) := by decide +kernel
theorem dX9_feed_59 : decode cX9_feed 59 = .ok (.goto 17, 3) := by decide +kernel
theorem dX9_feed_62 : decode cX9_feed 62 = .ok (.iload 6, 2) := by decide +kernel
theorem dX9_feed_64 : decode cX9_feed 64 = .ok (.bipush 16, 2) := by decide +kernel
theorem dX9_feed_66 : decode cX9_feed 66 = .ok (.if_icmp .ge 8, 3) := by decide +kernel
theorem dX9_feed_69 : decode cX9_feed 69 = .ok (.iload 4, 2) := by decide +kernel
theorem dX9_feed_71 : decode cX9_feed 71 = .ok (.goto 5, 3) := by decide +kernel
theorem dX9_feed_74 : decode cX9_feed 74 = .ok (.iload 5, 2) := by decide +kernel
theorem dX9_feed_76 : decode cX9_feed 76 = .ok (.istore 7, 2) := by decide +kernel
theorem dX9_feed_78 : decode cX9_feed 78 = .ok (.aload_n 0, 1) := by decide +kernel
theorem dX9_feed_79 : decode cX9_feed 79 = .ok (.getfield 39, 3) := by decide +kernel
theorem dX9_feed_82 : decode cX9_feed 82 = .ok (.aload_n 0, 1) := by decide +kernel
theorem dX9_feed_83 : decode cX9_feed 83 = .ok (.getfield 122, 3) := by decide +kernel
theorem dX9_feed_86 : decode cX9_feed 86 = .ok (.iload 7, 2) := by decide +kernel
theorem dX9_feed_88 : decode cX9_feed 88 = .ok (.bipush 24, 2) := by decide +kernel
theorem dX9_feed_90 : decode cX9_feed 90 = .ok (.bipush 8, 2) := by decide +kernel
theorem dX9_feed_92 : decode cX9_feed 92 = .ok (.iload 6, 2) := by decide +kernel
theorem dX9_feed_94 : decode cX9_feed 94 = .ok (.iconst 4, 1) := by decide +kernel
theorem dX9_feed_95 : decode cX9_feed 95 = .ok (.irem, 1) := by decide +kernel
theorem dX9_feed_96 : decode cX9_feed 96 = .ok (.imul, 1) := by decide +kernel
theorem dX9_feed_97 : decode cX9_feed 97 = .ok (.isub, 1) := by decide +kernel
theorem dX9_feed_98 : decode cX9_feed 98 = .ok (.ishr, 1) := by decide +kernel
theorem dX9_feed_99 : decode cX9_feed 99 = .ok (.i2b, 1) := by decide +kernel
theorem dX9_feed_100 : decode cX9_feed 100 = .ok (.bastore, 1) := by decide +kernel
theorem dX9_feed_101 : decode cX9_feed 101 = .ok (.aload_n 0, 1) := by decide +kernel
theorem dX9_feed_102 : decode cX9_feed 102 = .ok (.dup, 1) := by decide +kernel
theorem dX9_feed_103 : decode cX9_feed 103 = .ok (.getfield 122, 3) := by decide +kernel
theorem dX9_feed_106 : decode cX9_feed 106 = .ok (.iconst 1, 1) := by decide +kernel
theorem dX9_feed_107 : decode cX9_feed 107 = .ok (.iadd, 1) := by decide +kernel
theorem dX9_feed_108 : decode cX9_feed 108 = .ok (.putfield 122, 3) := by decide +kernel
theorem dX9_feed_111 : decode cX9_feed 111 = .ok (.iinc 6 1, 3) := by decide +kernel
theorem dX9_feed_114 : decode cX9_feed 114 = .ok (.goto (-91), 3) := by decide +kernel
theorem dX9_feed_117 : decode cX9_feed 117 = .ok (.aload_n 0, 1) := by decide +kernel
theorem dX9_feed_118 : decode cX9_feed 118 = .ok (.getfield 122, 3) := by decide +kernel
theorem dX9_feed_121 : decode cX9_feed 121 = .ok (.ireturn, 1) := by decide +kernel
theorem dX9_end_0 : decode cX9_end 0 = .ok (.aload_n 0, 1) := by decide +kernel
theorem dX9_end_1 : decode cX9_end 1 = .ok (.iconst 0, 1) := by decide +kernel
theorem dX9_end_2 : decode cX9_end 2 = .ok (.putfield 1, 3) := by decide +kernel
theorem dX9_end_5 : decode cX9_end 5 = .ok (.iload_n 1, 1) := by decide +kernel
theorem dX9_end_6 : decode cX9_end 6 = .ok (.ifCond .lt 11, 3) := by decide +kernel
theorem dX9_end_9 : decode cX9_end 9 = .ok (.iload_n 1, 1) := by decide +kernel
theorem dX9_end_10 : decode cX9_end 10 = .ok (.aload_n 0, 1) := by decide +kernel
theorem dX9_end_11 : decode cX9_end 11 = .ok (.getfield 122, 3) := by decide +kernel
theorem dX9_end_14 : decode cX9_end 14 = .ok (.if_icmp .le 5, 3) := by decide +kernel
theorem dX9_end_17 : decode cX9_end 17 = .ok (.iconst (-1), 1) := by decide +kernel
theorem dX9_end_18 : decode cX9_end 18 = .ok (.ireturn, 1) := by decide +kernel
theorem dX9_end_19 : decode cX9_end 19 = .ok (.aload_n 0, 1) := by decide +kernel
theorem dX9_end_20 : decode cX9_end 20 = .ok (.iload_n 1, 1) := by decide +kernel
theorem dX9_end_21 : decode cX9_end 21 = .ok (.putfield 122, 3) := by decide +kernel
theorem dX9_end_24 : decode cX9_end 24 = .ok (.iload_n 1, 1) := by decide +kernel
theorem dX9_end_25 : decode cX9_end 25 = .ok (.ireturn, 1) := by decide +kernel
theorem dX9_see_0 : decode cX9_see 0 = .ok (.iload_n 1, 1) := by decide +kernel
theorem dX9_see_1 : decode cX9_see 1 = .ok (.aload_n 0, 1) := by decide +kernel
theorem dX9_see_2 : decode cX9_see 2 = .ok (.getfield 122, 3) := by decide +kernel
theorem dX9_see_5 : decode cX9_see 5 = .ok (.if_icmp .ge 12, 3) := by decide +kernel
theorem dX9_see_8 : decode cX9_see 8 = .ok (.aload_n 0, 1) := by decide +kernel
theorem dX9_see_9 : decode cX9_see 9 = .ok (.getfield 39, 3) := by decide +kernel
theorem dX9_see_12 : decode cX9_see 12 = .ok (.iload_n 1, 1) := by decide +kernel
theorem dX9_see_13 : decode cX9_see 13 = .ok (.baload, 1) := by decide +kernel
theorem dX9_see_14 : decode cX9_see 14 = .ok (.goto 4, 3) := by decide +kernel
theorem dX9_see_17 : decode cX9_see 17 = .ok (.iconst 0, 1) := by decide +kernel
theorem dX9_see_18 : decode cX9_see 18 = .ok (.ireturn, 1) := by decide +kernel
theorem dX9_isSmall_0 : decode cX9_isSmall 0 = .ok (.iload_n 0, 1) := by decide +kernel
theorem dX9_isSmall_1 : decode cX9_isSmall 1 = .ok (.bipush 97, 2) := by decide +kernel
theorem dX9_isSmall_3 : decode cX9_isSmall 3 = .ok (.if_icmp .lt 13, 3) := by decide +kernel
theorem dX9_isSmall_6 : decode cX9_isSmall 6 = .ok (.iload_n 0, 1) := by decide +kernel
theorem dX9_isSmall_7 : decode cX9_isSmall 7 = .ok (.bipush 122, 2) := by decide +kernel
theorem dX9_isSmall_9 : decode cX9_isSmall 9 = .ok (.if_icmp .gt 7, 3) := by decide +kernel
theorem dX9_isSmall_12 : decode cX9_isSmall 12 = .ok (.iconst 1, 1) := by decide +kernel
theorem dX9_isSmall_13 : decode cX9_isSmall 13 = .ok (.goto 4, 3) := by decide +kernel
theorem dX9_isSmall_16 : decode cX9_isSmall 16 = .ok (.iconst 0, 1) := by decide +kernel
theorem dX9_isSmall_17 : decode cX9_isSmall 17 = .ok (.ireturn, 1) := by decide +kernel
theorem dX9_isDigit_0 : decode cX9_isDigit 0 = .ok (.iload_n 0, 1) := by decide +kernel
theorem dX9_isDigit_1 : decode cX9_isDigit 1 = .ok (.bipush 48, 2) := by decide +kernel
theorem dX9_isDigit_3 : decode cX9_isDigit 3 = .ok (.if_icmp .lt 13, 3) := by decide +kernel
theorem dX9_isDigit_6 : decode cX9_isDigit 6 = .ok (.iload_n 0, 1) := by decide +kernel
theorem dX9_isDigit_7 : decode cX9_isDigit 7 = .ok (.bipush 57, 2) := by decide +kernel
theorem dX9_isDigit_9 : decode cX9_isDigit 9 = .ok (.if_icmp .gt 7, 3) := by decide +kernel
theorem dX9_isDigit_12 : decode cX9_isDigit 12 = .ok (.iconst 1, 1) := by decide +kernel
theorem dX9_isDigit_13 : decode cX9_isDigit 13 = .ok (.goto 4, 3) := by decide +kernel
theorem dX9_isDigit_16 : decode cX9_isDigit 16 = .ok (.iconst 0, 1) := by decide +kernel
theorem dX9_isDigit_17 : decode cX9_isDigit 17 = .ok (.ireturn, 1) := by decide +kernel
theorem dX9_next_0 : decode cX9_next 0 = .ok (.aload_n 0, 1) := by decide +kernel
theorem dX9_next_1 : decode cX9_next 1 = .ok (.getfield 125, 3) := by decide +kernel
theorem dX9_next_4 : decode cX9_next 4 = .ok (.aload_n 0, 1) := by decide +kernel
theorem dX9_next_5 : decode cX9_next 5 = .ok (.getfield 122, 3) := by decide +kernel
theorem dX9_next_8 : decode cX9_next 8 = .ok (.if_icmp .ge 44, 3) := by decide +kernel
theorem dX9_next_11 : decode cX9_next 11 = .ok (.aload_n 0, 1) := by decide +kernel
theorem dX9_next_12 : decode cX9_next 12 = .ok (.getfield 39, 3) := by decide +kernel
theorem dX9_next_15 : decode cX9_next 15 = .ok (.aload_n 0, 1) := by decide +kernel
theorem dX9_next_16 : decode cX9_next 16 = .ok (.getfield 125, 3) := by decide +kernel
theorem dX9_next_19 : decode cX9_next 19 = .ok (.baload, 1) := by decide +kernel
theorem dX9_next_20 : decode cX9_next 20 = .ok (.bipush 32, 2) := by decide +kernel
theorem dX9_next_22 : decode cX9_next 22 = .ok (.if_icmp .eq 17, 3) := by decide +kernel
theorem dX9_next_25 : decode cX9_next 25 = .ok (.aload_n 0, 1) := by decide +kernel
theorem dX9_next_26 : decode cX9_next 26 = .ok (.getfield 39, 3) := by decide +kernel
theorem dX9_next_29 : decode cX9_next 29 = .ok (.aload_n 0, 1) := by decide +kernel
theorem dX9_next_30 : decode cX9_next 30 = .ok (.getfield 125, 3) := by decide +kernel
theorem dX9_next_33 : decode cX9_next 33 = .ok (.baload, 1) := by decide +kernel
theorem dX9_next_34 : decode cX9_next 34 = .ok (.bipush 10, 2) := by decide +kernel
theorem dX9_next_36 : decode cX9_next 36 = .ok (.if_icmp .ne 16, 3) := by decide +kernel
theorem dX9_next_39 : decode cX9_next 39 = .ok (.aload_n 0, 1) := by decide +kernel
theorem dX9_next_40 : decode cX9_next 40 = .ok (.dup, 1) := by decide +kernel
theorem dX9_next_41 : decode cX9_next 41 = .ok (.getfield 125, 3) := by decide +kernel
theorem dX9_next_44 : decode cX9_next 44 = .ok (.iconst 1, 1) := by decide +kernel
theorem dX9_next_45 : decode cX9_next 45 = .ok (.iadd, 1) := by decide +kernel
theorem dX9_next_46 : decode cX9_next 46 = .ok (.putfield 125, 3) := by decide +kernel
theorem dX9_next_49 : decode cX9_next 49 = .ok (.goto (-49), 3) := by decide +kernel
theorem dX9_next_52 : decode cX9_next 52 = .ok (.aload_n 0, 1) := by decide +kernel
theorem dX9_next_53 : decode cX9_next 53 = .ok (.aload_n 0, 1) := by decide +kernel
theorem dX9_next_54 : decode cX9_next 54 = .ok (.getfield 125, 3) := by decide +kernel
theorem dX9_next_57 : decode cX9_next 57 = .ok (.putfield 128, 3) := by decide +kernel
theorem dX9_next_60 : decode cX9_next 60 = .ok (.aload_n 0, 1) := by decide +kernel
theorem dX9_next_61 : decode cX9_next 61 = .ok (.getfield 125, 3) := by decide +kernel
theorem dX9_next_64 : decode cX9_next 64 = .ok (.aload_n 0, 1) := by decide +kernel
theorem dX9_next_65 : decode cX9_next 65 = .ok (.getfield 122, 3) := by decide +kernel
theorem dX9_next_68 : decode cX9_next 68 = .ok (.if_icmp .lt 9, 3) := by decide +kernel
theorem dX9_next_71 : decode cX9_next 71 = .ok (.aload_n 0, 1) := by decide +kernel
theorem dX9_next_72 : decode cX9_next 72 = .ok (.iconst 0, 1) := by decide +kernel
theorem dX9_next_73 : decode cX9_next 73 = .ok (.putfield 131, 3) := by decide +kernel
theorem dX9_next_76 : decode cX9_next 76 = .ok (.return_, 1) := by decide +kernel
theorem dX9_next_77 : decode cX9_next 77 = .ok (.aload_n 0, 1) := by decide +kernel
theorem dX9_next_78 : decode cX9_next 78 = .ok (.getfield 39, 3) := by decide +kernel
theorem dX9_next_81 : decode cX9_next 81 = .ok (.aload_n 0, 1) := by decide +kernel
theorem dX9_next_82 : decode cX9_next 82 = .ok (.getfield 125, 3) := by decide +kernel
theorem dX9_next_85 : decode cX9_next 85 = .ok (.baload, 1) := by decide +kernel
theorem dX9_next_86 : decode cX9_next 86 = .ok (.istore_n 1, 1) := by decide +kernel
theorem dX9_next_87 : decode cX9_next 87 = .ok (.aload_n 0, 1) := by decide +kernel
theorem dX9_next_88 : decode cX9_next 88 = .ok (.dup, 1) := by decide +kernel
theorem dX9_next_89 : decode cX9_next 89 = .ok (.getfield 125, 3) := by decide +kernel
theorem dX9_next_92 : decode cX9_next 92 = .ok (.iconst 1, 1) := by decide +kernel
theorem dX9_next_93 : decode cX9_next 93 = .ok (.iadd, 1) := by decide +kernel
theorem dX9_next_94 : decode cX9_next 94 = .ok (.putfield 125, 3) := by decide +kernel
theorem dX9_next_97 : decode cX9_next 97 = .ok (.iload_n 1, 1) := by decide +kernel
theorem dX9_next_98 : decode cX9_next 98 = .ok (.invokestatic 134, 3) := by decide +kernel
theorem dX9_next_101 : decode cX9_next 101 = .ok (.ifCond .eq 38, 3) := by decide +kernel
theorem dX9_next_104 : decode cX9_next 104 = .ok (.aload_n 0, 1) := by decide +kernel
theorem dX9_next_105 : decode cX9_next 105 = .ok (.aload_n 0, 1) := by decide +kernel
theorem dX9_next_106 : decode cX9_next 106 = .ok (.getfield 125, 3) := by decide +kernel
theorem dX9_next_109 : decode cX9_next 109 = .ok (.invokevirtual 137, 3) := by decide +kernel
theorem dX9_next_112 : decode cX9_next 112 = .ok (.invokestatic 134, 3) := by decide +kernel
theorem dX9_next_115 : decode cX9_next 115 = .ok (.ifCond .eq 16, 3) := by decide +kernel
theorem dX9_next_118 : decode cX9_next 118 = .ok (.aload_n 0, 1) := by decide +kernel
theorem dX9_next_119 : decode cX9_next 119 = .ok (.dup, 1) := by decide +kernel
theorem dX9_next_120 : decode cX9_next 120 = .ok (.getfield 125, 3) := by decide +kernel
theorem dX9_next_123 : decode cX9_next 123 = .ok (.iconst 1, 1) := by decide +kernel
theorem dX9_next_124 : decode cX9_next 124 = .ok (.iadd, 1) := by decide +kernel
theorem dX9_next_125 : decode cX9_next 125 = .ok (.putfield 125, 3) := by decide +kernel
theorem dX9_next_128 : decode cX9_next 128 = .ok (.goto (-24), 3) := by decide +kernel
theorem dX9_next_131 : decode cX9_next 131 = .ok (.aload_n 0, 1) := by decide +kernel
theorem dX9_next_132 : decode cX9_next 132 = .ok (.iconst 3, 1) := by decide +kernel
theorem dX9_next_133 : decode cX9_next 133 = .ok (.putfield 131, 3) := by decide +kernel
theorem dX9_next_136 : decode cX9_next 136 = .ok (.goto 121, 3) := by decide +kernel
theorem dX9_next_139 : decode cX9_next 139 = .ok (.iload_n 1, 1) := by decide +kernel
theorem dX9_next_140 : decode cX9_next 140 = .ok (.invokestatic 141, 3) := by decide +kernel
theorem dX9_next_143 : decode cX9_next 143 = .ok (.ifCond .eq 99, 3) := by decide +kernel
theorem dX9_next_146 : decode cX9_next 146 = .ok (.aload_n 0, 1) := by decide +kernel
theorem dX9_next_147 : decode cX9_next 147 = .ok (.iload_n 1, 1) := by decide +kernel
theorem dX9_next_148 : decode cX9_next 148 = .ok (.bipush 48, 2) := by decide +kernel
theorem dX9_next_150 : decode cX9_next 150 = .ok (.isub, 1) := by decide +kernel
theorem dX9_next_151 : decode cX9_next 151 = .ok (.putfield 144, 3) := by decide +kernel
theorem dX9_next_154 : decode cX9_next 154 = .ok (.aload_n 0, 1) := by decide +kernel
theorem dX9_next_155 : decode cX9_next 155 = .ok (.aload_n 0, 1) := by decide +kernel
theorem dX9_next_156 : decode cX9_next 156 = .ok (.getfield 125, 3) := by decide +kernel
theorem dX9_next_159 : decode cX9_next 159 = .ok (.invokevirtual 137, 3) := by decide +kernel
theorem dX9_next_162 : decode cX9_next 162 = .ok (.invokestatic 141, 3) := by decide +kernel
theorem dX9_next_165 : decode cX9_next 165 = .ok (.ifCond .eq 52, 3) := by decide +kernel
theorem dX9_next_168 : decode cX9_next 168 = .ok (.aload_n 0, 1) := by decide +kernel
theorem dX9_next_169 : decode cX9_next 169 = .ok (.getfield 125, 3) := by decide +kernel
theorem dX9_next_172 : decode cX9_next 172 = .ok (.aload_n 0, 1) := by decide +kernel
theorem dX9_next_173 : decode cX9_next 173 = .ok (.getfield 128, 3) := by decide +kernel
theorem dX9_next_176 : decode cX9_next 176 = .ok (.isub, 1) := by decide +kernel
theorem dX9_next_177 : decode cX9_next 177 = .ok (.iconst 4, 1) := by decide +kernel
theorem dX9_next_178 : decode cX9_next 178 = .ok (.if_icmp .ge 26, 3) := by decide +kernel
theorem dX9_next_181 : decode cX9_next 181 = .ok (.aload_n 0, 1) := by decide +kernel
theorem dX9_next_182 : decode cX9_next 182 = .ok (.bipush 10, 2) := by decide +kernel
theorem dX9_next_184 : decode cX9_next 184 = .ok (.aload_n 0, 1) := by decide +kernel
theorem dX9_next_185 : decode cX9_next 185 = .ok (.getfield 144, 3) := by decide +kernel
theorem dX9_next_188 : decode cX9_next 188 = .ok (.imul, 1) := by decide +kernel
theorem dX9_next_189 : decode cX9_next 189 = .ok (.aload_n 0, 1) := by decide +kernel
theorem dX9_next_190 : decode cX9_next 190 = .ok (.aload_n 0, 1) := by decide +kernel
theorem dX9_next_191 : decode cX9_next 191 = .ok (.getfield 125, 3) := by decide +kernel
theorem dX9_next_194 : decode cX9_next 194 = .ok (.invokevirtual 137, 3) := by decide +kernel
theorem dX9_next_197 : decode cX9_next 197 = .ok (.iadd, 1) := by decide +kernel
theorem dX9_next_198 : decode cX9_next 198 = .ok (.bipush 48, 2) := by decide +kernel
theorem dX9_next_200 : decode cX9_next 200 = .ok (.isub, 1) := by decide +kernel
theorem dX9_next_201 : decode cX9_next 201 = .ok (.putfield 144, 3) := by decide +kernel
theorem dX9_next_204 : decode cX9_next 204 = .ok (.aload_n 0, 1) := by decide +kernel
theorem dX9_next_205 : decode cX9_next 205 = .ok (.dup, 1) := by decide +kernel
theorem dX9_next_206 : decode cX9_next 206 = .ok (.getfield 125, 3) := by decide +kernel
theorem dX9_next_209 : decode cX9_next 209 = .ok (.iconst 1, 1) := by decide +kernel
theorem dX9_next_210 : decode cX9_next 210 = .ok (.iadd, 1) := by decide +kernel
theorem dX9_next_211 : decode cX9_next 211 = .ok (.putfield 125, 3) := by decide +kernel
theorem dX9_next_214 : decode cX9_next 214 = .ok (.goto (-60), 3) := by decide +kernel
theorem dX9_next_217 : decode cX9_next 217 = .ok (.aload_n 0, 1) := by decide +kernel
theorem dX9_next_218 : decode cX9_next 218 = .ok (.aload_n 0, 1) := by decide +kernel
theorem dX9_next_219 : decode cX9_next 219 = .ok (.getfield 125, 3) := by decide +kernel
theorem dX9_next_222 : decode cX9_next 222 = .ok (.aload_n 0, 1) := by decide +kernel
theorem dX9_next_223 : decode cX9_next 223 = .ok (.getfield 128, 3) := by decide +kernel
theorem dX9_next_226 : decode cX9_next 226 = .ok (.isub, 1) := by decide +kernel
theorem dX9_next_227 : decode cX9_next 227 = .ok (.iconst 4, 1) := by decide +kernel
theorem dX9_next_228 : decode cX9_next 228 = .ok (.if_icmp .le 7, 3) := by decide +kernel
theorem dX9_next_231 : decode cX9_next 231 = .ok (.iconst 1, 1) := by decide +kernel
theorem dX9_next_232 : decode cX9_next 232 = .ok (.goto 4, 3) := by decide +kernel
theorem dX9_next_235 : decode cX9_next 235 = .ok (.iconst 2, 1) := by decide +kernel
theorem dX9_next_236 : decode cX9_next 236 = .ok (.putfield 131, 3) := by decide +kernel
theorem dX9_next_239 : decode cX9_next 239 = .ok (.goto 18, 3) := by decide +kernel
theorem dX9_next_242 : decode cX9_next 242 = .ok (.aload_n 0, 1) := by decide +kernel
theorem dX9_next_243 : decode cX9_next 243 = .ok (.iload_n 1, 1) := by decide +kernel
theorem dX9_next_244 : decode cX9_next 244 = .ok (.bipush 59, 2) := by decide +kernel
theorem dX9_next_246 : decode cX9_next 246 = .ok (.if_icmp .ne 7, 3) := by decide +kernel
theorem dX9_next_249 : decode cX9_next 249 = .ok (.iconst 4, 1) := by decide +kernel
theorem dX9_next_250 : decode cX9_next 250 = .ok (.goto 4, 3) := by decide +kernel
theorem dX9_next_253 : decode cX9_next 253 = .ok (.iconst 1, 1) := by decide +kernel
theorem dX9_next_254 : decode cX9_next 254 = .ok (.putfield 131, 3) := by decide +kernel
theorem dX9_next_257 : decode cX9_next 257 = .ok (.return_, 1) := by decide +kernel
theorem dX9_isWord_0 : decode cX9_isWord 0 = .ok (.aload_n 0, 1) := by decide +kernel
theorem dX9_isWord_1 : decode cX9_isWord 1 = .ok (.getfield 131, 3) := by decide +kernel
theorem dX9_isWord_4 : decode cX9_isWord 4 = .ok (.iconst 3, 1) := by decide +kernel
theorem dX9_isWord_5 : decode cX9_isWord 5 = .ok (.if_icmp .ne 19, 3) := by decide +kernel
theorem dX9_isWord_8 : decode cX9_isWord 8 = .ok (.aload_n 0, 1) := by decide +kernel
theorem dX9_isWord_9 : decode cX9_isWord 9 = .ok (.getfield 125, 3) := by decide +kernel
theorem dX9_isWord_12 : decode cX9_isWord 12 = .ok (.aload_n 0, 1) := by decide +kernel
theorem dX9_isWord_13 : decode cX9_isWord 13 = .ok (.getfield 128, 3) := by decide +kernel
theorem dX9_isWord_16 : decode cX9_isWord 16 = .ok (.isub, 1) := by decide +kernel
theorem dX9_isWord_17 : decode cX9_isWord 17 = .ok (.aload_n 1, 1) := by decide +kernel
theorem dX9_isWord_18 : decode cX9_isWord 18 = .ok (.invokevirtual 147, 3) := by decide +kernel
theorem dX9_isWord_21 : decode cX9_isWord 21 = .ok (.if_icmp .eq 5, 3) := by decide +kernel
theorem dX9_isWord_24 : decode cX9_isWord 24 = .ok (.iconst 0, 1) := by decide +kernel
theorem dX9_isWord_25 : decode cX9_isWord 25 = .ok (.ireturn, 1) := by decide +kernel
theorem dX9_isWord_26 : decode cX9_isWord 26 = .ok (.iconst 0, 1) := by decide +kernel
theorem dX9_isWord_27 : decode cX9_isWord 27 = .ok (.istore_n 2, 1) := by decide +kernel
theorem dX9_isWord_28 : decode cX9_isWord 28 = .ok (.iload_n 2, 1) := by decide +kernel
theorem dX9_isWord_29 : decode cX9_isWord 29 = .ok (.aload_n 1, 1) := by decide +kernel
theorem dX9_isWord_30 : decode cX9_isWord 30 = .ok (.invokevirtual 147, 3) := by decide +kernel
theorem dX9_isWord_33 : decode cX9_isWord 33 = .ok (.if_icmp .ge 30, 3) := by decide +kernel
theorem dX9_isWord_36 : decode cX9_isWord 36 = .ok (.aload_n 0, 1) := by decide +kernel
theorem dX9_isWord_37 : decode cX9_isWord 37 = .ok (.getfield 39, 3) := by decide +kernel
theorem dX9_isWord_40 : decode cX9_isWord 40 = .ok (.aload_n 0, 1) := by decide +kernel
theorem dX9_isWord_41 : decode cX9_isWord 41 = .ok (.getfield 128, 3) := by decide +kernel
theorem dX9_isWord_44 : decode cX9_isWord 44 = .ok (.iload_n 2, 1) := by decide +kernel
theorem dX9_isWord_45 : decode cX9_isWord 45 = .ok (.iadd, 1) := by decide +kernel
theorem dX9_isWord_46 : decode cX9_isWord 46 = .ok (.baload, 1) := by decide +kernel
theorem dX9_isWord_47 : decode cX9_isWord 47 = .ok (.aload_n 1, 1) := by decide +kernel
theorem dX9_isWord_48 : decode cX9_isWord 48 = .ok (.iload_n 2, 1) := by decide +kernel
theorem dX9_isWord_49 : decode cX9_isWord 49 = .ok (.invokevirtual 153, 3) := by decide +kernel
theorem dX9_isWord_52 : decode cX9_isWord 52 = .ok (.if_icmp .eq 5, 3) := by decide +kernel
theorem dX9_isWord_55 : decode cX9_isWord 55 = .ok (.iconst 0, 1) := by decide +kernel
theorem dX9_isWord_56 : decode cX9_isWord 56 = .ok (.ireturn, 1) := by decide +kernel
theorem dX9_isWord_57 : decode cX9_isWord 57 = .ok (.iinc 2 1, 3) := by decide +kernel
theorem dX9_isWord_60 : decode cX9_isWord 60 = .ok (.goto (-32), 3) := by decide +kernel
theorem dX9_isWord_63 : decode cX9_isWord 63 = .ok (.iconst 1, 1) := by decide +kernel
theorem dX9_isWord_64 : decode cX9_isWord 64 = .ok (.ireturn, 1) := by decide +kernel
theorem dX9_fails_0 : decode cX9_fails 0 = .ok (.aload_n 0, 1) := by decide +kernel
theorem dX9_fails_1 : decode cX9_fails 1 = .ok (.getfield 157, 3) := by decide +kernel
theorem dX9_fails_4 : decode cX9_fails 4 = .ok (.ifCond .eq 4, 3) := by decide +kernel
theorem dX9_fails_7 : decode cX9_fails 7 = .ok (.return_, 1) := by decide +kernel
theorem dX9_fails_8 : decode cX9_fails 8 = .ok (.aload_n 0, 1) := by decide +kernel
theorem dX9_fails_9 : decode cX9_fails 9 = .ok (.iload_n 1, 1) := by decide +kernel
theorem dX9_fails_10 : decode cX9_fails 10 = .ok (.putfield 157, 3) := by decide +kernel
theorem dX9_fails_13 : decode cX9_fails 13 = .ok (.aload_n 0, 1) := by decide +kernel
theorem dX9_fails_14 : decode cX9_fails 14 = .ok (.aload_n 0, 1) := by decide +kernel
theorem dX9_fails_15 : decode cX9_fails 15 = .ok (.getfield 128, 3) := by decide +kernel
theorem dX9_fails_18 : decode cX9_fails 18 = .ok (.putfield 160, 3) := by decide +kernel
theorem dX9_fails_21 : decode cX9_fails 21 = .ok (.return_, 1) := by decide +kernel
theorem dX9_number_0 : decode cX9_number 0 = .ok (.aload_n 0, 1) := by decide +kernel
theorem dX9_number_1 : decode cX9_number 1 = .ok (.getfield 157, 3) := by decide +kernel
theorem dX9_number_4 : decode cX9_number 4 = .ok (.ifCond .ne 16, 3) := by decide +kernel
theorem dX9_number_7 : decode cX9_number 7 = .ok (.aload_n 0, 1) := by decide +kernel
theorem dX9_number_8 : decode cX9_number 8 = .ok (.getfield 131, 3) := by decide +kernel
theorem dX9_number_11 : decode cX9_number 11 = .ok (.iconst 2, 1) := by decide +kernel
theorem dX9_number_12 : decode cX9_number 12 = .ok (.if_icmp .eq 8, 3) := by decide +kernel
theorem dX9_number_15 : decode cX9_number 15 = .ok (.aload_n 0, 1) := by decide +kernel
theorem dX9_number_16 : decode cX9_number 16 = .ok (.iconst 1, 1) := by decide +kernel
theorem dX9_number_17 : decode cX9_number 17 = .ok (.invokevirtual 163, 3) := by decide +kernel
theorem dX9_number_20 : decode cX9_number 20 = .ok (.aload_n 0, 1) := by decide +kernel
theorem dX9_number_21 : decode cX9_number 21 = .ok (.getfield 157, 3) := by decide +kernel
theorem dX9_number_24 : decode cX9_number 24 = .ok (.ifCond .ne 20, 3) := by decide +kernel
theorem dX9_number_27 : decode cX9_number 27 = .ok (.aload_n 0, 1) := by decide +kernel
theorem dX9_number_28 : decode cX9_number 28 = .ok (.getfield 144, 3) := by decide +kernel
theorem dX9_number_31 : decode cX9_number 31 = .ok (.iload_n 1, 1) := by decide +kernel
theorem dX9_number_32 : decode cX9_number 32 = .ok (.iload_n 2, 1) := by decide +kernel
theorem dX9_number_33 : decode cX9_number 33 = .ok (.invokestatic 100, 3) := by decide +kernel
theorem dX9_number_36 : decode cX9_number 36 = .ok (.ifCond .ne 8, 3) := by decide +kernel
theorem dX9_number_39 : decode cX9_number 39 = .ok (.aload_n 0, 1) := by decide +kernel
theorem dX9_number_40 : decode cX9_number 40 = .ok (.iconst 2, 1) := by decide +kernel
theorem dX9_number_41 : decode cX9_number 41 = .ok (.invokevirtual 163, 3) := by decide +kernel
theorem dX9_number_44 : decode cX9_number 44 = .ok (.aload_n 0, 1) := by decide +kernel
theorem dX9_number_45 : decode cX9_number 45 = .ok (.getfield 157, 3) := by decide +kernel
theorem dX9_number_48 : decode cX9_number 48 = .ok (.ifCond .eq 5, 3) := by decide +kernel
theorem dX9_number_51 : decode cX9_number 51 = .ok (.iconst 0, 1) := by decide +kernel
theorem dX9_number_52 : decode cX9_number 52 = .ok (.ireturn, 1) := by decide +kernel
theorem dX9_number_53 : decode cX9_number 53 = .ok (.aload_n 0, 1) := by decide +kernel
theorem dX9_number_54 : decode cX9_number 54 = .ok (.getfield 144, 3) := by decide +kernel
theorem dX9_number_57 : decode cX9_number 57 = .ok (.istore_n 3, 1) := by decide +kernel
theorem dX9_number_58 : decode cX9_number 58 = .ok (.aload_n 0, 1) := by decide +kernel
theorem dX9_number_59 : decode cX9_number 59 = .ok (.invokevirtual 167, 3) := by decide +kernel
theorem dX9_number_62 : decode cX9_number 62 = .ok (.iload_n 3, 1) := by decide +kernel
theorem dX9_number_63 : decode cX9_number 63 = .ok (.ireturn, 1) := by decide +kernel
theorem dX9_readStatement_0 : decode cX9_readStatement 0 = .ok (.aload_n 0, 1) := by decide +kernel
theorem dX9_readStatement_1 : decode cX9_readStatement 1 = .ok (.ldc 170, 2) := by decide +kernel
theorem dX9_readStatement_3 : decode cX9_readStatement 3 = .ok (.invokevirtual 172, 3) := by decide +kernel
theorem dX9_readStatement_6 : decode cX9_readStatement 6 = .ok (.ifCond .eq 7, 3) := by decide +kernel
theorem dX9_readStatement_9 : decode cX9_readStatement 9 = .ok (.iconst 0, 1) := by decide +kernel
theorem dX9_readStatement_10 : decode cX9_readStatement 10 = .ok (.goto 43, 3) := by decide +kernel
theorem dX9_readStatement_13 : decode cX9_readStatement 13 = .ok (.aload_n 0, 1) := by decide +kernel
theorem dX9_readStatement_14 : decode cX9_readStatement 14 = .ok (.ldc 176, 2) := by decide +kernel
theorem dX9_readStatement_16 : decode cX9_readStatement 16 = .ok (.invokevirtual 172, 3) := by decide +kernel
theorem dX9_readStatement_19 : decode cX9_readStatement 19 = .ok (.ifCond .eq 7, 3) := by decide +kernel
theorem dX9_readStatement_22 : decode cX9_readStatement 22 = .ok (.iconst 1, 1) := by decide +kernel
theorem dX9_readStatement_23 : decode cX9_readStatement 23 = .ok (.goto 30, 3) := by decide +kernel
theorem dX9_readStatement_26 : decode cX9_readStatement 26 = .ok (.aload_n 0, 1) := by decide +kernel
theorem dX9_readStatement_27 : decode cX9_readStatement 27 = .ok (.ldc 177, 2) := by decide +kernel
theorem dX9_readStatement_29 : decode cX9_readStatement 29 = .ok (.invokevirtual 172, 3) := by decide +kernel
theorem dX9_readStatement_32 : decode cX9_readStatement 32 = .ok (.ifCond .eq 7, 3) := by decide +kernel
theorem dX9_readStatement_35 : decode cX9_readStatement 35 = .ok (.iconst 2, 1) := by decide +kernel
theorem dX9_readStatement_36 : decode cX9_readStatement 36 = .ok (.goto 17, 3) := by decide +kernel
theorem dX9_readStatement_39 : decode cX9_readStatement 39 = .ok (.aload_n 0, 1) := by decide +kernel
theorem dX9_readStatement_40 : decode cX9_readStatement 40 = .ok (.ldc 179, 2) := by decide +kernel
theorem dX9_readStatement_42 : decode cX9_readStatement 42 = .ok (.invokevirtual 172, 3) := by decide +kernel
theorem dX9_readStatement_45 : decode cX9_readStatement 45 = .ok (.ifCond .eq 7, 3) := by decide +kernel
theorem dX9_readStatement_48 : decode cX9_readStatement 48 = .ok (.iconst 3, 1) := by decide +kernel
theorem dX9_readStatement_49 : decode cX9_readStatement 49 = .ok (.goto 4, 3) := by decide +kernel
theorem dX9_readStatement_52 : decode cX9_readStatement 52 = .ok (.iconst (-1), 1) := by decide +kernel
theorem dX9_readStatement_53 : decode cX9_readStatement 53 = .ok (.istore_n 1, 1) := by decide +kernel
theorem dX9_readStatement_54 : decode cX9_readStatement 54 = .ok (.iload_n 1, 1) := by decide +kernel
theorem dX9_readStatement_55 : decode cX9_readStatement 55 = .ok (.iconst (-1), 1) := by decide +kernel
theorem dX9_readStatement_56 : decode cX9_readStatement 56 = .ok (.if_icmp .ne 11, 3) := by decide +kernel
theorem dX9_readStatement_59 : decode cX9_readStatement 59 = .ok (.aload_n 0, 1) := by decide +kernel
theorem dX9_readStatement_60 : decode cX9_readStatement 60 = .ok (.iconst 1, 1) := by decide +kernel
theorem dX9_readStatement_61 : decode cX9_readStatement 61 = .ok (.invokevirtual 163, 3) := by decide +kernel
theorem dX9_readStatement_64 : decode cX9_readStatement 64 = .ok (.goto 17, 3) := by decide +kernel
theorem dX9_readStatement_67 : decode cX9_readStatement 67 = .ok (.aload_n 0, 1) := by decide +kernel
theorem dX9_readStatement_68 : decode cX9_readStatement 68 = .ok (.getfield 181, 3) := by decide +kernel
theorem dX9_readStatement_71 : decode cX9_readStatement 71 = .ok (.bipush 30, 2) := by decide +kernel
theorem dX9_readStatement_73 : decode cX9_readStatement 73 = .ok (.if_icmp .ne 8, 3) := by decide +kernel
theorem dX9_readStatement_76 : decode cX9_readStatement 76 = .ok (.aload_n 0, 1) := by decide +kernel
theorem dX9_readStatement_77 : decode cX9_readStatement 77 = .ok (.iconst 3, 1) := by decide +kernel
theorem dX9_readStatement_78 : decode cX9_readStatement 78 = .ok (.invokevirtual 163, 3) := by decide +kernel
theorem dX9_readStatement_81 : decode cX9_readStatement 81 = .ok (.aload_n 0, 1) := by decide +kernel
theorem dX9_readStatement_82 : decode cX9_readStatement 82 = .ok (.getfield 157, 3) := by decide +kernel
theorem dX9_readStatement_85 : decode cX9_readStatement 85 = .ok (.ifCond .eq 4, 3) := by decide +kernel
theorem dX9_readStatement_88 : decode cX9_readStatement 88 = .ok (.return_, 1) := by decide +kernel
theorem dX9_readStatement_89 : decode cX9_readStatement 89 = .ok (.iconst 4, 1) := by decide +kernel
theorem dX9_readStatement_90 : decode cX9_readStatement 90 = .ok (.aload_n 0, 1) := by decide +kernel
theorem dX9_readStatement_91 : decode cX9_readStatement 91 = .ok (.getfield 181, 3) := by decide +kernel
theorem dX9_readStatement_94 : decode cX9_readStatement 94 = .ok (.imul, 1) := by decide +kernel
theorem dX9_readStatement_95 : decode cX9_readStatement 95 = .ok (.istore_n 2, 1) := by decide +kernel
theorem dX9_readStatement_96 : decode cX9_readStatement 96 = .ok (.aload_n 0, 1) := by decide +kernel
theorem dX9_readStatement_97 : decode cX9_readStatement 97 = .ok (.dup, 1) := by decide +kernel
theorem dX9_readStatement_98 : decode cX9_readStatement 98 = .ok (.getfield 181, 3) := by decide +kernel
theorem dX9_readStatement_101 : decode cX9_readStatement 101 = .ok (.iconst 1, 1) := by decide +kernel
theorem dX9_readStatement_102 : decode cX9_readStatement 102 = .ok (.iadd, 1) := by decide +kernel
theorem dX9_readStatement_103 : decode cX9_readStatement 103 = .ok (.putfield 181, 3) := by decide +kernel
theorem dX9_readStatement_106 : decode cX9_readStatement 106 = .ok (.aload_n 0, 1) := by decide +kernel
theorem dX9_readStatement_107 : decode cX9_readStatement 107 = .ok (.getfield 49, 3) := by decide +kernel
theorem dX9_readStatement_110 : decode cX9_readStatement 110 = .ok (.iload_n 2, 1) := by decide +kernel
theorem dX9_readStatement_111 : decode cX9_readStatement 111 = .ok (.iload_n 1, 1) := by decide +kernel
theorem dX9_readStatement_112 : decode cX9_readStatement 112 = .ok (.iastore, 1) := by decide +kernel
theorem dX9_readStatement_113 : decode cX9_readStatement 113 = .ok (.aload_n 0, 1) := by decide +kernel
theorem dX9_readStatement_114 : decode cX9_readStatement 114 = .ok (.invokevirtual 167, 3) := by decide +kernel
theorem dX9_readStatement_117 : decode cX9_readStatement 117 = .ok (.iload_n 1, 1) := by decide +kernel
theorem dX9_readStatement_118 : decode cX9_readStatement 118 = .ok (.iconst 3, 1) := by decide +kernel
theorem dX9_readStatement_119 : decode cX9_readStatement 119 = .ok (.if_icmp .ne 58, 3) := by decide +kernel
theorem dX9_readStatement_122 : decode cX9_readStatement 122 = .ok (.aload_n 0, 1) := by decide +kernel
theorem dX9_readStatement_123 : decode cX9_readStatement 123 = .ok (.getfield 49, 3) := by decide +kernel
theorem dX9_readStatement_126 : decode cX9_readStatement 126 = .ok (.iload_n 2, 1) := by decide +kernel
theorem dX9_readStatement_127 : decode cX9_readStatement 127 = .ok (.iconst 1, 1) := by decide +kernel
theorem dX9_readStatement_128 : decode cX9_readStatement 128 = .ok (.iadd, 1) := by decide +kernel
theorem dX9_readStatement_129 : decode cX9_readStatement 129 = .ok (.aload_n 0, 1) := by decide +kernel
theorem dX9_readStatement_130 : decode cX9_readStatement 130 = .ok (.ldc 184, 2) := by decide +kernel
theorem dX9_readStatement_132 : decode cX9_readStatement 132 = .ok (.invokevirtual 172, 3) := by decide +kernel
theorem dX9_readStatement_135 : decode cX9_readStatement 135 = .ok (.ifCond .eq 7, 3) := by decide +kernel
theorem dX9_readStatement_138 : decode cX9_readStatement 138 = .ok (.iconst 1, 1) := by decide +kernel
theorem dX9_readStatement_139 : decode cX9_readStatement 139 = .ok (.goto 4, 3) := by decide +kernel
theorem dX9_readStatement_142 : decode cX9_readStatement 142 = .ok (.iconst 0, 1) := by decide +kernel
theorem dX9_readStatement_143 : decode cX9_readStatement 143 = .ok (.iastore, 1) := by decide +kernel
theorem dX9_readStatement_144 : decode cX9_readStatement 144 = .ok (.aload_n 0, 1) := by decide +kernel
theorem dX9_readStatement_145 : decode cX9_readStatement 145 = .ok (.ldc 184, 2) := by decide +kernel
theorem dX9_readStatement_147 : decode cX9_readStatement 147 = .ok (.invokevirtual 172, 3) := by decide +kernel
theorem dX9_readStatement_150 : decode cX9_readStatement 150 = .ok (.ifCond .ne 20, 3) := by decide +kernel
theorem dX9_readStatement_153 : decode cX9_readStatement 153 = .ok (.aload_n 0, 1) := by decide +kernel
theorem dX9_readStatement_154 : decode cX9_readStatement 154 = .ok (.ldc 186, 2) := by decide +kernel
theorem dX9_readStatement_156 : decode cX9_readStatement 156 = .ok (.invokevirtual 172, 3) := by decide +kernel
theorem dX9_readStatement_159 : decode cX9_readStatement 159 = .ok (.ifCond .ne 11, 3) := by decide +kernel
theorem dX9_readStatement_162 : decode cX9_readStatement 162 = .ok (.aload_n 0, 1) := by decide +kernel
theorem dX9_readStatement_163 : decode cX9_readStatement 163 = .ok (.iconst 1, 1) := by decide +kernel
theorem dX9_readStatement_164 : decode cX9_readStatement 164 = .ok (.invokevirtual 163, 3) := by decide +kernel
theorem dX9_readStatement_167 : decode cX9_readStatement 167 = .ok (.goto 110, 3) := by decide +kernel
theorem dX9_readStatement_170 : decode cX9_readStatement 170 = .ok (.aload_n 0, 1) := by decide +kernel
theorem dX9_readStatement_171 : decode cX9_readStatement 171 = .ok (.invokevirtual 167, 3) := by decide +kernel
theorem dX9_readStatement_174 : decode cX9_readStatement 174 = .ok (.goto 103, 3) := by decide +kernel
theorem dX9_readStatement_177 : decode cX9_readStatement 177 = .ok (.aload_n 0, 1) := by decide +kernel
theorem dX9_readStatement_178 : decode cX9_readStatement 178 = .ok (.getfield 49, 3) := by decide +kernel
theorem dX9_readStatement_181 : decode cX9_readStatement 181 = .ok (.iload_n 2, 1) := by decide +kernel
theorem dX9_readStatement_182 : decode cX9_readStatement 182 = .ok (.iconst 1, 1) := by decide +kernel
theorem dX9_readStatement_183 : decode cX9_readStatement 183 = .ok (.iadd, 1) := by decide +kernel
theorem dX9_readStatement_184 : decode cX9_readStatement 184 = .ok (.iload_n 1, 1) := by decide +kernel
theorem dX9_readStatement_185 : decode cX9_readStatement 185 = .ok (.ifCond .ne 13, 3) := by decide +kernel
theorem dX9_readStatement_188 : decode cX9_readStatement 188 = .ok (.aload_n 0, 1) := by decide +kernel
theorem dX9_readStatement_189 : decode cX9_readStatement 189 = .ok (.iconst 0, 1) := by decide +kernel
theorem dX9_readStatement_190 : decode cX9_readStatement 190 = .ok (.bipush 52, 2) := by decide +kernel
theorem dX9_readStatement_192 : decode cX9_readStatement 192 = .ok (.invokevirtual 188, 3) := by decide +kernel
theorem dX9_readStatement_195 : decode cX9_readStatement 195 = .ok (.goto 24, 3) := by decide +kernel
theorem dX9_readStatement_198 : decode cX9_readStatement 198 = .ok (.iload_n 1, 1) := by decide +kernel
theorem dX9_readStatement_199 : decode cX9_readStatement 199 = .ok (.iconst 1, 1) := by decide +kernel
theorem dX9_readStatement_200 : decode cX9_readStatement 200 = .ok (.if_icmp .ne 12, 3) := by decide +kernel
theorem dX9_readStatement_203 : decode cX9_readStatement 203 = .ok (.aload_n 0, 1) := by decide +kernel
theorem dX9_readStatement_204 : decode cX9_readStatement 204 = .ok (.iconst 1, 1) := by decide +kernel
theorem dX9_readStatement_205 : decode cX9_readStatement 205 = .ok (.iconst 4, 1) := by decide +kernel
theorem dX9_readStatement_206 : decode cX9_readStatement 206 = .ok (.invokevirtual 188, 3) := by decide +kernel
theorem dX9_readStatement_209 : decode cX9_readStatement 209 = .ok (.goto 10, 3) := by decide +kernel
theorem dX9_readStatement_212 : decode cX9_readStatement 212 = .ok (.aload_n 0, 1) := by decide +kernel
theorem dX9_readStatement_213 : decode cX9_readStatement 213 = .ok (.iconst 0, 1) := by decide +kernel
theorem dX9_readStatement_214 : decode cX9_readStatement 214 = .ok (.bipush 52, 2) := by decide +kernel
theorem dX9_readStatement_216 : decode cX9_readStatement 216 = .ok (.invokevirtual 188, 3) := by decide +kernel
theorem dX9_readStatement_219 : decode cX9_readStatement 219 = .ok (.iastore, 1) := by decide +kernel
theorem dX9_readStatement_220 : decode cX9_readStatement 220 = .ok (.aload_n 0, 1) := by decide +kernel
theorem dX9_readStatement_221 : decode cX9_readStatement 221 = .ok (.getfield 49, 3) := by decide +kernel
theorem dX9_readStatement_224 : decode cX9_readStatement 224 = .ok (.iload_n 2, 1) := by decide +kernel
theorem dX9_readStatement_225 : decode cX9_readStatement 225 = .ok (.iconst 2, 1) := by decide +kernel
theorem dX9_readStatement_226 : decode cX9_readStatement 226 = .ok (.iadd, 1) := by decide +kernel
theorem dX9_readStatement_227 : decode cX9_readStatement 227 = .ok (.iload_n 1, 1) := by decide +kernel
theorem dX9_readStatement_228 : decode cX9_readStatement 228 = .ok (.ifCond .ne 20, 3) := by decide +kernel
theorem dX9_readStatement_231 : decode cX9_readStatement 231 = .ok (.aload_n 0, 1) := by decide +kernel
theorem dX9_readStatement_232 : decode cX9_readStatement 232 = .ok (.aload_n 0, 1) := by decide +kernel
theorem dX9_readStatement_233 : decode cX9_readStatement 233 = .ok (.getfield 49, 3) := by decide +kernel
theorem dX9_readStatement_236 : decode cX9_readStatement 236 = .ok (.iload_n 2, 1) := by decide +kernel
theorem dX9_readStatement_237 : decode cX9_readStatement 237 = .ok (.iconst 1, 1) := by decide +kernel
theorem dX9_readStatement_238 : decode cX9_readStatement 238 = .ok (.iadd, 1) := by decide +kernel
theorem dX9_readStatement_239 : decode cX9_readStatement 239 = .ok (.iaload, 1) := by decide +kernel
theorem dX9_readStatement_240 : decode cX9_readStatement 240 = .ok (.bipush 52, 2) := by decide +kernel
theorem dX9_readStatement_242 : decode cX9_readStatement 242 = .ok (.invokevirtual 188, 3) := by decide +kernel
theorem dX9_readStatement_245 : decode cX9_readStatement 245 = .ok (.goto 11, 3) := by decide +kernel
theorem dX9_readStatement_248 : decode cX9_readStatement 248 = .ok (.aload_n 0, 1) := by decide +kernel
theorem dX9_readStatement_249 : decode cX9_readStatement 249 = .ok (.iconst 0, 1) := by decide +kernel
theorem dX9_readStatement_250 : decode cX9_readStatement 250 = .ok (.sipush 9999, 3) := by decide +kernel
theorem dX9_readStatement_253 : decode cX9_readStatement 253 = .ok (.invokevirtual 188, 3) := by decide +kernel
theorem dX9_readStatement_256 : decode cX9_readStatement 256 = .ok (.iastore, 1) := by decide +kernel
theorem dX9_readStatement_257 : decode cX9_readStatement 257 = .ok (.iload_n 1, 1) := by decide +kernel
theorem dX9_readStatement_258 : decode cX9_readStatement 258 = .ok (.ifCond .ne 19, 3) := by decide +kernel
theorem dX9_readStatement_261 : decode cX9_readStatement 261 = .ok (.aload_n 0, 1) := by decide +kernel
theorem dX9_readStatement_262 : decode cX9_readStatement 262 = .ok (.getfield 49, 3) := by decide +kernel
theorem dX9_readStatement_265 : decode cX9_readStatement 265 = .ok (.iload_n 2, 1) := by decide +kernel
theorem dX9_readStatement_266 : decode cX9_readStatement 266 = .ok (.iconst 3, 1) := by decide +kernel
theorem dX9_readStatement_267 : decode cX9_readStatement 267 = .ok (.iadd, 1) := by decide +kernel
theorem dX9_readStatement_268 : decode cX9_readStatement 268 = .ok (.aload_n 0, 1) := by decide +kernel
theorem dX9_readStatement_269 : decode cX9_readStatement 269 = .ok (.iconst 0, 1) := by decide +kernel
theorem dX9_readStatement_270 : decode cX9_readStatement 270 = .ok (.sipush 9999, 3) := by decide +kernel
theorem dX9_readStatement_273 : decode cX9_readStatement 273 = .ok (.invokevirtual 188, 3) := by decide +kernel
theorem dX9_readStatement_276 : decode cX9_readStatement 276 = .ok (.iastore, 1) := by decide +kernel
theorem dX9_readStatement_277 : decode cX9_readStatement 277 = .ok (.aload_n 0, 1) := by decide +kernel
theorem dX9_readStatement_278 : decode cX9_readStatement 278 = .ok (.getfield 157, 3) := by decide +kernel
theorem dX9_readStatement_281 : decode cX9_readStatement 281 = .ok (.ifCond .ne 16, 3) := by decide +kernel
theorem dX9_readStatement_284 : decode cX9_readStatement 284 = .ok (.aload_n 0, 1) := by decide +kernel
theorem dX9_readStatement_285 : decode cX9_readStatement 285 = .ok (.getfield 131, 3) := by decide +kernel
theorem dX9_readStatement_288 : decode cX9_readStatement 288 = .ok (.iconst 4, 1) := by decide +kernel
theorem dX9_readStatement_289 : decode cX9_readStatement 289 = .ok (.if_icmp .eq 8, 3) := by decide +kernel
theorem dX9_readStatement_292 : decode cX9_readStatement 292 = .ok (.aload_n 0, 1) := by decide +kernel
theorem dX9_readStatement_293 : decode cX9_readStatement 293 = .ok (.iconst 1, 1) := by decide +kernel
theorem dX9_readStatement_294 : decode cX9_readStatement 294 = .ok (.invokevirtual 163, 3) := by decide +kernel
theorem dX9_readStatement_297 : decode cX9_readStatement 297 = .ok (.aload_n 0, 1) := by decide +kernel
theorem dX9_readStatement_298 : decode cX9_readStatement 298 = .ok (.getfield 157, 3) := by decide +kernel
theorem dX9_readStatement_301 : decode cX9_readStatement 301 = .ok (.ifCond .ne 7, 3) := by decide +kernel
theorem dX9_readStatement_304 : decode cX9_readStatement 304 = .ok (.aload_n 0, 1) := by decide +kernel
theorem dX9_readStatement_305 : decode cX9_readStatement 305 = .ok (.invokevirtual 167, 3) := by decide +kernel
theorem dX9_readStatement_308 : decode cX9_readStatement 308 = .ok (.return_, 1) := by decide +kernel
theorem dX9_rules_0 : decode cX9_rules 0 = .ok (.aload_n 0, 1) := by decide +kernel
theorem dX9_rules_1 : decode cX9_rules 1 = .ok (.iconst 0, 1) := by decide +kernel
theorem dX9_rules_2 : decode cX9_rules 2 = .ok (.putfield 1, 3) := by decide +kernel
theorem dX9_rules_5 : decode cX9_rules 5 = .ok (.aload_n 0, 1) := by decide +kernel
theorem dX9_rules_6 : decode cX9_rules 6 = .ok (.iconst 0, 1) := by decide +kernel
theorem dX9_rules_7 : decode cX9_rules 7 = .ok (.putfield 157, 3) := by decide +kernel
theorem dX9_rules_10 : decode cX9_rules 10 = .ok (.aload_n 0, 1) := by decide +kernel
theorem dX9_rules_11 : decode cX9_rules 11 = .ok (.iconst 0, 1) := by decide +kernel
theorem dX9_rules_12 : decode cX9_rules 12 = .ok (.putfield 125, 3) := by decide +kernel
theorem dX9_rules_15 : decode cX9_rules 15 = .ok (.aload_n 0, 1) := by decide +kernel
theorem dX9_rules_16 : decode cX9_rules 16 = .ok (.iconst 0, 1) := by decide +kernel
theorem dX9_rules_17 : decode cX9_rules 17 = .ok (.putfield 181, 3) := by decide +kernel
theorem dX9_rules_20 : decode cX9_rules 20 = .ok (.aload_n 0, 1) := by decide +kernel
theorem dX9_rules_21 : decode cX9_rules 21 = .ok (.invokevirtual 167, 3) := by decide +kernel
theorem dX9_rules_24 : decode cX9_rules 24 = .ok (.aload_n 0, 1) := by decide +kernel
theorem dX9_rules_25 : decode cX9_rules 25 = .ok (.getfield 157, 3) := by decide +kernel
theorem dX9_rules_28 : decode cX9_rules 28 = .ok (.ifCond .ne 17, 3) := by decide +kernel
theorem dX9_rules_31 : decode cX9_rules 31 = .ok (.aload_n 0, 1) := by decide +kernel
theorem dX9_rules_32 : decode cX9_rules 32 = .ok (.getfield 131, 3) := by decide +kernel
theorem dX9_rules_35 : decode cX9_rules 35 = .ok (.ifCond .eq 10, 3) := by decide +kernel
theorem dX9_rules_38 : decode cX9_rules 38 = .ok (.aload_n 0, 1) := by decide +kernel
theorem dX9_rules_39 : decode cX9_rules 39 = .ok (.invokevirtual 191, 3) := by decide +kernel
theorem dX9_rules_42 : decode cX9_rules 42 = .ok (.goto (-18), 3) := by decide +kernel
theorem dX9_rules_45 : decode cX9_rules 45 = .ok (.aload_n 0, 1) := by decide +kernel
theorem dX9_rules_46 : decode cX9_rules 46 = .ok (.iconst 0, 1) := by decide +kernel
theorem dX9_rules_47 : decode cX9_rules 47 = .ok (.putfield 122, 3) := by decide +kernel
theorem dX9_rules_50 : decode cX9_rules 50 = .ok (.aload_n 0, 1) := by decide +kernel
theorem dX9_rules_51 : decode cX9_rules 51 = .ok (.aload_n 0, 1) := by decide +kernel
theorem dX9_rules_52 : decode cX9_rules 52 = .ok (.getfield 157, 3) := by decide +kernel
theorem dX9_rules_55 : decode cX9_rules 55 = .ok (.ifCond .ne 7, 3) := by decide +kernel
theorem dX9_rules_58 : decode cX9_rules 58 = .ok (.iconst (-1), 1) := by decide +kernel
theorem dX9_rules_59 : decode cX9_rules 59 = .ok (.goto 7, 3) := by decide +kernel
theorem dX9_rules_62 : decode cX9_rules 62 = .ok (.aload_n 0, 1) := by decide +kernel
theorem dX9_rules_63 : decode cX9_rules 63 = .ok (.getfield 160, 3) := by decide +kernel
theorem dX9_rules_66 : decode cX9_rules 66 = .ok (.putfield 43, 3) := by decide +kernel
theorem dX9_rules_69 : decode cX9_rules 69 = .ok (.aload_n 0, 1) := by decide +kernel
theorem dX9_rules_70 : decode cX9_rules 70 = .ok (.getfield 157, 3) := by decide +kernel
theorem dX9_rules_73 : decode cX9_rules 73 = .ok (.ifCond .eq 10, 3) := by decide +kernel
theorem dX9_rules_76 : decode cX9_rules 76 = .ok (.iconst (-1), 1) := by decide +kernel
theorem dX9_rules_77 : decode cX9_rules 77 = .ok (.aload_n 0, 1) := by decide +kernel
theorem dX9_rules_78 : decode cX9_rules 78 = .ok (.getfield 157, 3) := by decide +kernel
theorem dX9_rules_81 : decode cX9_rules 81 = .ok (.isub, 1) := by decide +kernel
theorem dX9_rules_82 : decode cX9_rules 82 = .ok (.ireturn, 1) := by decide +kernel
theorem dX9_rules_83 : decode cX9_rules 83 = .ok (.aload_n 0, 1) := by decide +kernel
theorem dX9_rules_84 : decode cX9_rules 84 = .ok (.aload_n 0, 1) := by decide +kernel
theorem dX9_rules_85 : decode cX9_rules 85 = .ok (.getfield 181, 3) := by decide +kernel
theorem dX9_rules_88 : decode cX9_rules 88 = .ok (.putfield 194, 3) := by decide +kernel
theorem dX9_rules_91 : decode cX9_rules 91 = .ok (.iconst 0, 1) := by decide +kernel
theorem dX9_rules_92 : decode cX9_rules 92 = .ok (.istore_n 1, 1) := by decide +kernel
theorem dX9_rules_93 : decode cX9_rules 93 = .ok (.iload_n 1, 1) := by decide +kernel
theorem dX9_rules_94 : decode cX9_rules 94 = .ok (.bipush 120, 2) := by decide +kernel
theorem dX9_rules_96 : decode cX9_rules 96 = .ok (.if_icmp .ge 21, 3) := by decide +kernel
theorem dX9_rules_99 : decode cX9_rules 99 = .ok (.aload_n 0, 1) := by decide +kernel
theorem dX9_rules_100 : decode cX9_rules 100 = .ok (.getfield 46, 3) := by decide +kernel
theorem dX9_rules_103 : decode cX9_rules 103 = .ok (.iload_n 1, 1) := by decide +kernel
theorem dX9_rules_104 : decode cX9_rules 104 = .ok (.aload_n 0, 1) := by decide +kernel
theorem dX9_rules_105 : decode cX9_rules 105 = .ok (.getfield 49, 3) := by decide +kernel
theorem dX9_rules_108 : decode cX9_rules 108 = .ok (.iload_n 1, 1) := by decide +kernel
theorem dX9_rules_109 : decode cX9_rules 109 = .ok (.iaload, 1) := by decide +kernel
theorem dX9_rules_110 : decode cX9_rules 110 = .ok (.iastore, 1) := by decide +kernel
theorem dX9_rules_111 : decode cX9_rules 111 = .ok (.iinc 1 1, 3) := by decide +kernel
theorem dX9_rules_114 : decode cX9_rules 114 = .ok (.goto (-21), 3) := by decide +kernel
theorem dX9_rules_117 : decode cX9_rules 117 = .ok (.aload_n 0, 1) := by decide +kernel
theorem dX9_rules_118 : decode cX9_rules 118 = .ok (.getfield 194, 3) := by decide +kernel
theorem dX9_rules_121 : decode cX9_rules 121 = .ok (.ireturn, 1) := by decide +kernel
theorem dX9_place_0 : decode cX9_place 0 = .ok (.aload_n 0, 1) := by decide +kernel
theorem dX9_place_1 : decode cX9_place 1 = .ok (.iconst 0, 1) := by decide +kernel
theorem dX9_place_2 : decode cX9_place 2 = .ok (.putfield 1, 3) := by decide +kernel
theorem dX9_place_5 : decode cX9_place 5 = .ok (.aload_n 0, 1) := by decide +kernel
theorem dX9_place_6 : decode cX9_place 6 = .ok (.getfield 43, 3) := by decide +kernel
theorem dX9_place_9 : decode cX9_place 9 = .ok (.ireturn, 1) := by decide +kernel
theorem dX9_isBound_0 : decode cX9_isBound 0 = .ok (.iconst 0, 1) := by decide +kernel
theorem dX9_isBound_1 : decode cX9_isBound 1 = .ok (.istore_n 1, 1) := by decide +kernel
theorem dX9_isBound_2 : decode cX9_isBound 2 = .ok (.iconst 0, 1) := by decide +kernel
theorem dX9_isBound_3 : decode cX9_isBound 3 = .ok (.istore_n 2, 1) := by decide +kernel
theorem dX9_isBound_4 : decode cX9_isBound 4 = .ok (.iload_n 2, 1) := by decide +kernel
theorem dX9_isBound_5 : decode cX9_isBound 5 = .ok (.aload_n 0, 1) := by decide +kernel
theorem dX9_isBound_6 : decode cX9_isBound 6 = .ok (.getfield 194, 3) := by decide +kernel
theorem dX9_isBound_9 : decode cX9_isBound 9 = .ok (.if_icmp .ge 41, 3) := by decide +kernel
theorem dX9_isBound_12 : decode cX9_isBound 12 = .ok (.aload_n 0, 1) := by decide +kernel
theorem dX9_isBound_13 : decode cX9_isBound 13 = .ok (.getfield 46, 3) := by decide +kernel
theorem dX9_isBound_16 : decode cX9_isBound 16 = .ok (.iconst 4, 1) := by decide +kernel
theorem dX9_isBound_17 : decode cX9_isBound 17 = .ok (.iload_n 2, 1) := by decide +kernel
theorem dX9_isBound_18 : decode cX9_isBound 18 = .ok (.imul, 1) := by decide +kernel
theorem dX9_isBound_19 : decode cX9_isBound 19 = .ok (.iaload, 1) := by decide +kernel
theorem dX9_isBound_20 : decode cX9_isBound 20 = .ok (.iconst 3, 1) := by decide +kernel
theorem dX9_isBound_21 : decode cX9_isBound 21 = .ok (.if_icmp .ne 23, 3) := by decide +kernel
theorem dX9_isBound_24 : decode cX9_isBound 24 = .ok (.aload_n 0, 1) := by decide +kernel
theorem dX9_isBound_25 : decode cX9_isBound 25 = .ok (.getfield 46, 3) := by decide +kernel
theorem dX9_isBound_28 : decode cX9_isBound 28 = .ok (.iconst 4, 1) := by decide +kernel
theorem dX9_isBound_29 : decode cX9_isBound 29 = .ok (.iload_n 2, 1) := by decide +kernel
theorem dX9_isBound_30 : decode cX9_isBound 30 = .ok (.imul, 1) := by decide +kernel
theorem dX9_isBound_31 : decode cX9_isBound 31 = .ok (.iconst 1, 1) := by decide +kernel
theorem dX9_isBound_32 : decode cX9_isBound 32 = .ok (.iadd, 1) := by decide +kernel
theorem dX9_isBound_33 : decode cX9_isBound 33 = .ok (.iaload, 1) := by decide +kernel
theorem dX9_isBound_34 : decode cX9_isBound 34 = .ok (.iconst 1, 1) := by decide +kernel
theorem dX9_isBound_35 : decode cX9_isBound 35 = .ok (.if_icmp .ne 7, 3) := by decide +kernel
theorem dX9_isBound_38 : decode cX9_isBound 38 = .ok (.iconst 1, 1) := by decide +kernel
theorem dX9_isBound_39 : decode cX9_isBound 39 = .ok (.goto 4, 3) := by decide +kernel
theorem dX9_isBound_42 : decode cX9_isBound 42 = .ok (.iconst 0, 1) := by decide +kernel
theorem dX9_isBound_43 : decode cX9_isBound 43 = .ok (.istore_n 1, 1) := by decide +kernel
theorem dX9_isBound_44 : decode cX9_isBound 44 = .ok (.iinc 2 1, 3) := by decide +kernel
theorem dX9_isBound_47 : decode cX9_isBound 47 = .ok (.goto (-43), 3) := by decide +kernel
theorem dX9_isBound_50 : decode cX9_isBound 50 = .ok (.iload_n 1, 1) := by decide +kernel
theorem dX9_isBound_51 : decode cX9_isBound 51 = .ok (.ireturn, 1) := by decide +kernel
theorem dX9_worthOf_0 : decode cX9_worthOf 0 = .ok (.iconst 0, 1) := by decide +kernel
theorem dX9_worthOf_1 : decode cX9_worthOf 1 = .ok (.istore_n 3, 1) := by decide +kernel
theorem dX9_worthOf_2 : decode cX9_worthOf 2 = .ok (.iconst 0, 1) := by decide +kernel
theorem dX9_worthOf_3 : decode cX9_worthOf 3 = .ok (.istore 4, 2) := by decide +kernel
theorem dX9_worthOf_5 : decode cX9_worthOf 5 = .ok (.iconst 0, 1) := by decide +kernel
theorem dX9_worthOf_6 : decode cX9_worthOf 6 = .ok (.istore 5, 2) := by decide +kernel
theorem dX9_worthOf_8 : decode cX9_worthOf 8 = .ok (.iconst (-1), 1) := by decide +kernel
theorem dX9_worthOf_9 : decode cX9_worthOf 9 = .ok (.istore 6, 2) := by decide +kernel
theorem dX9_worthOf_11 : decode cX9_worthOf 11 = .ok (.iconst 0, 1) := by decide +kernel
theorem dX9_worthOf_12 : decode cX9_worthOf 12 = .ok (.istore 7, 2) := by decide +kernel
theorem dX9_worthOf_14 : decode cX9_worthOf 14 = .ok (.iload 7, 2) := by decide +kernel
theorem dX9_worthOf_16 : decode cX9_worthOf 16 = .ok (.aload_n 0, 1) := by decide +kernel
theorem dX9_worthOf_17 : decode cX9_worthOf 17 = .ok (.getfield 194, 3) := by decide +kernel
theorem dX9_worthOf_20 : decode cX9_worthOf 20 = .ok (.if_icmp .ge 143, 3) := by decide +kernel
theorem dX9_worthOf_23 : decode cX9_worthOf 23 = .ok (.aload_n 0, 1) := by decide +kernel
theorem dX9_worthOf_24 : decode cX9_worthOf 24 = .ok (.getfield 46, 3) := by decide +kernel
theorem dX9_worthOf_27 : decode cX9_worthOf 27 = .ok (.iconst 4, 1) := by decide +kernel
theorem dX9_worthOf_28 : decode cX9_worthOf 28 = .ok (.iload 7, 2) := by decide +kernel
theorem dX9_worthOf_30 : decode cX9_worthOf 30 = .ok (.imul, 1) := by decide +kernel
theorem dX9_worthOf_31 : decode cX9_worthOf 31 = .ok (.iconst 1, 1) := by decide +kernel
theorem dX9_worthOf_32 : decode cX9_worthOf 32 = .ok (.iadd, 1) := by decide +kernel
theorem dX9_worthOf_33 : decode cX9_worthOf 33 = .ok (.iaload, 1) := by decide +kernel
theorem dX9_worthOf_34 : decode cX9_worthOf 34 = .ok (.istore 8, 2) := by decide +kernel
theorem dX9_worthOf_36 : decode cX9_worthOf 36 = .ok (.aload_n 0, 1) := by decide +kernel
theorem dX9_worthOf_37 : decode cX9_worthOf 37 = .ok (.getfield 46, 3) := by decide +kernel
theorem dX9_worthOf_40 : decode cX9_worthOf 40 = .ok (.iconst 4, 1) := by decide +kernel
theorem dX9_worthOf_41 : decode cX9_worthOf 41 = .ok (.iload 7, 2) := by decide +kernel
theorem dX9_worthOf_43 : decode cX9_worthOf 43 = .ok (.imul, 1) := by decide +kernel
theorem dX9_worthOf_44 : decode cX9_worthOf 44 = .ok (.iconst 2, 1) := by decide +kernel
theorem dX9_worthOf_45 : decode cX9_worthOf 45 = .ok (.iadd, 1) := by decide +kernel
theorem dX9_worthOf_46 : decode cX9_worthOf 46 = .ok (.iaload, 1) := by decide +kernel
theorem dX9_worthOf_47 : decode cX9_worthOf 47 = .ok (.istore 9, 2) := by decide +kernel
theorem dX9_worthOf_49 : decode cX9_worthOf 49 = .ok (.aload_n 0, 1) := by decide +kernel
theorem dX9_worthOf_50 : decode cX9_worthOf 50 = .ok (.getfield 46, 3) := by decide +kernel
theorem dX9_worthOf_53 : decode cX9_worthOf 53 = .ok (.iconst 4, 1) := by decide +kernel
theorem dX9_worthOf_54 : decode cX9_worthOf 54 = .ok (.iload 7, 2) := by decide +kernel
theorem dX9_worthOf_56 : decode cX9_worthOf 56 = .ok (.imul, 1) := by decide +kernel
theorem dX9_worthOf_57 : decode cX9_worthOf 57 = .ok (.iaload, 1) := by decide +kernel
theorem dX9_worthOf_58 : decode cX9_worthOf 58 = .ok (.tableswitch 99 0 2 #[26, 52, 70], 26) := by decide +kernel
theorem dX9_worthOf_84 : decode cX9_worthOf 84 = .ok (.iload_n 2, 1) := by decide +kernel
theorem dX9_worthOf_85 : decode cX9_worthOf 85 = .ok (.iload 8, 2) := by decide +kernel
theorem dX9_worthOf_87 : decode cX9_worthOf 87 = .ok (.iload 9, 2) := by decide +kernel
theorem dX9_worthOf_89 : decode cX9_worthOf 89 = .ok (.invokestatic 100, 3) := by decide +kernel
theorem dX9_worthOf_92 : decode cX9_worthOf 92 = .ok (.ifCond .eq 65, 3) := by decide +kernel
theorem dX9_worthOf_95 : decode cX9_worthOf 95 = .ok (.aload_n 0, 1) := by decide +kernel
theorem dX9_worthOf_96 : decode cX9_worthOf 96 = .ok (.getfield 46, 3) := by decide +kernel
theorem dX9_worthOf_99 : decode cX9_worthOf 99 = .ok (.iconst 4, 1) := by decide +kernel
theorem dX9_worthOf_100 : decode cX9_worthOf 100 = .ok (.iload 7, 2) := by decide +kernel
theorem dX9_worthOf_102 : decode cX9_worthOf 102 = .ok (.imul, 1) := by decide +kernel
theorem dX9_worthOf_103 : decode cX9_worthOf 103 = .ok (.iconst 3, 1) := by decide +kernel
theorem dX9_worthOf_104 : decode cX9_worthOf 104 = .ok (.iadd, 1) := by decide +kernel
theorem dX9_worthOf_105 : decode cX9_worthOf 105 = .ok (.iaload, 1) := by decide +kernel
theorem dX9_worthOf_106 : decode cX9_worthOf 106 = .ok (.istore_n 3, 1) := by decide +kernel
theorem dX9_worthOf_107 : decode cX9_worthOf 107 = .ok (.goto 50, 3) := by decide +kernel
theorem dX9_worthOf_110 : decode cX9_worthOf 110 = .ok (.iload 8, 2) := by decide +kernel
theorem dX9_worthOf_112 : decode cX9_worthOf 112 = .ok (.aload_n 0, 1) := by decide +kernel
theorem dX9_worthOf_113 : decode cX9_worthOf 113 = .ok (.getfield 17, 3) := by decide +kernel
theorem dX9_worthOf_116 : decode cX9_worthOf 116 = .ok (.iload_n 1, 1) := by decide +kernel
theorem dX9_worthOf_117 : decode cX9_worthOf 117 = .ok (.iaload, 1) := by decide +kernel
theorem dX9_worthOf_118 : decode cX9_worthOf 118 = .ok (.if_icmp .ne 39, 3) := by decide +kernel
theorem dX9_worthOf_121 : decode cX9_worthOf 121 = .ok (.iload 9, 2) := by decide +kernel
theorem dX9_worthOf_123 : decode cX9_worthOf 123 = .ok (.istore 4, 2) := by decide +kernel
theorem dX9_worthOf_125 : decode cX9_worthOf 125 = .ok (.goto 32, 3) := by decide +kernel
theorem dX9_worthOf_128 : decode cX9_worthOf 128 = .ok (.iload 8, 2) := by decide +kernel
theorem dX9_worthOf_130 : decode cX9_worthOf 130 = .ok (.iload_n 2, 1) := by decide +kernel
theorem dX9_worthOf_131 : decode cX9_worthOf 131 = .ok (.aload_n 0, 1) := by decide +kernel
theorem dX9_worthOf_132 : decode cX9_worthOf 132 = .ok (.getfield 197, 3) := by decide +kernel
theorem dX9_worthOf_135 : decode cX9_worthOf 135 = .ok (.isub, 1) := by decide +kernel
theorem dX9_worthOf_136 : decode cX9_worthOf 136 = .ok (.if_icmp .gt 21, 3) := by decide +kernel
theorem dX9_worthOf_139 : decode cX9_worthOf 139 = .ok (.iload 8, 2) := by decide +kernel
theorem dX9_worthOf_141 : decode cX9_worthOf 141 = .ok (.iload 6, 2) := by decide +kernel
theorem dX9_worthOf_143 : decode cX9_worthOf 143 = .ok (.if_icmp .lt 14, 3) := by decide +kernel
theorem dX9_worthOf_146 : decode cX9_worthOf 146 = .ok (.iload 8, 2) := by decide +kernel
theorem dX9_worthOf_148 : decode cX9_worthOf 148 = .ok (.istore 6, 2) := by decide +kernel
theorem dX9_worthOf_150 : decode cX9_worthOf 150 = .ok (.iload 9, 2) := by decide +kernel
theorem dX9_worthOf_152 : decode cX9_worthOf 152 = .ok (.istore 5, 2) := by decide +kernel
theorem dX9_worthOf_154 : decode cX9_worthOf 154 = .ok (.goto 3, 3) := by decide +kernel
theorem dX9_worthOf_157 : decode cX9_worthOf 157 = .ok (.iinc 7 1, 3) := by decide +kernel
theorem dX9_worthOf_160 : decode cX9_worthOf 160 = .ok (.goto (-146), 3) := by decide +kernel
theorem dX9_worthOf_163 : decode cX9_worthOf 163 = .ok (.iload_n 3, 1) := by decide +kernel
theorem dX9_worthOf_164 : decode cX9_worthOf 164 = .ok (.iload 4, 2) := by decide +kernel
theorem dX9_worthOf_166 : decode cX9_worthOf 166 = .ok (.iadd, 1) := by decide +kernel
theorem dX9_worthOf_167 : decode cX9_worthOf 167 = .ok (.iload 5, 2) := by decide +kernel
theorem dX9_worthOf_169 : decode cX9_worthOf 169 = .ok (.iadd, 1) := by decide +kernel
theorem dX9_worthOf_170 : decode cX9_worthOf 170 = .ok (.ireturn, 1) := by decide +kernel
theorem dX9_worth_0 : decode cX9_worth 0 = .ok (.aload_n 0, 1) := by decide +kernel
theorem dX9_worth_1 : decode cX9_worth 1 = .ok (.iconst 0, 1) := by decide +kernel
theorem dX9_worth_2 : decode cX9_worth 2 = .ok (.putfield 1, 3) := by decide +kernel
theorem dX9_worth_5 : decode cX9_worth 5 = .ok (.aload_n 0, 1) := by decide +kernel
theorem dX9_worth_6 : decode cX9_worth 6 = .ok (.iload_n 1, 1) := by decide +kernel
theorem dX9_worth_7 : decode cX9_worth 7 = .ok (.iload_n 2, 1) := by decide +kernel
theorem dX9_worth_8 : decode cX9_worth 8 = .ok (.invokevirtual 110, 3) := by decide +kernel
theorem dX9_worth_11 : decode cX9_worth 11 = .ok (.ifCond .eq 12, 3) := by decide +kernel
theorem dX9_worth_14 : decode cX9_worth 14 = .ok (.aload_n 0, 1) := by decide +kernel
theorem dX9_worth_15 : decode cX9_worth 15 = .ok (.iload_n 1, 1) := by decide +kernel
theorem dX9_worth_16 : decode cX9_worth 16 = .ok (.iload_n 2, 1) := by decide +kernel
theorem dX9_worth_17 : decode cX9_worth 17 = .ok (.invokevirtual 200, 3) := by decide +kernel
theorem dX9_worth_20 : decode cX9_worth 20 = .ok (.goto 4, 3) := by decide +kernel
theorem dX9_worth_23 : decode cX9_worth 23 = .ok (.iconst (-1), 1) := by decide +kernel
theorem dX9_worth_24 : decode cX9_worth 24 = .ok (.ireturn, 1) := by decide +kernel
theorem dX9_givenAt_0 : decode cX9_givenAt 0 = .ok (.iconst (-1), 1) := by decide +kernel
theorem dX9_givenAt_1 : decode cX9_givenAt 1 = .ok (.istore_n 3, 1) := by decide +kernel
theorem dX9_givenAt_2 : decode cX9_givenAt 2 = .ok (.iconst 0, 1) := by decide +kernel
theorem dX9_givenAt_3 : decode cX9_givenAt 3 = .ok (.istore 4, 2) := by decide +kernel
theorem dX9_givenAt_5 : decode cX9_givenAt 5 = .ok (.iload 4, 2) := by decide +kernel
theorem dX9_givenAt_7 : decode cX9_givenAt 7 = .ok (.aload_n 0, 1) := by decide +kernel
theorem dX9_givenAt_8 : decode cX9_givenAt 8 = .ok (.getfield 203, 3) := by decide +kernel
theorem dX9_givenAt_11 : decode cX9_givenAt 11 = .ok (.if_icmp .ge 48, 3) := by decide +kernel
theorem dX9_givenAt_14 : decode cX9_givenAt 14 = .ok (.aload_n 0, 1) := by decide +kernel
theorem dX9_givenAt_15 : decode cX9_givenAt 15 = .ok (.getfield 61, 3) := by decide +kernel
theorem dX9_givenAt_18 : decode cX9_givenAt 18 = .ok (.iload 4, 2) := by decide +kernel
theorem dX9_givenAt_20 : decode cX9_givenAt 20 = .ok (.iaload, 1) := by decide +kernel
theorem dX9_givenAt_21 : decode cX9_givenAt 21 = .ok (.aload_n 0, 1) := by decide +kernel
theorem dX9_givenAt_22 : decode cX9_givenAt 22 = .ok (.getfield 206, 3) := by decide +kernel
theorem dX9_givenAt_25 : decode cX9_givenAt 25 = .ok (.if_icmp .ne 28, 3) := by decide +kernel
theorem dX9_givenAt_28 : decode cX9_givenAt 28 = .ok (.aload_n 0, 1) := by decide +kernel
theorem dX9_givenAt_29 : decode cX9_givenAt 29 = .ok (.getfield 55, 3) := by decide +kernel
theorem dX9_givenAt_32 : decode cX9_givenAt 32 = .ok (.iload 4, 2) := by decide +kernel
theorem dX9_givenAt_34 : decode cX9_givenAt 34 = .ok (.iaload, 1) := by decide +kernel
theorem dX9_givenAt_35 : decode cX9_givenAt 35 = .ok (.iload_n 1, 1) := by decide +kernel
theorem dX9_givenAt_36 : decode cX9_givenAt 36 = .ok (.if_icmp .ne 17, 3) := by decide +kernel
theorem dX9_givenAt_39 : decode cX9_givenAt 39 = .ok (.aload_n 0, 1) := by decide +kernel
theorem dX9_givenAt_40 : decode cX9_givenAt 40 = .ok (.getfield 58, 3) := by decide +kernel
theorem dX9_givenAt_43 : decode cX9_givenAt 43 = .ok (.iload 4, 2) := by decide +kernel
theorem dX9_givenAt_45 : decode cX9_givenAt 45 = .ok (.iaload, 1) := by decide +kernel
theorem dX9_givenAt_46 : decode cX9_givenAt 46 = .ok (.iload_n 2, 1) := by decide +kernel
theorem dX9_givenAt_47 : decode cX9_givenAt 47 = .ok (.if_icmp .ne 6, 3) := by decide +kernel
theorem dX9_givenAt_50 : decode cX9_givenAt 50 = .ok (.iload 4, 2) := by decide +kernel
theorem dX9_givenAt_52 : decode cX9_givenAt 52 = .ok (.istore_n 3, 1) := by decide +kernel
theorem dX9_givenAt_53 : decode cX9_givenAt 53 = .ok (.iinc 4 1, 3) := by decide +kernel
theorem dX9_givenAt_56 : decode cX9_givenAt 56 = .ok (.goto (-51), 3) := by decide +kernel
theorem dX9_givenAt_59 : decode cX9_givenAt 59 = .ok (.iload_n 3, 1) := by decide +kernel
theorem dX9_givenAt_60 : decode cX9_givenAt 60 = .ok (.ireturn, 1) := by decide +kernel
theorem dX9_many_0 : decode cX9_many 0 = .ok (.iconst 0, 1) := by decide +kernel
theorem dX9_many_1 : decode cX9_many 1 = .ok (.istore_n 2, 1) := by decide +kernel
theorem dX9_many_2 : decode cX9_many 2 = .ok (.iconst 0, 1) := by decide +kernel
theorem dX9_many_3 : decode cX9_many 3 = .ok (.istore_n 3, 1) := by decide +kernel
theorem dX9_many_4 : decode cX9_many 4 = .ok (.iload_n 3, 1) := by decide +kernel
theorem dX9_many_5 : decode cX9_many 5 = .ok (.aload_n 0, 1) := by decide +kernel
theorem dX9_many_6 : decode cX9_many 6 = .ok (.getfield 203, 3) := by decide +kernel
theorem dX9_many_9 : decode cX9_many 9 = .ok (.if_icmp .ge 22, 3) := by decide +kernel
theorem dX9_many_12 : decode cX9_many 12 = .ok (.aload_n 0, 1) := by decide +kernel
theorem dX9_many_13 : decode cX9_many 13 = .ok (.getfield 67, 3) := by decide +kernel
theorem dX9_many_16 : decode cX9_many 16 = .ok (.iload_n 3, 1) := by decide +kernel
theorem dX9_many_17 : decode cX9_many 17 = .ok (.iaload, 1) := by decide +kernel
theorem dX9_many_18 : decode cX9_many 18 = .ok (.iload_n 1, 1) := by decide +kernel
theorem dX9_many_19 : decode cX9_many 19 = .ok (.if_icmp .ne 6, 3) := by decide +kernel
theorem dX9_many_22 : decode cX9_many 22 = .ok (.iinc 2 1, 3) := by decide +kernel
theorem dX9_many_25 : decode cX9_many 25 = .ok (.iinc 3 1, 3) := by decide +kernel
theorem dX9_many_28 : decode cX9_many 28 = .ok (.goto (-24), 3) := by decide +kernel
theorem dX9_many_31 : decode cX9_many 31 = .ok (.iload_n 2, 1) := by decide +kernel
theorem dX9_many_32 : decode cX9_many 32 = .ok (.ireturn, 1) := by decide +kernel
theorem dX9_give_0 : decode cX9_give 0 = .ok (.aload_n 0, 1) := by decide +kernel
theorem dX9_give_1 : decode cX9_give 1 = .ok (.iconst 0, 1) := by decide +kernel
theorem dX9_give_2 : decode cX9_give 2 = .ok (.putfield 1, 3) := by decide +kernel
theorem dX9_give_5 : decode cX9_give 5 = .ok (.aload_n 0, 1) := by decide +kernel
theorem dX9_give_6 : decode cX9_give 6 = .ok (.iload_n 1, 1) := by decide +kernel
theorem dX9_give_7 : decode cX9_give 7 = .ok (.invokevirtual 114, 3) := by decide +kernel
theorem dX9_give_10 : decode cX9_give 10 = .ok (.ifCond .eq 12, 3) := by decide +kernel
theorem dX9_give_13 : decode cX9_give 13 = .ok (.aload_n 0, 1) := by decide +kernel
theorem dX9_give_14 : decode cX9_give 14 = .ok (.iload_n 2, 1) := by decide +kernel
theorem dX9_give_15 : decode cX9_give 15 = .ok (.iload_n 3, 1) := by decide +kernel
theorem dX9_give_16 : decode cX9_give 16 = .ok (.invokevirtual 110, 3) := by decide +kernel
theorem dX9_give_19 : decode cX9_give 19 = .ok (.ifCond .ne 5, 3) := by decide +kernel
theorem dX9_give_22 : decode cX9_give 22 = .ok (.iconst (-1), 1) := by decide +kernel
theorem dX9_give_23 : decode cX9_give 23 = .ok (.ireturn, 1) := by decide +kernel
theorem dX9_give_24 : decode cX9_give 24 = .ok (.aload_n 0, 1) := by decide +kernel
theorem dX9_give_25 : decode cX9_give 25 = .ok (.getfield 33, 3) := by decide +kernel
theorem dX9_give_28 : decode cX9_give 28 = .ok (.bipush 53, 2) := by decide +kernel
theorem dX9_give_30 : decode cX9_give 30 = .ok (.iload_n 2, 1) := by decide +kernel
theorem dX9_give_31 : decode cX9_give 31 = .ok (.imul, 1) := by decide +kernel
theorem dX9_give_32 : decode cX9_give 32 = .ok (.iload_n 3, 1) := by decide +kernel
end
section
theorem dX9_give_33 : decode cX9_give 33 = .ok (.iadd, 1) := by decide +kernel
theorem dX9_give_34 : decode cX9_give 34 = .ok (.iaload, 1) := by decide +kernel
theorem dX9_give_35 : decode cX9_give 35 = .ok (.iload_n 1, 1) := by decide +kernel
theorem dX9_give_36 : decode cX9_give 36 = .ok (.if_icmp .eq 6, 3) := by decide +kernel
theorem dX9_give_39 : decode cX9_give 39 = .ok (.bipush (-2), 2) := by decide +kernel
theorem dX9_give_41 : decode cX9_give 41 = .ok (.ireturn, 1) := by decide +kernel
theorem dX9_give_42 : decode cX9_give 42 = .ok (.iload_n 3, 1) := by decide +kernel
theorem dX9_give_43 : decode cX9_give 43 = .ok (.aload_n 0, 1) := by decide +kernel
theorem dX9_give_44 : decode cX9_give 44 = .ok (.getfield 197, 3) := by decide +kernel
theorem dX9_give_47 : decode cX9_give 47 = .ok (.if_icmp .gt 6, 3) := by decide +kernel
theorem dX9_give_50 : decode cX9_give 50 = .ok (.bipush (-3), 2) := by decide +kernel
theorem dX9_give_52 : decode cX9_give 52 = .ok (.ireturn, 1) := by decide +kernel
theorem dX9_give_53 : decode cX9_give 53 = .ok (.aload_n 0, 1) := by decide +kernel
theorem dX9_give_54 : decode cX9_give 54 = .ok (.getfield 36, 3) := by decide +kernel
theorem dX9_give_57 : decode cX9_give 57 = .ok (.bipush 53, 2) := by decide +kernel
theorem dX9_give_59 : decode cX9_give 59 = .ok (.iload_n 2, 1) := by decide +kernel
theorem dX9_give_60 : decode cX9_give 60 = .ok (.imul, 1) := by decide +kernel
theorem dX9_give_61 : decode cX9_give 61 = .ok (.iload_n 3, 1) := by decide +kernel
theorem dX9_give_62 : decode cX9_give 62 = .ok (.iadd, 1) := by decide +kernel
theorem dX9_give_63 : decode cX9_give 63 = .ok (.baload, 1) := by decide +kernel
theorem dX9_give_64 : decode cX9_give 64 = .ok (.ifCond .eq 6, 3) := by decide +kernel
theorem dX9_give_67 : decode cX9_give 67 = .ok (.bipush (-4), 2) := by decide +kernel
theorem dX9_give_69 : decode cX9_give 69 = .ok (.ireturn, 1) := by decide +kernel
theorem dX9_give_70 : decode cX9_give 70 = .ok (.aload_n 0, 1) := by decide +kernel
theorem dX9_give_71 : decode cX9_give 71 = .ok (.iload_n 2, 1) := by decide +kernel
theorem dX9_give_72 : decode cX9_give 72 = .ok (.iload_n 3, 1) := by decide +kernel
theorem dX9_give_73 : decode cX9_give 73 = .ok (.invokevirtual 118, 3) := by decide +kernel
theorem dX9_give_76 : decode cX9_give 76 = .ok (.istore 4, 2) := by decide +kernel
theorem dX9_give_78 : decode cX9_give 78 = .ok (.iload 4, 2) := by decide +kernel
theorem dX9_give_80 : decode cX9_give 80 = .ok (.iconst (-1), 1) := by decide +kernel
theorem dX9_give_81 : decode cX9_give 81 = .ok (.if_icmp .eq 17, 3) := by decide +kernel
theorem dX9_give_84 : decode cX9_give 84 = .ok (.aload_n 0, 1) := by decide +kernel
theorem dX9_give_85 : decode cX9_give 85 = .ok (.getfield 67, 3) := by decide +kernel
theorem dX9_give_88 : decode cX9_give 88 = .ok (.iload 4, 2) := by decide +kernel
theorem dX9_give_90 : decode cX9_give 90 = .ok (.iaload, 1) := by decide +kernel
theorem dX9_give_91 : decode cX9_give 91 = .ok (.iconst 4, 1) := by decide +kernel
theorem dX9_give_92 : decode cX9_give 92 = .ok (.if_icmp .eq 6, 3) := by decide +kernel
theorem dX9_give_95 : decode cX9_give 95 = .ok (.bipush (-5), 2) := by decide +kernel
theorem dX9_give_97 : decode cX9_give 97 = .ok (.ireturn, 1) := by decide +kernel
theorem dX9_give_98 : decode cX9_give 98 = .ok (.aload_n 0, 1) := by decide +kernel
theorem dX9_give_99 : decode cX9_give 99 = .ok (.iconst 0, 1) := by decide +kernel
theorem dX9_give_100 : decode cX9_give 100 = .ok (.invokevirtual 209, 3) := by decide +kernel
theorem dX9_give_103 : decode cX9_give 103 = .ok (.bipush 9, 2) := by decide +kernel
theorem dX9_give_105 : decode cX9_give 105 = .ok (.if_icmp .eq 13, 3) := by decide +kernel
theorem dX9_give_108 : decode cX9_give 108 = .ok (.aload_n 0, 1) := by decide +kernel
theorem dX9_give_109 : decode cX9_give 109 = .ok (.getfield 203, 3) := by decide +kernel
theorem dX9_give_112 : decode cX9_give 112 = .ok (.sipush 200, 3) := by decide +kernel
theorem dX9_give_115 : decode cX9_give 115 = .ok (.if_icmp .ne 6, 3) := by decide +kernel
theorem dX9_give_118 : decode cX9_give 118 = .ok (.bipush (-6), 2) := by decide +kernel
theorem dX9_give_120 : decode cX9_give 120 = .ok (.ireturn, 1) := by decide +kernel
theorem dX9_give_121 : decode cX9_give 121 = .ok (.aload_n 0, 1) := by decide +kernel
theorem dX9_give_122 : decode cX9_give 122 = .ok (.getfield 52, 3) := by decide +kernel
theorem dX9_give_125 : decode cX9_give 125 = .ok (.aload_n 0, 1) := by decide +kernel
theorem dX9_give_126 : decode cX9_give 126 = .ok (.getfield 203, 3) := by decide +kernel
theorem dX9_give_129 : decode cX9_give 129 = .ok (.iload_n 1, 1) := by decide +kernel
theorem dX9_give_130 : decode cX9_give 130 = .ok (.iastore, 1) := by decide +kernel
theorem dX9_give_131 : decode cX9_give 131 = .ok (.aload_n 0, 1) := by decide +kernel
theorem dX9_give_132 : decode cX9_give 132 = .ok (.getfield 55, 3) := by decide +kernel
theorem dX9_give_135 : decode cX9_give 135 = .ok (.aload_n 0, 1) := by decide +kernel
theorem dX9_give_136 : decode cX9_give 136 = .ok (.getfield 203, 3) := by decide +kernel
theorem dX9_give_139 : decode cX9_give 139 = .ok (.iload_n 2, 1) := by decide +kernel
theorem dX9_give_140 : decode cX9_give 140 = .ok (.iastore, 1) := by decide +kernel
theorem dX9_give_141 : decode cX9_give 141 = .ok (.aload_n 0, 1) := by decide +kernel
theorem dX9_give_142 : decode cX9_give 142 = .ok (.getfield 58, 3) := by decide +kernel
theorem dX9_give_145 : decode cX9_give 145 = .ok (.aload_n 0, 1) := by decide +kernel
theorem dX9_give_146 : decode cX9_give 146 = .ok (.getfield 203, 3) := by decide +kernel
theorem dX9_give_149 : decode cX9_give 149 = .ok (.iload_n 3, 1) := by decide +kernel
theorem dX9_give_150 : decode cX9_give 150 = .ok (.iastore, 1) := by decide +kernel
theorem dX9_give_151 : decode cX9_give 151 = .ok (.aload_n 0, 1) := by decide +kernel
theorem dX9_give_152 : decode cX9_give 152 = .ok (.getfield 61, 3) := by decide +kernel
theorem dX9_give_155 : decode cX9_give 155 = .ok (.aload_n 0, 1) := by decide +kernel
theorem dX9_give_156 : decode cX9_give 156 = .ok (.getfield 203, 3) := by decide +kernel
theorem dX9_give_159 : decode cX9_give 159 = .ok (.aload_n 0, 1) := by decide +kernel
theorem dX9_give_160 : decode cX9_give 160 = .ok (.getfield 206, 3) := by decide +kernel
theorem dX9_give_163 : decode cX9_give 163 = .ok (.iastore, 1) := by decide +kernel
theorem dX9_give_164 : decode cX9_give 164 = .ok (.aload_n 0, 1) := by decide +kernel
theorem dX9_give_165 : decode cX9_give 165 = .ok (.getfield 64, 3) := by decide +kernel
theorem dX9_give_168 : decode cX9_give 168 = .ok (.aload_n 0, 1) := by decide +kernel
theorem dX9_give_169 : decode cX9_give 169 = .ok (.getfield 203, 3) := by decide +kernel
theorem dX9_give_172 : decode cX9_give 172 = .ok (.aload_n 0, 1) := by decide +kernel
theorem dX9_give_173 : decode cX9_give 173 = .ok (.iload_n 2, 1) := by decide +kernel
theorem dX9_give_174 : decode cX9_give 174 = .ok (.iload_n 3, 1) := by decide +kernel
theorem dX9_give_175 : decode cX9_give 175 = .ok (.invokevirtual 200, 3) := by decide +kernel
theorem dX9_give_178 : decode cX9_give 178 = .ok (.iastore, 1) := by decide +kernel
theorem dX9_give_179 : decode cX9_give 179 = .ok (.aload_n 0, 1) := by decide +kernel
theorem dX9_give_180 : decode cX9_give 180 = .ok (.getfield 67, 3) := by decide +kernel
theorem dX9_give_183 : decode cX9_give 183 = .ok (.aload_n 0, 1) := by decide +kernel
theorem dX9_give_184 : decode cX9_give 184 = .ok (.getfield 203, 3) := by decide +kernel
theorem dX9_give_187 : decode cX9_give 187 = .ok (.iconst 0, 1) := by decide +kernel
theorem dX9_give_188 : decode cX9_give 188 = .ok (.iastore, 1) := by decide +kernel
theorem dX9_give_189 : decode cX9_give 189 = .ok (.aload_n 0, 1) := by decide +kernel
theorem dX9_give_190 : decode cX9_give 190 = .ok (.getfield 70, 3) := by decide +kernel
theorem dX9_give_193 : decode cX9_give 193 = .ok (.aload_n 0, 1) := by decide +kernel
theorem dX9_give_194 : decode cX9_give 194 = .ok (.getfield 203, 3) := by decide +kernel
theorem dX9_give_197 : decode cX9_give 197 = .ok (.iconst (-1), 1) := by decide +kernel
theorem dX9_give_198 : decode cX9_give 198 = .ok (.iastore, 1) := by decide +kernel
theorem dX9_give_199 : decode cX9_give 199 = .ok (.aload_n 0, 1) := by decide +kernel
theorem dX9_give_200 : decode cX9_give 200 = .ok (.getfield 73, 3) := by decide +kernel
theorem dX9_give_203 : decode cX9_give 203 = .ok (.aload_n 0, 1) := by decide +kernel
theorem dX9_give_204 : decode cX9_give 204 = .ok (.getfield 203, 3) := by decide +kernel
theorem dX9_give_207 : decode cX9_give 207 = .ok (.iconst (-1), 1) := by decide +kernel
theorem dX9_give_208 : decode cX9_give 208 = .ok (.iastore, 1) := by decide +kernel
theorem dX9_give_209 : decode cX9_give 209 = .ok (.aload_n 0, 1) := by decide +kernel
theorem dX9_give_210 : decode cX9_give 210 = .ok (.getfield 76, 3) := by decide +kernel
theorem dX9_give_213 : decode cX9_give 213 = .ok (.iconst 4, 1) := by decide +kernel
theorem dX9_give_214 : decode cX9_give 214 = .ok (.aload_n 0, 1) := by decide +kernel
theorem dX9_give_215 : decode cX9_give 215 = .ok (.getfield 203, 3) := by decide +kernel
theorem dX9_give_218 : decode cX9_give 218 = .ok (.imul, 1) := by decide +kernel
theorem dX9_give_219 : decode cX9_give 219 = .ok (.iconst 3, 1) := by decide +kernel
theorem dX9_give_220 : decode cX9_give 220 = .ok (.iadd, 1) := by decide +kernel
theorem dX9_give_221 : decode cX9_give 221 = .ok (.iconst 0, 1) := by decide +kernel
theorem dX9_give_222 : decode cX9_give 222 = .ok (.iastore, 1) := by decide +kernel
theorem dX9_give_223 : decode cX9_give 223 = .ok (.aload_n 0, 1) := by decide +kernel
theorem dX9_give_224 : decode cX9_give 224 = .ok (.dup, 1) := by decide +kernel
theorem dX9_give_225 : decode cX9_give 225 = .ok (.getfield 203, 3) := by decide +kernel
theorem dX9_give_228 : decode cX9_give 228 = .ok (.iconst 1, 1) := by decide +kernel
theorem dX9_give_229 : decode cX9_give 229 = .ok (.iadd, 1) := by decide +kernel
theorem dX9_give_230 : decode cX9_give 230 = .ok (.putfield 203, 3) := by decide +kernel
theorem dX9_give_233 : decode cX9_give 233 = .ok (.aload_n 0, 1) := by decide +kernel
theorem dX9_give_234 : decode cX9_give 234 = .ok (.getfield 203, 3) := by decide +kernel
theorem dX9_give_237 : decode cX9_give 237 = .ok (.iconst 1, 1) := by decide +kernel
theorem dX9_give_238 : decode cX9_give 238 = .ok (.isub, 1) := by decide +kernel
theorem dX9_give_239 : decode cX9_give 239 = .ok (.ireturn, 1) := by decide +kernel
theorem dX9_isGift_0 : decode cX9_isGift 0 = .ok (.iload_n 1, 1) := by decide +kernel
theorem dX9_isGift_1 : decode cX9_isGift 1 = .ok (.ifCond .lt 25, 3) := by decide +kernel
theorem dX9_isGift_4 : decode cX9_isGift 4 = .ok (.iload_n 1, 1) := by decide +kernel
theorem dX9_isGift_5 : decode cX9_isGift 5 = .ok (.aload_n 0, 1) := by decide +kernel
theorem dX9_isGift_6 : decode cX9_isGift 6 = .ok (.getfield 203, 3) := by decide +kernel
theorem dX9_isGift_9 : decode cX9_isGift 9 = .ok (.if_icmp .ge 17, 3) := by decide +kernel
theorem dX9_isGift_12 : decode cX9_isGift 12 = .ok (.aload_n 0, 1) := by decide +kernel
theorem dX9_isGift_13 : decode cX9_isGift 13 = .ok (.getfield 67, 3) := by decide +kernel
theorem dX9_isGift_16 : decode cX9_isGift 16 = .ok (.iload_n 1, 1) := by decide +kernel
theorem dX9_isGift_17 : decode cX9_isGift 17 = .ok (.iaload, 1) := by decide +kernel
theorem dX9_isGift_18 : decode cX9_isGift 18 = .ok (.iload_n 2, 1) := by decide +kernel
theorem dX9_isGift_19 : decode cX9_isGift 19 = .ok (.if_icmp .ne 7, 3) := by decide +kernel
theorem dX9_isGift_22 : decode cX9_isGift 22 = .ok (.iconst 1, 1) := by decide +kernel
theorem dX9_isGift_23 : decode cX9_isGift 23 = .ok (.goto 4, 3) := by decide +kernel
theorem dX9_isGift_26 : decode cX9_isGift 26 = .ok (.iconst 0, 1) := by decide +kernel
theorem dX9_isGift_27 : decode cX9_isGift 27 = .ok (.ireturn, 1) := by decide +kernel
theorem dX9_wishes_0 : decode cX9_wishes 0 = .ok (.iload_n 2, 1) := by decide +kernel
theorem dX9_wishes_1 : decode cX9_wishes 1 = .ok (.iconst (-1), 1) := by decide +kernel
theorem dX9_wishes_2 : decode cX9_wishes 2 = .ok (.iconst 3, 1) := by decide +kernel
theorem dX9_wishes_3 : decode cX9_wishes 3 = .ok (.invokestatic 100, 3) := by decide +kernel
theorem dX9_wishes_6 : decode cX9_wishes 6 = .ok (.ifCond .eq 34, 3) := by decide +kernel
theorem dX9_wishes_9 : decode cX9_wishes 9 = .ok (.iload_n 3, 1) := by decide +kernel
theorem dX9_wishes_10 : decode cX9_wishes 10 = .ok (.iconst 0, 1) := by decide +kernel
theorem dX9_wishes_11 : decode cX9_wishes 11 = .ok (.bipush 52, 2) := by decide +kernel
theorem dX9_wishes_13 : decode cX9_wishes 13 = .ok (.invokestatic 100, 3) := by decide +kernel
theorem dX9_wishes_16 : decode cX9_wishes 16 = .ok (.ifCond .eq 24, 3) := by decide +kernel
theorem dX9_wishes_19 : decode cX9_wishes 19 = .ok (.iload 4, 2) := by decide +kernel
theorem dX9_wishes_21 : decode cX9_wishes 21 = .ok (.iload_n 3, 1) := by decide +kernel
theorem dX9_wishes_22 : decode cX9_wishes 22 = .ok (.bipush 52, 2) := by decide +kernel
theorem dX9_wishes_24 : decode cX9_wishes 24 = .ok (.invokestatic 100, 3) := by decide +kernel
theorem dX9_wishes_27 : decode cX9_wishes 27 = .ok (.ifCond .eq 13, 3) := by decide +kernel
theorem dX9_wishes_30 : decode cX9_wishes 30 = .ok (.iload 5, 2) := by decide +kernel
theorem dX9_wishes_32 : decode cX9_wishes 32 = .ok (.iconst 1, 1) := by decide +kernel
theorem dX9_wishes_33 : decode cX9_wishes 33 = .ok (.iconst 4, 1) := by decide +kernel
theorem dX9_wishes_34 : decode cX9_wishes 34 = .ok (.invokestatic 100, 3) := by decide +kernel
theorem dX9_wishes_37 : decode cX9_wishes 37 = .ok (.ifCond .ne 5, 3) := by decide +kernel
theorem dX9_wishes_40 : decode cX9_wishes 40 = .ok (.iconst 0, 1) := by decide +kernel
theorem dX9_wishes_41 : decode cX9_wishes 41 = .ok (.ireturn, 1) := by decide +kernel
theorem dX9_wishes_42 : decode cX9_wishes 42 = .ok (.aload_n 0, 1) := by decide +kernel
theorem dX9_wishes_43 : decode cX9_wishes 43 = .ok (.getfield 76, 3) := by decide +kernel
theorem dX9_wishes_46 : decode cX9_wishes 46 = .ok (.iconst 4, 1) := by decide +kernel
theorem dX9_wishes_47 : decode cX9_wishes 47 = .ok (.iload_n 1, 1) := by decide +kernel
theorem dX9_wishes_48 : decode cX9_wishes 48 = .ok (.imul, 1) := by decide +kernel
theorem dX9_wishes_49 : decode cX9_wishes 49 = .ok (.iload_n 2, 1) := by decide +kernel
theorem dX9_wishes_50 : decode cX9_wishes 50 = .ok (.iastore, 1) := by decide +kernel
theorem dX9_wishes_51 : decode cX9_wishes 51 = .ok (.aload_n 0, 1) := by decide +kernel
theorem dX9_wishes_52 : decode cX9_wishes 52 = .ok (.getfield 76, 3) := by decide +kernel
theorem dX9_wishes_55 : decode cX9_wishes 55 = .ok (.iconst 4, 1) := by decide +kernel
theorem dX9_wishes_56 : decode cX9_wishes 56 = .ok (.iload_n 1, 1) := by decide +kernel
theorem dX9_wishes_57 : decode cX9_wishes 57 = .ok (.imul, 1) := by decide +kernel
theorem dX9_wishes_58 : decode cX9_wishes 58 = .ok (.iconst 1, 1) := by decide +kernel
theorem dX9_wishes_59 : decode cX9_wishes 59 = .ok (.iadd, 1) := by decide +kernel
theorem dX9_wishes_60 : decode cX9_wishes 60 = .ok (.iload_n 3, 1) := by decide +kernel
theorem dX9_wishes_61 : decode cX9_wishes 61 = .ok (.iastore, 1) := by decide +kernel
theorem dX9_wishes_62 : decode cX9_wishes 62 = .ok (.aload_n 0, 1) := by decide +kernel
theorem dX9_wishes_63 : decode cX9_wishes 63 = .ok (.getfield 76, 3) := by decide +kernel
theorem dX9_wishes_66 : decode cX9_wishes 66 = .ok (.iconst 4, 1) := by decide +kernel
theorem dX9_wishes_67 : decode cX9_wishes 67 = .ok (.iload_n 1, 1) := by decide +kernel
theorem dX9_wishes_68 : decode cX9_wishes 68 = .ok (.imul, 1) := by decide +kernel
theorem dX9_wishes_69 : decode cX9_wishes 69 = .ok (.iconst 2, 1) := by decide +kernel
theorem dX9_wishes_70 : decode cX9_wishes 70 = .ok (.iadd, 1) := by decide +kernel
theorem dX9_wishes_71 : decode cX9_wishes 71 = .ok (.iload 4, 2) := by decide +kernel
theorem dX9_wishes_73 : decode cX9_wishes 73 = .ok (.iastore, 1) := by decide +kernel
theorem dX9_wishes_74 : decode cX9_wishes 74 = .ok (.aload_n 0, 1) := by decide +kernel
theorem dX9_wishes_75 : decode cX9_wishes 75 = .ok (.getfield 76, 3) := by decide +kernel
theorem dX9_wishes_78 : decode cX9_wishes 78 = .ok (.iconst 4, 1) := by decide +kernel
theorem dX9_wishes_79 : decode cX9_wishes 79 = .ok (.iload_n 1, 1) := by decide +kernel
theorem dX9_wishes_80 : decode cX9_wishes 80 = .ok (.imul, 1) := by decide +kernel
theorem dX9_wishes_81 : decode cX9_wishes 81 = .ok (.iconst 3, 1) := by decide +kernel
theorem dX9_wishes_82 : decode cX9_wishes 82 = .ok (.iadd, 1) := by decide +kernel
theorem dX9_wishes_83 : decode cX9_wishes 83 = .ok (.iload 5, 2) := by decide +kernel
theorem dX9_wishes_85 : decode cX9_wishes 85 = .ok (.iastore, 1) := by decide +kernel
theorem dX9_wishes_86 : decode cX9_wishes 86 = .ok (.iconst 1, 1) := by decide +kernel
theorem dX9_wishes_87 : decode cX9_wishes 87 = .ok (.ireturn, 1) := by decide +kernel
theorem dX9_wish_0 : decode cX9_wish 0 = .ok (.aload_n 0, 1) := by decide +kernel
theorem dX9_wish_1 : decode cX9_wish 1 = .ok (.iconst 0, 1) := by decide +kernel
theorem dX9_wish_2 : decode cX9_wish 2 = .ok (.putfield 1, 3) := by decide +kernel
theorem dX9_wish_5 : decode cX9_wish 5 = .ok (.aload_n 0, 1) := by decide +kernel
theorem dX9_wish_6 : decode cX9_wish 6 = .ok (.iload_n 1, 1) := by decide +kernel
theorem dX9_wish_7 : decode cX9_wish 7 = .ok (.iconst 0, 1) := by decide +kernel
theorem dX9_wish_8 : decode cX9_wish 8 = .ok (.invokevirtual 212, 3) := by decide +kernel
theorem dX9_wish_11 : decode cX9_wish 11 = .ok (.ifCond .eq 21, 3) := by decide +kernel
theorem dX9_wish_14 : decode cX9_wish 14 = .ok (.aload_n 0, 1) := by decide +kernel
theorem dX9_wish_15 : decode cX9_wish 15 = .ok (.iload_n 1, 1) := by decide +kernel
theorem dX9_wish_16 : decode cX9_wish 16 = .ok (.iload_n 2, 1) := by decide +kernel
theorem dX9_wish_17 : decode cX9_wish 17 = .ok (.iload_n 3, 1) := by decide +kernel
theorem dX9_wish_18 : decode cX9_wish 18 = .ok (.iload 4, 2) := by decide +kernel
theorem dX9_wish_20 : decode cX9_wish 20 = .ok (.iload 5, 2) := by decide +kernel
theorem dX9_wish_22 : decode cX9_wish 22 = .ok (.invokevirtual 215, 3) := by decide +kernel
theorem dX9_wish_25 : decode cX9_wish 25 = .ok (.ifCond .eq 7, 3) := by decide +kernel
theorem dX9_wish_28 : decode cX9_wish 28 = .ok (.iconst 1, 1) := by decide +kernel
theorem dX9_wish_29 : decode cX9_wish 29 = .ok (.goto 4, 3) := by decide +kernel
theorem dX9_wish_32 : decode cX9_wish 32 = .ok (.iconst 0, 1) := by decide +kernel
theorem dX9_wish_33 : decode cX9_wish 33 = .ok (.ireturn, 1) := by decide +kernel
theorem dX9_rushWish_0 : decode cX9_rushWish 0 = .ok (.aload_n 0, 1) := by decide +kernel
theorem dX9_rushWish_1 : decode cX9_rushWish 1 = .ok (.iconst 0, 1) := by decide +kernel
theorem dX9_rushWish_2 : decode cX9_rushWish 2 = .ok (.putfield 1, 3) := by decide +kernel
theorem dX9_rushWish_5 : decode cX9_rushWish 5 = .ok (.aload_n 0, 1) := by decide +kernel
theorem dX9_rushWish_6 : decode cX9_rushWish 6 = .ok (.iload_n 1, 1) := by decide +kernel
theorem dX9_rushWish_7 : decode cX9_rushWish 7 = .ok (.invokevirtual 114, 3) := by decide +kernel
theorem dX9_rushWish_10 : decode cX9_rushWish 10 = .ok (.ifCond .eq 25, 3) := by decide +kernel
theorem dX9_rushWish_13 : decode cX9_rushWish 13 = .ok (.aload_n 0, 1) := by decide +kernel
theorem dX9_rushWish_14 : decode cX9_rushWish 14 = .ok (.sipush 200, 3) := by decide +kernel
theorem dX9_rushWish_17 : decode cX9_rushWish 17 = .ok (.iload_n 1, 1) := by decide +kernel
theorem dX9_rushWish_18 : decode cX9_rushWish 18 = .ok (.iadd, 1) := by decide +kernel
theorem dX9_rushWish_19 : decode cX9_rushWish 19 = .ok (.iload_n 2, 1) := by decide +kernel
theorem dX9_rushWish_20 : decode cX9_rushWish 20 = .ok (.iload_n 3, 1) := by decide +kernel
theorem dX9_rushWish_21 : decode cX9_rushWish 21 = .ok (.iload 4, 2) := by decide +kernel
theorem dX9_rushWish_23 : decode cX9_rushWish 23 = .ok (.iload 5, 2) := by decide +kernel
theorem dX9_rushWish_25 : decode cX9_rushWish 25 = .ok (.invokevirtual 215, 3) := by decide +kernel
theorem dX9_rushWish_28 : decode cX9_rushWish 28 = .ok (.ifCond .eq 7, 3) := by decide +kernel
theorem dX9_rushWish_31 : decode cX9_rushWish 31 = .ok (.iconst 1, 1) := by decide +kernel
theorem dX9_rushWish_32 : decode cX9_rushWish 32 = .ok (.goto 4, 3) := by decide +kernel
theorem dX9_rushWish_35 : decode cX9_rushWish 35 = .ok (.iconst 0, 1) := by decide +kernel
theorem dX9_rushWish_36 : decode cX9_rushWish 36 = .ok (.ireturn, 1) := by decide +kernel
theorem dX9_meets_0 : decode cX9_meets 0 = .ok (.iconst 4, 1) := by decide +kernel
theorem dX9_meets_1 : decode cX9_meets 1 = .ok (.iload_n 2, 1) := by decide +kernel
theorem dX9_meets_2 : decode cX9_meets 2 = .ok (.imul, 1) := by decide +kernel
theorem dX9_meets_3 : decode cX9_meets 3 = .ok (.istore_n 3, 1) := by decide +kernel
theorem dX9_meets_4 : decode cX9_meets 4 = .ok (.aload_n 0, 1) := by decide +kernel
theorem dX9_meets_5 : decode cX9_meets 5 = .ok (.getfield 76, 3) := by decide +kernel
theorem dX9_meets_8 : decode cX9_meets 8 = .ok (.iload_n 3, 1) := by decide +kernel
theorem dX9_meets_9 : decode cX9_meets 9 = .ok (.iconst 3, 1) := by decide +kernel
theorem dX9_meets_10 : decode cX9_meets 10 = .ok (.iadd, 1) := by decide +kernel
theorem dX9_meets_11 : decode cX9_meets 11 = .ok (.iaload, 1) := by decide +kernel
theorem dX9_meets_12 : decode cX9_meets 12 = .ok (.ifCond .eq 25, 3) := by decide +kernel
theorem dX9_meets_15 : decode cX9_meets 15 = .ok (.aload_n 0, 1) := by decide +kernel
theorem dX9_meets_16 : decode cX9_meets 16 = .ok (.getfield 17, 3) := by decide +kernel
theorem dX9_meets_19 : decode cX9_meets 19 = .ok (.aload_n 0, 1) := by decide +kernel
theorem dX9_meets_20 : decode cX9_meets 20 = .ok (.getfield 55, 3) := by decide +kernel
theorem dX9_meets_23 : decode cX9_meets 23 = .ok (.iload_n 1, 1) := by decide +kernel
theorem dX9_meets_24 : decode cX9_meets 24 = .ok (.iaload, 1) := by decide +kernel
theorem dX9_meets_25 : decode cX9_meets 25 = .ok (.iaload, 1) := by decide +kernel
theorem dX9_meets_26 : decode cX9_meets 26 = .ok (.aload_n 0, 1) := by decide +kernel
theorem dX9_meets_27 : decode cX9_meets 27 = .ok (.getfield 76, 3) := by decide +kernel
theorem dX9_meets_30 : decode cX9_meets 30 = .ok (.iload_n 3, 1) := by decide +kernel
theorem dX9_meets_31 : decode cX9_meets 31 = .ok (.iconst 3, 1) := by decide +kernel
theorem dX9_meets_32 : decode cX9_meets 32 = .ok (.iadd, 1) := by decide +kernel
theorem dX9_meets_33 : decode cX9_meets 33 = .ok (.iaload, 1) := by decide +kernel
theorem dX9_meets_34 : decode cX9_meets 34 = .ok (.if_icmp .ge 5, 3) := by decide +kernel
theorem dX9_meets_37 : decode cX9_meets 37 = .ok (.iconst 0, 1) := by decide +kernel
theorem dX9_meets_38 : decode cX9_meets 38 = .ok (.ireturn, 1) := by decide +kernel
theorem dX9_meets_39 : decode cX9_meets 39 = .ok (.aload_n 0, 1) := by decide +kernel
theorem dX9_meets_40 : decode cX9_meets 40 = .ok (.getfield 76, 3) := by decide +kernel
theorem dX9_meets_43 : decode cX9_meets 43 = .ok (.iload_n 3, 1) := by decide +kernel
theorem dX9_meets_44 : decode cX9_meets 44 = .ok (.iaload, 1) := by decide +kernel
theorem dX9_meets_45 : decode cX9_meets 45 = .ok (.iconst (-1), 1) := by decide +kernel
theorem dX9_meets_46 : decode cX9_meets 46 = .ok (.if_icmp .eq 25, 3) := by decide +kernel
theorem dX9_meets_49 : decode cX9_meets 49 = .ok (.aload_n 0, 1) := by decide +kernel
theorem dX9_meets_50 : decode cX9_meets 50 = .ok (.getfield 76, 3) := by decide +kernel
theorem dX9_meets_53 : decode cX9_meets 53 = .ok (.iload_n 3, 1) := by decide +kernel
theorem dX9_meets_54 : decode cX9_meets 54 = .ok (.iaload, 1) := by decide +kernel
theorem dX9_meets_55 : decode cX9_meets 55 = .ok (.aload_n 0, 1) := by decide +kernel
theorem dX9_meets_56 : decode cX9_meets 56 = .ok (.getfield 13, 3) := by decide +kernel
theorem dX9_meets_59 : decode cX9_meets 59 = .ok (.aload_n 0, 1) := by decide +kernel
theorem dX9_meets_60 : decode cX9_meets 60 = .ok (.getfield 55, 3) := by decide +kernel
theorem dX9_meets_63 : decode cX9_meets 63 = .ok (.iload_n 1, 1) := by decide +kernel
theorem dX9_meets_64 : decode cX9_meets 64 = .ok (.iaload, 1) := by decide +kernel
theorem dX9_meets_65 : decode cX9_meets 65 = .ok (.iaload, 1) := by decide +kernel
theorem dX9_meets_66 : decode cX9_meets 66 = .ok (.if_icmp .eq 5, 3) := by decide +kernel
theorem dX9_meets_69 : decode cX9_meets 69 = .ok (.iconst 0, 1) := by decide +kernel
theorem dX9_meets_70 : decode cX9_meets 70 = .ok (.ireturn, 1) := by decide +kernel
theorem dX9_meets_71 : decode cX9_meets 71 = .ok (.aload_n 0, 1) := by decide +kernel
theorem dX9_meets_72 : decode cX9_meets 72 = .ok (.getfield 58, 3) := by decide +kernel
theorem dX9_meets_75 : decode cX9_meets 75 = .ok (.iload_n 1, 1) := by decide +kernel
theorem dX9_meets_76 : decode cX9_meets 76 = .ok (.iaload, 1) := by decide +kernel
theorem dX9_meets_77 : decode cX9_meets 77 = .ok (.aload_n 0, 1) := by decide +kernel
theorem dX9_meets_78 : decode cX9_meets 78 = .ok (.getfield 76, 3) := by decide +kernel
theorem dX9_meets_81 : decode cX9_meets 81 = .ok (.iload_n 3, 1) := by decide +kernel
theorem dX9_meets_82 : decode cX9_meets 82 = .ok (.iconst 1, 1) := by decide +kernel
theorem dX9_meets_83 : decode cX9_meets 83 = .ok (.iadd, 1) := by decide +kernel
theorem dX9_meets_84 : decode cX9_meets 84 = .ok (.iaload, 1) := by decide +kernel
theorem dX9_meets_85 : decode cX9_meets 85 = .ok (.aload_n 0, 1) := by decide +kernel
theorem dX9_meets_86 : decode cX9_meets 86 = .ok (.getfield 76, 3) := by decide +kernel
theorem dX9_meets_89 : decode cX9_meets 89 = .ok (.iload_n 3, 1) := by decide +kernel
theorem dX9_meets_90 : decode cX9_meets 90 = .ok (.iconst 2, 1) := by decide +kernel
theorem dX9_meets_91 : decode cX9_meets 91 = .ok (.iadd, 1) := by decide +kernel
theorem dX9_meets_92 : decode cX9_meets 92 = .ok (.iaload, 1) := by decide +kernel
theorem dX9_meets_93 : decode cX9_meets 93 = .ok (.invokestatic 100, 3) := by decide +kernel
theorem dX9_meets_96 : decode cX9_meets 96 = .ok (.ireturn, 1) := by decide +kernel
theorem dX9_isShort_0 : decode cX9_isShort 0 = .ok (.iconst 1, 1) := by decide +kernel
theorem dX9_isShort_1 : decode cX9_isShort 1 = .ok (.istore_n 2, 1) := by decide +kernel
theorem dX9_isShort_2 : decode cX9_isShort 2 = .ok (.aload_n 0, 1) := by decide +kernel
theorem dX9_isShort_3 : decode cX9_isShort 3 = .ok (.getfield 82, 3) := by decide +kernel
theorem dX9_isShort_6 : decode cX9_isShort 6 = .ok (.iload_n 1, 1) := by decide +kernel
theorem dX9_isShort_7 : decode cX9_isShort 7 = .ok (.iaload, 1) := by decide +kernel
theorem dX9_isShort_8 : decode cX9_isShort 8 = .ok (.istore_n 3, 1) := by decide +kernel
theorem dX9_isShort_9 : decode cX9_isShort 9 = .ok (.iload_n 3, 1) := by decide +kernel
theorem dX9_isShort_10 : decode cX9_isShort 10 = .ok (.iload_n 1, 1) := by decide +kernel
theorem dX9_isShort_11 : decode cX9_isShort 11 = .ok (.if_icmp .eq 20, 3) := by decide +kernel
theorem dX9_isShort_14 : decode cX9_isShort 14 = .ok (.iload_n 3, 1) := by decide +kernel
theorem dX9_isShort_15 : decode cX9_isShort 15 = .ok (.ifCond .lt 16, 3) := by decide +kernel
theorem dX9_isShort_18 : decode cX9_isShort 18 = .ok (.iinc 2 1, 3) := by decide +kernel
theorem dX9_isShort_21 : decode cX9_isShort 21 = .ok (.aload_n 0, 1) := by decide +kernel
theorem dX9_isShort_22 : decode cX9_isShort 22 = .ok (.getfield 82, 3) := by decide +kernel
theorem dX9_isShort_25 : decode cX9_isShort 25 = .ok (.iload_n 3, 1) := by decide +kernel
theorem dX9_isShort_26 : decode cX9_isShort 26 = .ok (.iaload, 1) := by decide +kernel
theorem dX9_isShort_27 : decode cX9_isShort 27 = .ok (.istore_n 3, 1) := by decide +kernel
theorem dX9_isShort_28 : decode cX9_isShort 28 = .ok (.goto (-19), 3) := by decide +kernel
theorem dX9_isShort_31 : decode cX9_isShort 31 = .ok (.iload_n 2, 1) := by decide +kernel
theorem dX9_isShort_32 : decode cX9_isShort 32 = .ok (.aload_n 0, 1) := by decide +kernel
theorem dX9_isShort_33 : decode cX9_isShort 33 = .ok (.getfield 219, 3) := by decide +kernel
theorem dX9_isShort_36 : decode cX9_isShort 36 = .ok (.if_icmp .gt 7, 3) := by decide +kernel
theorem dX9_isShort_39 : decode cX9_isShort 39 = .ok (.iconst 1, 1) := by decide +kernel
theorem dX9_isShort_40 : decode cX9_isShort 40 = .ok (.goto 4, 3) := by decide +kernel
theorem dX9_isShort_43 : decode cX9_isShort 43 = .ok (.iconst 0, 1) := by decide +kernel
theorem dX9_isShort_44 : decode cX9_isShort 44 = .ok (.ireturn, 1) := by decide +kernel
theorem dX9_chooses_0 : decode cX9_chooses 0 = .ok (.iload_n 2, 1) := by decide +kernel
theorem dX9_chooses_1 : decode cX9_chooses 1 = .ok (.aload_n 0, 1) := by decide +kernel
theorem dX9_chooses_2 : decode cX9_chooses 2 = .ok (.getfield 222, 3) := by decide +kernel
theorem dX9_chooses_5 : decode cX9_chooses 5 = .ok (.iadd, 1) := by decide +kernel
theorem dX9_chooses_6 : decode cX9_chooses 6 = .ok (.iload_n 1, 1) := by decide +kernel
theorem dX9_chooses_7 : decode cX9_chooses 7 = .ok (.isub, 1) := by decide +kernel
theorem dX9_chooses_8 : decode cX9_chooses 8 = .ok (.istore 5, 2) := by decide +kernel
theorem dX9_chooses_10 : decode cX9_chooses 10 = .ok (.iload 5, 2) := by decide +kernel
theorem dX9_chooses_12 : decode cX9_chooses 12 = .ok (.aload_n 0, 1) := by decide +kernel
theorem dX9_chooses_13 : decode cX9_chooses 13 = .ok (.getfield 225, 3) := by decide +kernel
theorem dX9_chooses_16 : decode cX9_chooses 16 = .ok (.if_icmp .lt 23, 3) := by decide +kernel
theorem dX9_chooses_19 : decode cX9_chooses 19 = .ok (.iload 5, 2) := by decide +kernel
theorem dX9_chooses_21 : decode cX9_chooses 21 = .ok (.aload_n 0, 1) := by decide +kernel
theorem dX9_chooses_22 : decode cX9_chooses 22 = .ok (.getfield 225, 3) := by decide +kernel
theorem dX9_chooses_25 : decode cX9_chooses 25 = .ok (.if_icmp .ne 15, 3) := by decide +kernel
theorem dX9_chooses_28 : decode cX9_chooses 28 = .ok (.iload 4, 2) := by decide +kernel
theorem dX9_chooses_30 : decode cX9_chooses 30 = .ok (.iload_n 3, 1) := by decide +kernel
theorem dX9_chooses_31 : decode cX9_chooses 31 = .ok (.isub, 1) := by decide +kernel
theorem dX9_chooses_32 : decode cX9_chooses 32 = .ok (.aload_n 0, 1) := by decide +kernel
theorem dX9_chooses_33 : decode cX9_chooses 33 = .ok (.getfield 228, 3) := by decide +kernel
theorem dX9_chooses_36 : decode cX9_chooses 36 = .ok (.if_icmp .gt 4, 3) := by decide +kernel
theorem dX9_chooses_39 : decode cX9_chooses 39 = .ok (.return_, 1) := by decide +kernel
theorem dX9_chooses_40 : decode cX9_chooses 40 = .ok (.iload_n 1, 1) := by decide +kernel
theorem dX9_chooses_41 : decode cX9_chooses 41 = .ok (.aload_n 0, 1) := by decide +kernel
theorem dX9_chooses_42 : decode cX9_chooses 42 = .ok (.getfield 222, 3) := by decide +kernel
theorem dX9_chooses_45 : decode cX9_chooses 45 = .ok (.if_icmp .ne 49, 3) := by decide +kernel
theorem dX9_chooses_48 : decode cX9_chooses 48 = .ok (.aload_n 0, 1) := by decide +kernel
theorem dX9_chooses_49 : decode cX9_chooses 49 = .ok (.iload_n 2, 1) := by decide +kernel
theorem dX9_chooses_50 : decode cX9_chooses 50 = .ok (.putfield 225, 3) := by decide +kernel
theorem dX9_chooses_53 : decode cX9_chooses 53 = .ok (.aload_n 0, 1) := by decide +kernel
theorem dX9_chooses_54 : decode cX9_chooses 54 = .ok (.iload 4, 2) := by decide +kernel
theorem dX9_chooses_56 : decode cX9_chooses 56 = .ok (.iload_n 3, 1) := by decide +kernel
theorem dX9_chooses_57 : decode cX9_chooses 57 = .ok (.isub, 1) := by decide +kernel
theorem dX9_chooses_58 : decode cX9_chooses 58 = .ok (.putfield 228, 3) := by decide +kernel
theorem dX9_chooses_61 : decode cX9_chooses 61 = .ok (.iconst 0, 1) := by decide +kernel
theorem dX9_chooses_62 : decode cX9_chooses 62 = .ok (.istore 6, 2) := by decide +kernel
theorem dX9_chooses_64 : decode cX9_chooses 64 = .ok (.iload 6, 2) := by decide +kernel
theorem dX9_chooses_66 : decode cX9_chooses 66 = .ok (.aload_n 0, 1) := by decide +kernel
theorem dX9_chooses_67 : decode cX9_chooses 67 = .ok (.getfield 222, 3) := by decide +kernel
theorem dX9_chooses_70 : decode cX9_chooses 70 = .ok (.if_icmp .ge 23, 3) := by decide +kernel
theorem dX9_chooses_73 : decode cX9_chooses 73 = .ok (.aload_n 0, 1) := by decide +kernel
theorem dX9_chooses_74 : decode cX9_chooses 74 = .ok (.getfield 85, 3) := by decide +kernel
theorem dX9_chooses_77 : decode cX9_chooses 77 = .ok (.iload 6, 2) := by decide +kernel
theorem dX9_chooses_79 : decode cX9_chooses 79 = .ok (.aload_n 0, 1) := by decide +kernel
theorem dX9_chooses_80 : decode cX9_chooses 80 = .ok (.getfield 82, 3) := by decide +kernel
theorem dX9_chooses_83 : decode cX9_chooses 83 = .ok (.iload 6, 2) := by decide +kernel
theorem dX9_chooses_85 : decode cX9_chooses 85 = .ok (.iaload, 1) := by decide +kernel
theorem dX9_chooses_86 : decode cX9_chooses 86 = .ok (.iastore, 1) := by decide +kernel
theorem dX9_chooses_87 : decode cX9_chooses 87 = .ok (.iinc 6 1, 3) := by decide +kernel
theorem dX9_chooses_90 : decode cX9_chooses 90 = .ok (.goto (-26), 3) := by decide +kernel
theorem dX9_chooses_93 : decode cX9_chooses 93 = .ok (.return_, 1) := by decide +kernel
theorem dX9_chooses_94 : decode cX9_chooses 94 = .ok (.iconst 0, 1) := by decide +kernel
theorem dX9_chooses_95 : decode cX9_chooses 95 = .ok (.istore 6, 2) := by decide +kernel
theorem dX9_chooses_97 : decode cX9_chooses 97 = .ok (.iload 6, 2) := by decide +kernel
theorem dX9_chooses_99 : decode cX9_chooses 99 = .ok (.aload_n 0, 1) := by decide +kernel
theorem dX9_chooses_100 : decode cX9_chooses 100 = .ok (.getfield 222, 3) := by decide +kernel
theorem dX9_chooses_103 : decode cX9_chooses 103 = .ok (.if_icmp .ge 130, 3) := by decide +kernel
theorem dX9_chooses_106 : decode cX9_chooses 106 = .ok (.iload 6, 2) := by decide +kernel
theorem dX9_chooses_108 : decode cX9_chooses 108 = .ok (.iload_n 1, 1) := by decide +kernel
theorem dX9_chooses_109 : decode cX9_chooses 109 = .ok (.if_icmp .eq 54, 3) := by decide +kernel
theorem dX9_chooses_112 : decode cX9_chooses 112 = .ok (.aload_n 0, 1) := by decide +kernel
theorem dX9_chooses_113 : decode cX9_chooses 113 = .ok (.getfield 88, 3) := by decide +kernel
theorem dX9_chooses_116 : decode cX9_chooses 116 = .ok (.iload 6, 2) := by decide +kernel
theorem dX9_chooses_118 : decode cX9_chooses 118 = .ok (.baload, 1) := by decide +kernel
theorem dX9_chooses_119 : decode cX9_chooses 119 = .ok (.ifCond .ne 44, 3) := by decide +kernel
theorem dX9_chooses_122 : decode cX9_chooses 122 = .ok (.iload 6, 2) := by decide +kernel
theorem dX9_chooses_124 : decode cX9_chooses 124 = .ok (.iload_n 1, 1) := by decide +kernel
theorem dX9_chooses_125 : decode cX9_chooses 125 = .ok (.if_icmp .gt 14, 3) := by decide +kernel
theorem dX9_chooses_128 : decode cX9_chooses 128 = .ok (.aload_n 0, 1) := by decide +kernel
theorem dX9_chooses_129 : decode cX9_chooses 129 = .ok (.getfield 82, 3) := by decide +kernel
theorem dX9_chooses_132 : decode cX9_chooses 132 = .ok (.iload 6, 2) := by decide +kernel
theorem dX9_chooses_134 : decode cX9_chooses 134 = .ok (.iaload, 1) := by decide +kernel
theorem dX9_chooses_135 : decode cX9_chooses 135 = .ok (.iconst (-1), 1) := by decide +kernel
theorem dX9_chooses_136 : decode cX9_chooses 136 = .ok (.if_icmp .eq 27, 3) := by decide +kernel
theorem dX9_chooses_139 : decode cX9_chooses 139 = .ok (.aload_n 0, 1) := by decide +kernel
theorem dX9_chooses_140 : decode cX9_chooses 140 = .ok (.aload_n 0, 1) := by decide +kernel
theorem dX9_chooses_141 : decode cX9_chooses 141 = .ok (.getfield 79, 3) := by decide +kernel
theorem dX9_chooses_144 : decode cX9_chooses 144 = .ok (.iload 6, 2) := by decide +kernel
theorem dX9_chooses_146 : decode cX9_chooses 146 = .ok (.iaload, 1) := by decide +kernel
theorem dX9_chooses_147 : decode cX9_chooses 147 = .ok (.aload_n 0, 1) := by decide +kernel
theorem dX9_chooses_148 : decode cX9_chooses 148 = .ok (.getfield 79, 3) := by decide +kernel
theorem dX9_chooses_151 : decode cX9_chooses 151 = .ok (.iload_n 1, 1) := by decide +kernel
theorem dX9_chooses_152 : decode cX9_chooses 152 = .ok (.iaload, 1) := by decide +kernel
theorem dX9_chooses_153 : decode cX9_chooses 153 = .ok (.invokevirtual 231, 3) := by decide +kernel
theorem dX9_chooses_156 : decode cX9_chooses 156 = .ok (.ifCond .eq 7, 3) := by decide +kernel
theorem dX9_chooses_159 : decode cX9_chooses 159 = .ok (.iconst 1, 1) := by decide +kernel
theorem dX9_chooses_160 : decode cX9_chooses 160 = .ok (.goto 4, 3) := by decide +kernel
theorem dX9_chooses_163 : decode cX9_chooses 163 = .ok (.iconst 0, 1) := by decide +kernel
theorem dX9_chooses_164 : decode cX9_chooses 164 = .ok (.istore 7, 2) := by decide +kernel
theorem dX9_chooses_166 : decode cX9_chooses 166 = .ok (.iload 7, 2) := by decide +kernel
theorem dX9_chooses_168 : decode cX9_chooses 168 = .ok (.ifCond .ne 6, 3) := by decide +kernel
theorem dX9_chooses_171 : decode cX9_chooses 171 = .ok (.goto 56, 3) := by decide +kernel
theorem dX9_chooses_174 : decode cX9_chooses 174 = .ok (.aload_n 0, 1) := by decide +kernel
theorem dX9_chooses_175 : decode cX9_chooses 175 = .ok (.getfield 82, 3) := by decide +kernel
theorem dX9_chooses_178 : decode cX9_chooses 178 = .ok (.iload_n 1, 1) := by decide +kernel
theorem dX9_chooses_179 : decode cX9_chooses 179 = .ok (.iload 6, 2) := by decide +kernel
theorem dX9_chooses_181 : decode cX9_chooses 181 = .ok (.iastore, 1) := by decide +kernel
theorem dX9_chooses_182 : decode cX9_chooses 182 = .ok (.aload_n 0, 1) := by decide +kernel
theorem dX9_chooses_183 : decode cX9_chooses 183 = .ok (.getfield 88, 3) := by decide +kernel
theorem dX9_chooses_186 : decode cX9_chooses 186 = .ok (.iload 6, 2) := by decide +kernel
theorem dX9_chooses_188 : decode cX9_chooses 188 = .ok (.iconst 1, 1) := by decide +kernel
theorem dX9_chooses_189 : decode cX9_chooses 189 = .ok (.bastore, 1) := by decide +kernel
theorem dX9_chooses_190 : decode cX9_chooses 190 = .ok (.aload_n 0, 1) := by decide +kernel
theorem dX9_chooses_191 : decode cX9_chooses 191 = .ok (.iload_n 1, 1) := by decide +kernel
theorem dX9_chooses_192 : decode cX9_chooses 192 = .ok (.invokevirtual 234, 3) := by decide +kernel
theorem dX9_chooses_195 : decode cX9_chooses 195 = .ok (.ifCond .eq 24, 3) := by decide +kernel
theorem dX9_chooses_198 : decode cX9_chooses 198 = .ok (.aload_n 0, 1) := by decide +kernel
theorem dX9_chooses_199 : decode cX9_chooses 199 = .ok (.iload_n 1, 1) := by decide +kernel
theorem dX9_chooses_200 : decode cX9_chooses 200 = .ok (.invokevirtual 237, 3) := by decide +kernel
theorem dX9_chooses_203 : decode cX9_chooses 203 = .ok (.ifCond .eq 16, 3) := by decide +kernel
theorem dX9_chooses_206 : decode cX9_chooses 206 = .ok (.aload_n 0, 1) := by decide +kernel
theorem dX9_chooses_207 : decode cX9_chooses 207 = .ok (.iload_n 1, 1) := by decide +kernel
theorem dX9_chooses_208 : decode cX9_chooses 208 = .ok (.iconst 1, 1) := by decide +kernel
theorem dX9_chooses_209 : decode cX9_chooses 209 = .ok (.iadd, 1) := by decide +kernel
theorem dX9_chooses_210 : decode cX9_chooses 210 = .ok (.iload_n 2, 1) := by decide +kernel
theorem dX9_chooses_211 : decode cX9_chooses 211 = .ok (.iconst 1, 1) := by decide +kernel
theorem dX9_chooses_212 : decode cX9_chooses 212 = .ok (.iadd, 1) := by decide +kernel
theorem dX9_chooses_213 : decode cX9_chooses 213 = .ok (.iload_n 3, 1) := by decide +kernel
theorem dX9_chooses_214 : decode cX9_chooses 214 = .ok (.iload 4, 2) := by decide +kernel
theorem dX9_chooses_216 : decode cX9_chooses 216 = .ok (.invokevirtual 240, 3) := by decide +kernel
theorem dX9_chooses_219 : decode cX9_chooses 219 = .ok (.aload_n 0, 1) := by decide +kernel
theorem dX9_chooses_220 : decode cX9_chooses 220 = .ok (.getfield 88, 3) := by decide +kernel
theorem dX9_chooses_223 : decode cX9_chooses 223 = .ok (.iload 6, 2) := by decide +kernel
theorem dX9_chooses_225 : decode cX9_chooses 225 = .ok (.iconst 0, 1) := by decide +kernel
theorem dX9_chooses_226 : decode cX9_chooses 226 = .ok (.bastore, 1) := by decide +kernel
theorem dX9_chooses_227 : decode cX9_chooses 227 = .ok (.iinc 6 1, 3) := by decide +kernel
theorem dX9_chooses_230 : decode cX9_chooses 230 = .ok (.goto (-133), 3) := by decide +kernel
theorem dX9_chooses_233 : decode cX9_chooses 233 = .ok (.aload_n 0, 1) := by decide +kernel
theorem dX9_chooses_234 : decode cX9_chooses 234 = .ok (.getfield 82, 3) := by decide +kernel
theorem dX9_chooses_237 : decode cX9_chooses 237 = .ok (.iload_n 1, 1) := by decide +kernel
theorem dX9_chooses_238 : decode cX9_chooses 238 = .ok (.iconst (-1), 1) := by decide +kernel
theorem dX9_chooses_239 : decode cX9_chooses 239 = .ok (.iastore, 1) := by decide +kernel
theorem dX9_chooses_240 : decode cX9_chooses 240 = .ok (.aload_n 0, 1) := by decide +kernel
theorem dX9_chooses_241 : decode cX9_chooses 241 = .ok (.getfield 88, 3) := by decide +kernel
theorem dX9_chooses_244 : decode cX9_chooses 244 = .ok (.iload_n 1, 1) := by decide +kernel
theorem dX9_chooses_245 : decode cX9_chooses 245 = .ok (.baload, 1) := by decide +kernel
theorem dX9_chooses_246 : decode cX9_chooses 246 = .ok (.ifCond .ne 26, 3) := by decide +kernel
theorem dX9_chooses_249 : decode cX9_chooses 249 = .ok (.aload_n 0, 1) := by decide +kernel
theorem dX9_chooses_250 : decode cX9_chooses 250 = .ok (.iload_n 1, 1) := by decide +kernel
theorem dX9_chooses_251 : decode cX9_chooses 251 = .ok (.iconst 1, 1) := by decide +kernel
theorem dX9_chooses_252 : decode cX9_chooses 252 = .ok (.iadd, 1) := by decide +kernel
theorem dX9_chooses_253 : decode cX9_chooses 253 = .ok (.iload_n 2, 1) := by decide +kernel
theorem dX9_chooses_254 : decode cX9_chooses 254 = .ok (.iload_n 3, 1) := by decide +kernel
theorem dX9_chooses_255 : decode cX9_chooses 255 = .ok (.aload_n 0, 1) := by decide +kernel
theorem dX9_chooses_256 : decode cX9_chooses 256 = .ok (.getfield 64, 3) := by decide +kernel
theorem dX9_chooses_259 : decode cX9_chooses 259 = .ok (.aload_n 0, 1) := by decide +kernel
theorem dX9_chooses_260 : decode cX9_chooses 260 = .ok (.getfield 79, 3) := by decide +kernel
theorem dX9_chooses_263 : decode cX9_chooses 263 = .ok (.iload_n 1, 1) := by decide +kernel
theorem dX9_chooses_264 : decode cX9_chooses 264 = .ok (.iaload, 1) := by decide +kernel
theorem dX9_chooses_265 : decode cX9_chooses 265 = .ok (.iaload, 1) := by decide +kernel
theorem dX9_chooses_266 : decode cX9_chooses 266 = .ok (.iadd, 1) := by decide +kernel
theorem dX9_chooses_267 : decode cX9_chooses 267 = .ok (.iload 4, 2) := by decide +kernel
theorem dX9_chooses_269 : decode cX9_chooses 269 = .ok (.invokevirtual 240, 3) := by decide +kernel
theorem dX9_chooses_272 : decode cX9_chooses 272 = .ok (.aload_n 0, 1) := by decide +kernel
theorem dX9_chooses_273 : decode cX9_chooses 273 = .ok (.getfield 82, 3) := by decide +kernel
theorem dX9_chooses_276 : decode cX9_chooses 276 = .ok (.iload_n 1, 1) := by decide +kernel
theorem dX9_chooses_277 : decode cX9_chooses 277 = .ok (.bipush (-2), 2) := by decide +kernel
theorem dX9_chooses_279 : decode cX9_chooses 279 = .ok (.iastore, 1) := by decide +kernel
theorem dX9_chooses_280 : decode cX9_chooses 280 = .ok (.return_, 1) := by decide +kernel
theorem dX9_isEven_0 : decode cX9_isEven 0 = .ok (.iconst 0, 1) := by decide +kernel
theorem dX9_isEven_1 : decode cX9_isEven 1 = .ok (.istore_n 2, 1) := by decide +kernel
theorem dX9_isEven_2 : decode cX9_isEven 2 = .ok (.iload_n 1, 1) := by decide +kernel
theorem dX9_isEven_3 : decode cX9_isEven 3 = .ok (.istore_n 3, 1) := by decide +kernel
theorem dX9_isEven_4 : decode cX9_isEven 4 = .ok (.iconst 1, 1) := by decide +kernel
theorem dX9_isEven_5 : decode cX9_isEven 5 = .ok (.istore 4, 2) := by decide +kernel
theorem dX9_isEven_7 : decode cX9_isEven 7 = .ok (.iload 4, 2) := by decide +kernel
theorem dX9_isEven_9 : decode cX9_isEven 9 = .ok (.ifCond .eq 80, 3) := by decide +kernel
theorem dX9_isEven_12 : decode cX9_isEven 12 = .ok (.iconst (-1), 1) := by decide +kernel
theorem dX9_isEven_13 : decode cX9_isEven 13 = .ok (.istore 5, 2) := by decide +kernel
theorem dX9_isEven_15 : decode cX9_isEven 15 = .ok (.iconst 0, 1) := by decide +kernel
theorem dX9_isEven_16 : decode cX9_isEven 16 = .ok (.istore 6, 2) := by decide +kernel
theorem dX9_isEven_18 : decode cX9_isEven 18 = .ok (.iload 6, 2) := by decide +kernel
theorem dX9_isEven_20 : decode cX9_isEven 20 = .ok (.aload_n 0, 1) := by decide +kernel
theorem dX9_isEven_21 : decode cX9_isEven 21 = .ok (.getfield 222, 3) := by decide +kernel
theorem dX9_isEven_24 : decode cX9_isEven 24 = .ok (.if_icmp .ge 24, 3) := by decide +kernel
theorem dX9_isEven_27 : decode cX9_isEven 27 = .ok (.aload_n 0, 1) := by decide +kernel
theorem dX9_isEven_28 : decode cX9_isEven 28 = .ok (.getfield 82, 3) := by decide +kernel
theorem dX9_isEven_31 : decode cX9_isEven 31 = .ok (.iload 6, 2) := by decide +kernel
theorem dX9_isEven_33 : decode cX9_isEven 33 = .ok (.iaload, 1) := by decide +kernel
theorem dX9_isEven_34 : decode cX9_isEven 34 = .ok (.iload_n 3, 1) := by decide +kernel
theorem dX9_isEven_35 : decode cX9_isEven 35 = .ok (.if_icmp .ne 7, 3) := by decide +kernel
theorem dX9_isEven_38 : decode cX9_isEven 38 = .ok (.iload 6, 2) := by decide +kernel
theorem dX9_isEven_40 : decode cX9_isEven 40 = .ok (.istore 5, 2) := by decide +kernel
theorem dX9_isEven_42 : decode cX9_isEven 42 = .ok (.iinc 6 1, 3) := by decide +kernel
theorem dX9_isEven_45 : decode cX9_isEven 45 = .ok (.goto (-27), 3) := by decide +kernel
theorem dX9_isEven_48 : decode cX9_isEven 48 = .ok (.iload 5, 2) := by decide +kernel
theorem dX9_isEven_50 : decode cX9_isEven 50 = .ok (.iconst (-1), 1) := by decide +kernel
theorem dX9_isEven_51 : decode cX9_isEven 51 = .ok (.if_icmp .eq 13, 3) := by decide +kernel
theorem dX9_isEven_54 : decode cX9_isEven 54 = .ok (.iload 5, 2) := by decide +kernel
theorem dX9_isEven_56 : decode cX9_isEven 56 = .ok (.iload_n 1, 1) := by decide +kernel
theorem dX9_isEven_57 : decode cX9_isEven 57 = .ok (.if_icmp .eq 7, 3) := by decide +kernel
theorem dX9_isEven_60 : decode cX9_isEven 60 = .ok (.iconst 1, 1) := by decide +kernel
theorem dX9_isEven_61 : decode cX9_isEven 61 = .ok (.goto 4, 3) := by decide +kernel
theorem dX9_isEven_64 : decode cX9_isEven 64 = .ok (.iconst 0, 1) := by decide +kernel
theorem dX9_isEven_65 : decode cX9_isEven 65 = .ok (.istore 4, 2) := by decide +kernel
theorem dX9_isEven_67 : decode cX9_isEven 67 = .ok (.iload 4, 2) := by decide +kernel
theorem dX9_isEven_69 : decode cX9_isEven 69 = .ok (.ifCond .eq 9, 3) := by decide +kernel
theorem dX9_isEven_72 : decode cX9_isEven 72 = .ok (.iload 5, 2) := by decide +kernel
theorem dX9_isEven_74 : decode cX9_isEven 74 = .ok (.istore_n 3, 1) := by decide +kernel
theorem dX9_isEven_75 : decode cX9_isEven 75 = .ok (.iinc 2 1, 3) := by decide +kernel
theorem dX9_isEven_78 : decode cX9_isEven 78 = .ok (.iload 5, 2) := by decide +kernel
theorem dX9_isEven_80 : decode cX9_isEven 80 = .ok (.iload_n 1, 1) := by decide +kernel
theorem dX9_isEven_81 : decode cX9_isEven 81 = .ok (.if_icmp .ne 5, 3) := by decide +kernel
theorem dX9_isEven_84 : decode cX9_isEven 84 = .ok (.iconst 1, 1) := by decide +kernel
theorem dX9_isEven_85 : decode cX9_isEven 85 = .ok (.ireturn, 1) := by decide +kernel
theorem dX9_isEven_86 : decode cX9_isEven 86 = .ok (.goto (-79), 3) := by decide +kernel
theorem dX9_isEven_89 : decode cX9_isEven 89 = .ok (.iconst 0, 1) := by decide +kernel
theorem dX9_isEven_90 : decode cX9_isEven 90 = .ok (.istore 5, 2) := by decide +kernel
theorem dX9_isEven_92 : decode cX9_isEven 92 = .ok (.iload_n 3, 1) := by decide +kernel
theorem dX9_isEven_93 : decode cX9_isEven 93 = .ok (.istore 6, 2) := by decide +kernel
theorem dX9_isEven_95 : decode cX9_isEven 95 = .ok (.iload 6, 2) := by decide +kernel
theorem dX9_isEven_97 : decode cX9_isEven 97 = .ok (.ifCond .lt 25, 3) := by decide +kernel
theorem dX9_isEven_100 : decode cX9_isEven 100 = .ok (.iload 5, 2) := by decide +kernel
theorem dX9_isEven_102 : decode cX9_isEven 102 = .ok (.bipush 9, 2) := by decide +kernel
theorem dX9_isEven_104 : decode cX9_isEven 104 = .ok (.if_icmp .gt 18, 3) := by decide +kernel
theorem dX9_isEven_107 : decode cX9_isEven 107 = .ok (.iinc 5 1, 3) := by decide +kernel
theorem dX9_isEven_110 : decode cX9_isEven 110 = .ok (.aload_n 0, 1) := by decide +kernel
theorem dX9_isEven_111 : decode cX9_isEven 111 = .ok (.getfield 82, 3) := by decide +kernel
theorem dX9_isEven_114 : decode cX9_isEven 114 = .ok (.iload 6, 2) := by decide +kernel
theorem dX9_isEven_116 : decode cX9_isEven 116 = .ok (.iaload, 1) := by decide +kernel
theorem dX9_isEven_117 : decode cX9_isEven 117 = .ok (.istore 6, 2) := by decide +kernel
theorem dX9_isEven_119 : decode cX9_isEven 119 = .ok (.goto (-24), 3) := by decide +kernel
theorem dX9_isEven_122 : decode cX9_isEven 122 = .ok (.iload 5, 2) := by decide +kernel
theorem dX9_isEven_124 : decode cX9_isEven 124 = .ok (.aload_n 0, 1) := by decide +kernel
theorem dX9_isEven_125 : decode cX9_isEven 125 = .ok (.getfield 219, 3) := by decide +kernel
theorem dX9_isEven_128 : decode cX9_isEven 128 = .ok (.if_icmp .gt 7, 3) := by decide +kernel
theorem dX9_isEven_131 : decode cX9_isEven 131 = .ok (.iconst 1, 1) := by decide +kernel
theorem dX9_isEven_132 : decode cX9_isEven 132 = .ok (.goto 4, 3) := by decide +kernel
theorem dX9_isEven_135 : decode cX9_isEven 135 = .ok (.iconst 0, 1) := by decide +kernel
theorem dX9_isEven_136 : decode cX9_isEven 136 = .ok (.ireturn, 1) := by decide +kernel
theorem dX9_rings_0 : decode cX9_rings 0 = .ok (.aload_n 0, 1) := by decide +kernel
theorem dX9_rings_1 : decode cX9_rings 1 = .ok (.iconst 0, 1) := by decide +kernel
theorem dX9_rings_2 : decode cX9_rings 2 = .ok (.putfield 1, 3) := by decide +kernel
theorem dX9_rings_5 : decode cX9_rings 5 = .ok (.iload_n 1, 1) := by decide +kernel
theorem dX9_rings_6 : decode cX9_rings 6 = .ok (.iconst 2, 1) := by decide +kernel
theorem dX9_rings_7 : decode cX9_rings 7 = .ok (.bipush 9, 2) := by decide +kernel
theorem dX9_rings_9 : decode cX9_rings 9 = .ok (.invokestatic 100, 3) := by decide +kernel
theorem dX9_rings_12 : decode cX9_rings 12 = .ok (.ifCond .ne 5, 3) := by decide +kernel
theorem dX9_rings_15 : decode cX9_rings 15 = .ok (.iconst (-1), 1) := by decide +kernel
theorem dX9_rings_16 : decode cX9_rings 16 = .ok (.ireturn, 1) := by decide +kernel
theorem dX9_rings_17 : decode cX9_rings 17 = .ok (.aload_n 0, 1) := by decide +kernel
theorem dX9_rings_18 : decode cX9_rings 18 = .ok (.iconst 0, 1) := by decide +kernel
theorem dX9_rings_19 : decode cX9_rings 19 = .ok (.putfield 222, 3) := by decide +kernel
theorem dX9_rings_22 : decode cX9_rings 22 = .ok (.aload_n 0, 1) := by decide +kernel
theorem dX9_rings_23 : decode cX9_rings 23 = .ok (.iload_n 1, 1) := by decide +kernel
theorem dX9_rings_24 : decode cX9_rings 24 = .ok (.putfield 219, 3) := by decide +kernel
theorem dX9_rings_27 : decode cX9_rings 27 = .ok (.iconst 0, 1) := by decide +kernel
theorem dX9_rings_28 : decode cX9_rings 28 = .ok (.istore_n 2, 1) := by decide +kernel
theorem dX9_rings_29 : decode cX9_rings 29 = .ok (.iconst 0, 1) := by decide +kernel
theorem dX9_rings_30 : decode cX9_rings 30 = .ok (.istore_n 3, 1) := by decide +kernel
theorem dX9_rings_31 : decode cX9_rings 31 = .ok (.iload_n 3, 1) := by decide +kernel
theorem dX9_rings_32 : decode cX9_rings 32 = .ok (.aload_n 0, 1) := by decide +kernel
theorem dX9_rings_33 : decode cX9_rings 33 = .ok (.getfield 203, 3) := by decide +kernel
theorem dX9_rings_36 : decode cX9_rings 36 = .ok (.if_icmp .ge 71, 3) := by decide +kernel
theorem dX9_rings_39 : decode cX9_rings 39 = .ok (.aload_n 0, 1) := by decide +kernel
theorem dX9_rings_40 : decode cX9_rings 40 = .ok (.getfield 67, 3) := by decide +kernel
theorem dX9_rings_43 : decode cX9_rings 43 = .ok (.iload_n 3, 1) := by decide +kernel
theorem dX9_rings_44 : decode cX9_rings 44 = .ok (.iaload, 1) := by decide +kernel
theorem dX9_rings_45 : decode cX9_rings 45 = .ok (.ifCond .eq 6, 3) := by decide +kernel
theorem dX9_rings_48 : decode cX9_rings 48 = .ok (.goto 53, 3) := by decide +kernel
theorem dX9_rings_51 : decode cX9_rings 51 = .ok (.aload_n 0, 1) := by decide +kernel
theorem dX9_rings_52 : decode cX9_rings 52 = .ok (.getfield 79, 3) := by decide +kernel
theorem dX9_rings_55 : decode cX9_rings 55 = .ok (.aload_n 0, 1) := by decide +kernel
theorem dX9_rings_56 : decode cX9_rings 56 = .ok (.getfield 222, 3) := by decide +kernel
theorem dX9_rings_59 : decode cX9_rings 59 = .ok (.iload_n 3, 1) := by decide +kernel
theorem dX9_rings_60 : decode cX9_rings 60 = .ok (.iastore, 1) := by decide +kernel
theorem dX9_rings_61 : decode cX9_rings 61 = .ok (.aload_n 0, 1) := by decide +kernel
theorem dX9_rings_62 : decode cX9_rings 62 = .ok (.getfield 82, 3) := by decide +kernel
theorem dX9_rings_65 : decode cX9_rings 65 = .ok (.aload_n 0, 1) := by decide +kernel
theorem dX9_rings_66 : decode cX9_rings 66 = .ok (.getfield 222, 3) := by decide +kernel
theorem dX9_rings_69 : decode cX9_rings 69 = .ok (.bipush (-2), 2) := by decide +kernel
theorem dX9_rings_71 : decode cX9_rings 71 = .ok (.iastore, 1) := by decide +kernel
theorem dX9_rings_72 : decode cX9_rings 72 = .ok (.aload_n 0, 1) := by decide +kernel
theorem dX9_rings_73 : decode cX9_rings 73 = .ok (.getfield 88, 3) := by decide +kernel
theorem dX9_rings_76 : decode cX9_rings 76 = .ok (.aload_n 0, 1) := by decide +kernel
theorem dX9_rings_77 : decode cX9_rings 77 = .ok (.getfield 222, 3) := by decide +kernel
theorem dX9_rings_80 : decode cX9_rings 80 = .ok (.iconst 0, 1) := by decide +kernel
theorem dX9_rings_81 : decode cX9_rings 81 = .ok (.bastore, 1) := by decide +kernel
theorem dX9_rings_82 : decode cX9_rings 82 = .ok (.iload_n 2, 1) := by decide +kernel
theorem dX9_rings_83 : decode cX9_rings 83 = .ok (.aload_n 0, 1) := by decide +kernel
theorem dX9_rings_84 : decode cX9_rings 84 = .ok (.getfield 64, 3) := by decide +kernel
theorem dX9_rings_87 : decode cX9_rings 87 = .ok (.iload_n 3, 1) := by decide +kernel
theorem dX9_rings_88 : decode cX9_rings 88 = .ok (.iaload, 1) := by decide +kernel
theorem dX9_rings_89 : decode cX9_rings 89 = .ok (.iadd, 1) := by decide +kernel
theorem dX9_rings_90 : decode cX9_rings 90 = .ok (.istore_n 2, 1) := by decide +kernel
theorem dX9_rings_91 : decode cX9_rings 91 = .ok (.aload_n 0, 1) := by decide +kernel
theorem dX9_rings_92 : decode cX9_rings 92 = .ok (.dup, 1) := by decide +kernel
theorem dX9_rings_93 : decode cX9_rings 93 = .ok (.getfield 222, 3) := by decide +kernel
theorem dX9_rings_96 : decode cX9_rings 96 = .ok (.iconst 1, 1) := by decide +kernel
theorem dX9_rings_97 : decode cX9_rings 97 = .ok (.iadd, 1) := by decide +kernel
theorem dX9_rings_98 : decode cX9_rings 98 = .ok (.putfield 222, 3) := by decide +kernel
theorem dX9_rings_101 : decode cX9_rings 101 = .ok (.iinc 3 1, 3) := by decide +kernel
theorem dX9_rings_104 : decode cX9_rings 104 = .ok (.goto (-73), 3) := by decide +kernel
theorem dX9_rings_107 : decode cX9_rings 107 = .ok (.aload_n 0, 1) := by decide +kernel
theorem dX9_rings_108 : decode cX9_rings 108 = .ok (.iconst (-1), 1) := by decide +kernel
theorem dX9_rings_109 : decode cX9_rings 109 = .ok (.putfield 225, 3) := by decide +kernel
theorem dX9_rings_112 : decode cX9_rings 112 = .ok (.aload_n 0, 1) := by decide +kernel
theorem dX9_rings_113 : decode cX9_rings 113 = .ok (.iconst (-1), 1) := by decide +kernel
theorem dX9_rings_114 : decode cX9_rings 114 = .ok (.putfield 228, 3) := by decide +kernel
theorem dX9_rings_117 : decode cX9_rings 117 = .ok (.aload_n 0, 1) := by decide +kernel
theorem dX9_rings_118 : decode cX9_rings 118 = .ok (.iconst 0, 1) := by decide +kernel
theorem dX9_rings_119 : decode cX9_rings 119 = .ok (.iconst 0, 1) := by decide +kernel
theorem dX9_rings_120 : decode cX9_rings 120 = .ok (.iconst 0, 1) := by decide +kernel
theorem dX9_rings_121 : decode cX9_rings 121 = .ok (.iload_n 2, 1) := by decide +kernel
theorem dX9_rings_122 : decode cX9_rings 122 = .ok (.invokevirtual 240, 3) := by decide +kernel
theorem dX9_rings_125 : decode cX9_rings 125 = .ok (.iconst 0, 1) := by decide +kernel
theorem dX9_rings_126 : decode cX9_rings 126 = .ok (.istore_n 3, 1) := by decide +kernel
theorem dX9_rings_127 : decode cX9_rings 127 = .ok (.iconst 0, 1) := by decide +kernel
theorem dX9_rings_128 : decode cX9_rings 128 = .ok (.istore 4, 2) := by decide +kernel
theorem dX9_rings_130 : decode cX9_rings 130 = .ok (.iload 4, 2) := by decide +kernel
theorem dX9_rings_132 : decode cX9_rings 132 = .ok (.aload_n 0, 1) := by decide +kernel
theorem dX9_rings_133 : decode cX9_rings 133 = .ok (.getfield 222, 3) := by decide +kernel
theorem dX9_rings_136 : decode cX9_rings 136 = .ok (.if_icmp .ge 80, 3) := by decide +kernel
theorem dX9_rings_139 : decode cX9_rings 139 = .ok (.aload_n 0, 1) := by decide +kernel
theorem dX9_rings_140 : decode cX9_rings 140 = .ok (.getfield 85, 3) := by decide +kernel
theorem dX9_rings_143 : decode cX9_rings 143 = .ok (.iload 4, 2) := by decide +kernel
theorem dX9_rings_145 : decode cX9_rings 145 = .ok (.iaload, 1) := by decide +kernel
theorem dX9_rings_146 : decode cX9_rings 146 = .ok (.iconst (-1), 1) := by decide +kernel
theorem dX9_rings_147 : decode cX9_rings 147 = .ok (.if_icmp .ne 6, 3) := by decide +kernel
theorem dX9_rings_150 : decode cX9_rings 150 = .ok (.goto 60, 3) := by decide +kernel
theorem dX9_rings_153 : decode cX9_rings 153 = .ok (.aload_n 0, 1) := by decide +kernel
theorem dX9_rings_154 : decode cX9_rings 154 = .ok (.getfield 79, 3) := by decide +kernel
theorem dX9_rings_157 : decode cX9_rings 157 = .ok (.iload 4, 2) := by decide +kernel
theorem dX9_rings_159 : decode cX9_rings 159 = .ok (.iaload, 1) := by decide +kernel
theorem dX9_rings_160 : decode cX9_rings 160 = .ok (.istore 5, 2) := by decide +kernel
theorem dX9_rings_162 : decode cX9_rings 162 = .ok (.aload_n 0, 1) := by decide +kernel
theorem dX9_rings_163 : decode cX9_rings 163 = .ok (.getfield 79, 3) := by decide +kernel
theorem dX9_rings_166 : decode cX9_rings 166 = .ok (.aload_n 0, 1) := by decide +kernel
theorem dX9_rings_167 : decode cX9_rings 167 = .ok (.getfield 85, 3) := by decide +kernel
theorem dX9_rings_170 : decode cX9_rings 170 = .ok (.iload 4, 2) := by decide +kernel
theorem dX9_rings_172 : decode cX9_rings 172 = .ok (.iaload, 1) := by decide +kernel
theorem dX9_rings_173 : decode cX9_rings 173 = .ok (.iaload, 1) := by decide +kernel
theorem dX9_rings_174 : decode cX9_rings 174 = .ok (.istore 6, 2) := by decide +kernel
theorem dX9_rings_176 : decode cX9_rings 176 = .ok (.aload_n 0, 1) := by decide +kernel
theorem dX9_rings_177 : decode cX9_rings 177 = .ok (.getfield 70, 3) := by decide +kernel
theorem dX9_rings_180 : decode cX9_rings 180 = .ok (.iload 5, 2) := by decide +kernel
theorem dX9_rings_182 : decode cX9_rings 182 = .ok (.iload 6, 2) := by decide +kernel
theorem dX9_rings_184 : decode cX9_rings 184 = .ok (.iastore, 1) := by decide +kernel
theorem dX9_rings_185 : decode cX9_rings 185 = .ok (.aload_n 0, 1) := by decide +kernel
theorem dX9_rings_186 : decode cX9_rings 186 = .ok (.getfield 73, 3) := by decide +kernel
theorem dX9_rings_189 : decode cX9_rings 189 = .ok (.iload 6, 2) := by decide +kernel
theorem dX9_rings_191 : decode cX9_rings 191 = .ok (.aload_n 0, 1) := by decide +kernel
theorem dX9_rings_192 : decode cX9_rings 192 = .ok (.getfield 52, 3) := by decide +kernel
theorem dX9_rings_195 : decode cX9_rings 195 = .ok (.iload 5, 2) := by decide +kernel
theorem dX9_rings_197 : decode cX9_rings 197 = .ok (.iaload, 1) := by decide +kernel
theorem dX9_rings_198 : decode cX9_rings 198 = .ok (.iastore, 1) := by decide +kernel
theorem dX9_rings_199 : decode cX9_rings 199 = .ok (.aload_n 0, 1) := by decide +kernel
theorem dX9_rings_200 : decode cX9_rings 200 = .ok (.getfield 67, 3) := by decide +kernel
theorem dX9_rings_203 : decode cX9_rings 203 = .ok (.iload 5, 2) := by decide +kernel
theorem dX9_rings_205 : decode cX9_rings 205 = .ok (.iconst 1, 1) := by decide +kernel
theorem dX9_rings_206 : decode cX9_rings 206 = .ok (.iastore, 1) := by decide +kernel
theorem dX9_rings_207 : decode cX9_rings 207 = .ok (.iinc 3 1, 3) := by decide +kernel
theorem dX9_rings_210 : decode cX9_rings 210 = .ok (.iinc 4 1, 3) := by decide +kernel
theorem dX9_rings_213 : decode cX9_rings 213 = .ok (.goto (-83), 3) := by decide +kernel
theorem dX9_rings_216 : decode cX9_rings 216 = .ok (.iload_n 3, 1) := by decide +kernel
theorem dX9_rings_217 : decode cX9_rings 217 = .ok (.ireturn, 1) := by decide +kernel
theorem dX9_bank_0 : decode cX9_bank 0 = .ok (.aload_n 0, 1) := by decide +kernel
theorem dX9_bank_1 : decode cX9_bank 1 = .ok (.iconst 0, 1) := by decide +kernel
theorem dX9_bank_2 : decode cX9_bank 2 = .ok (.putfield 1, 3) := by decide +kernel
theorem dX9_bank_5 : decode cX9_bank 5 = .ok (.aload_n 0, 1) := by decide +kernel
theorem dX9_bank_6 : decode cX9_bank 6 = .ok (.iload_n 1, 1) := by decide +kernel
theorem dX9_bank_7 : decode cX9_bank 7 = .ok (.iconst 0, 1) := by decide +kernel
theorem dX9_bank_8 : decode cX9_bank 8 = .ok (.invokevirtual 212, 3) := by decide +kernel
theorem dX9_bank_11 : decode cX9_bank 11 = .ok (.ifCond .ne 5, 3) := by decide +kernel
theorem dX9_bank_14 : decode cX9_bank 14 = .ok (.iconst (-1), 1) := by decide +kernel
theorem dX9_bank_15 : decode cX9_bank 15 = .ok (.ireturn, 1) := by decide +kernel
theorem dX9_bank_16 : decode cX9_bank 16 = .ok (.aload_n 0, 1) := by decide +kernel
theorem dX9_bank_17 : decode cX9_bank 17 = .ok (.getfield 67, 3) := by decide +kernel
theorem dX9_bank_20 : decode cX9_bank 20 = .ok (.iload_n 1, 1) := by decide +kernel
theorem dX9_bank_21 : decode cX9_bank 21 = .ok (.iconst 2, 1) := by decide +kernel
theorem dX9_bank_22 : decode cX9_bank 22 = .ok (.iastore, 1) := by decide +kernel
theorem dX9_bank_23 : decode cX9_bank 23 = .ok (.aload_n 0, 1) := by decide +kernel
theorem dX9_bank_24 : decode cX9_bank 24 = .ok (.getfield 23, 3) := by decide +kernel
theorem dX9_bank_27 : decode cX9_bank 27 = .ok (.aload_n 0, 1) := by decide +kernel
theorem dX9_bank_28 : decode cX9_bank 28 = .ok (.getfield 52, 3) := by decide +kernel
theorem dX9_bank_31 : decode cX9_bank 31 = .ok (.iload_n 1, 1) := by decide +kernel
theorem dX9_bank_32 : decode cX9_bank 32 = .ok (.iaload, 1) := by decide +kernel
theorem dX9_bank_33 : decode cX9_bank 33 = .ok (.dup2, 1) := by decide +kernel
theorem dX9_bank_34 : decode cX9_bank 34 = .ok (.iaload, 1) := by decide +kernel
theorem dX9_bank_35 : decode cX9_bank 35 = .ok (.aload_n 0, 1) := by decide +kernel
theorem dX9_bank_36 : decode cX9_bank 36 = .ok (.getfield 64, 3) := by decide +kernel
theorem dX9_bank_39 : decode cX9_bank 39 = .ok (.iload_n 1, 1) := by decide +kernel
theorem dX9_bank_40 : decode cX9_bank 40 = .ok (.iaload, 1) := by decide +kernel
theorem dX9_bank_41 : decode cX9_bank 41 = .ok (.iadd, 1) := by decide +kernel
theorem dX9_bank_42 : decode cX9_bank 42 = .ok (.iastore, 1) := by decide +kernel
theorem dX9_bank_43 : decode cX9_bank 43 = .ok (.aload_n 0, 1) := by decide +kernel
theorem dX9_bank_44 : decode cX9_bank 44 = .ok (.getfield 23, 3) := by decide +kernel
theorem dX9_bank_47 : decode cX9_bank 47 = .ok (.aload_n 0, 1) := by decide +kernel
theorem dX9_bank_48 : decode cX9_bank 48 = .ok (.getfield 52, 3) := by decide +kernel
theorem dX9_bank_51 : decode cX9_bank 51 = .ok (.iload_n 1, 1) := by decide +kernel
theorem dX9_bank_52 : decode cX9_bank 52 = .ok (.iaload, 1) := by decide +kernel
theorem dX9_bank_53 : decode cX9_bank 53 = .ok (.iaload, 1) := by decide +kernel
theorem dX9_bank_54 : decode cX9_bank 54 = .ok (.ireturn, 1) := by decide +kernel
theorem dX9_goesTo_0 : decode cX9_goesTo 0 = .ok (.aload_n 0, 1) := by decide +kernel
theorem dX9_goesTo_1 : decode cX9_goesTo 1 = .ok (.getfield 67, 3) := by decide +kernel
theorem dX9_goesTo_4 : decode cX9_goesTo 4 = .ok (.iload_n 1, 1) := by decide +kernel
theorem dX9_goesTo_5 : decode cX9_goesTo 5 = .ok (.iconst 3, 1) := by decide +kernel
theorem dX9_goesTo_6 : decode cX9_goesTo 6 = .ok (.iastore, 1) := by decide +kernel
theorem dX9_goesTo_7 : decode cX9_goesTo 7 = .ok (.aload_n 0, 1) := by decide +kernel
theorem dX9_goesTo_8 : decode cX9_goesTo 8 = .ok (.getfield 73, 3) := by decide +kernel
theorem dX9_goesTo_11 : decode cX9_goesTo 11 = .ok (.iload_n 1, 1) := by decide +kernel
theorem dX9_goesTo_12 : decode cX9_goesTo 12 = .ok (.iload_n 2, 1) := by decide +kernel
theorem dX9_goesTo_13 : decode cX9_goesTo 13 = .ok (.iastore, 1) := by decide +kernel
theorem dX9_goesTo_14 : decode cX9_goesTo 14 = .ok (.aload_n 0, 1) := by decide +kernel
theorem dX9_goesTo_15 : decode cX9_goesTo 15 = .ok (.getfield 23, 3) := by decide +kernel
theorem dX9_goesTo_18 : decode cX9_goesTo 18 = .ok (.iload_n 2, 1) := by decide +kernel
theorem dX9_goesTo_19 : decode cX9_goesTo 19 = .ok (.dup2, 1) := by decide +kernel
theorem dX9_goesTo_20 : decode cX9_goesTo 20 = .ok (.iaload, 1) := by decide +kernel
theorem dX9_goesTo_21 : decode cX9_goesTo 21 = .ok (.aload_n 0, 1) := by decide +kernel
theorem dX9_goesTo_22 : decode cX9_goesTo 22 = .ok (.getfield 64, 3) := by decide +kernel
theorem dX9_goesTo_25 : decode cX9_goesTo 25 = .ok (.iload_n 1, 1) := by decide +kernel
theorem dX9_goesTo_26 : decode cX9_goesTo 26 = .ok (.iaload, 1) := by decide +kernel
theorem dX9_goesTo_27 : decode cX9_goesTo 27 = .ok (.isub, 1) := by decide +kernel
theorem dX9_goesTo_28 : decode cX9_goesTo 28 = .ok (.iastore, 1) := by decide +kernel
theorem dX9_goesTo_29 : decode cX9_goesTo 29 = .ok (.return_, 1) := by decide +kernel
theorem dX9_take_0 : decode cX9_take 0 = .ok (.aload_n 0, 1) := by decide +kernel
theorem dX9_take_1 : decode cX9_take 1 = .ok (.iconst 0, 1) := by decide +kernel
theorem dX9_take_2 : decode cX9_take 2 = .ok (.putfield 1, 3) := by decide +kernel
theorem dX9_take_5 : decode cX9_take 5 = .ok (.aload_n 0, 1) := by decide +kernel
theorem dX9_take_6 : decode cX9_take 6 = .ok (.iload_n 1, 1) := by decide +kernel
theorem dX9_take_7 : decode cX9_take 7 = .ok (.invokevirtual 114, 3) := by decide +kernel
theorem dX9_take_10 : decode cX9_take 10 = .ok (.ifCond .eq 12, 3) := by decide +kernel
theorem dX9_take_13 : decode cX9_take 13 = .ok (.aload_n 0, 1) := by decide +kernel
theorem dX9_take_14 : decode cX9_take 14 = .ok (.iload_n 2, 1) := by decide +kernel
theorem dX9_take_15 : decode cX9_take 15 = .ok (.iconst 2, 1) := by decide +kernel
theorem dX9_take_16 : decode cX9_take 16 = .ok (.invokevirtual 212, 3) := by decide +kernel
theorem dX9_take_19 : decode cX9_take 19 = .ok (.ifCond .ne 5, 3) := by decide +kernel
theorem dX9_take_22 : decode cX9_take 22 = .ok (.iconst (-1), 1) := by decide +kernel
theorem dX9_take_23 : decode cX9_take 23 = .ok (.ireturn, 1) := by decide +kernel
theorem dX9_take_24 : decode cX9_take 24 = .ok (.aload_n 0, 1) := by decide +kernel
theorem dX9_take_25 : decode cX9_take 25 = .ok (.getfield 23, 3) := by decide +kernel
theorem dX9_take_28 : decode cX9_take 28 = .ok (.iload_n 1, 1) := by decide +kernel
theorem dX9_take_29 : decode cX9_take 29 = .ok (.iaload, 1) := by decide +kernel
theorem dX9_take_30 : decode cX9_take 30 = .ok (.aload_n 0, 1) := by decide +kernel
theorem dX9_take_31 : decode cX9_take 31 = .ok (.getfield 64, 3) := by decide +kernel
theorem dX9_take_34 : decode cX9_take 34 = .ok (.iload_n 2, 1) := by decide +kernel
theorem dX9_take_35 : decode cX9_take 35 = .ok (.iaload, 1) := by decide +kernel
theorem dX9_take_36 : decode cX9_take 36 = .ok (.if_icmp .ge 6, 3) := by decide +kernel
theorem dX9_take_39 : decode cX9_take 39 = .ok (.bipush (-2), 2) := by decide +kernel
theorem dX9_take_41 : decode cX9_take 41 = .ok (.ireturn, 1) := by decide +kernel
theorem dX9_take_42 : decode cX9_take 42 = .ok (.aload_n 0, 1) := by decide +kernel
theorem dX9_take_43 : decode cX9_take 43 = .ok (.iload_n 2, 1) := by decide +kernel
theorem dX9_take_44 : decode cX9_take 44 = .ok (.iload_n 1, 1) := by decide +kernel
theorem dX9_take_45 : decode cX9_take 45 = .ok (.invokevirtual 244, 3) := by decide +kernel
theorem dX9_take_48 : decode cX9_take 48 = .ok (.aload_n 0, 1) := by decide +kernel
theorem dX9_take_49 : decode cX9_take 49 = .ok (.getfield 23, 3) := by decide +kernel
theorem dX9_take_52 : decode cX9_take 52 = .ok (.iload_n 1, 1) := by decide +kernel
theorem dX9_take_53 : decode cX9_take 53 = .ok (.iaload, 1) := by decide +kernel
theorem dX9_take_54 : decode cX9_take 54 = .ok (.ireturn, 1) := by decide +kernel
theorem dX9_nextInRush_0 : decode cX9_nextInRush 0 = .ok (.iconst (-1), 1) := by decide +kernel
theorem dX9_nextInRush_1 : decode cX9_nextInRush 1 = .ok (.istore_n 1, 1) := by decide +kernel
theorem dX9_nextInRush_2 : decode cX9_nextInRush 2 = .ok (.iconst 0, 1) := by decide +kernel
theorem dX9_nextInRush_3 : decode cX9_nextInRush 3 = .ok (.istore_n 2, 1) := by decide +kernel
theorem dX9_nextInRush_4 : decode cX9_nextInRush 4 = .ok (.iload_n 2, 1) := by decide +kernel
theorem dX9_nextInRush_5 : decode cX9_nextInRush 5 = .ok (.aload_n 0, 1) := by decide +kernel
theorem dX9_nextInRush_6 : decode cX9_nextInRush 6 = .ok (.getfield 107, 3) := by decide +kernel
theorem dX9_nextInRush_9 : decode cX9_nextInRush 9 = .ok (.if_icmp .ge 69, 3) := by decide +kernel
theorem dX9_nextInRush_12 : decode cX9_nextInRush 12 = .ok (.aload_n 0, 1) := by decide +kernel
theorem dX9_nextInRush_13 : decode cX9_nextInRush 13 = .ok (.getfield 91, 3) := by decide +kernel
theorem dX9_nextInRush_16 : decode cX9_nextInRush 16 = .ok (.iload_n 2, 1) := by decide +kernel
theorem dX9_nextInRush_17 : decode cX9_nextInRush 17 = .ok (.baload, 1) := by decide +kernel
theorem dX9_nextInRush_18 : decode cX9_nextInRush 18 = .ok (.ifCond .ne 54, 3) := by decide +kernel
theorem dX9_nextInRush_21 : decode cX9_nextInRush 21 = .ok (.aload_n 0, 1) := by decide +kernel
theorem dX9_nextInRush_22 : decode cX9_nextInRush 22 = .ok (.getfield 29, 3) := by decide +kernel
theorem dX9_nextInRush_25 : decode cX9_nextInRush 25 = .ok (.iload_n 2, 1) := by decide +kernel
theorem dX9_nextInRush_26 : decode cX9_nextInRush 26 = .ok (.baload, 1) := by decide +kernel
theorem dX9_nextInRush_27 : decode cX9_nextInRush 27 = .ok (.ifCond .ne 45, 3) := by decide +kernel
theorem dX9_nextInRush_30 : decode cX9_nextInRush 30 = .ok (.aload_n 0, 1) := by decide +kernel
theorem dX9_nextInRush_31 : decode cX9_nextInRush 31 = .ok (.getfield 76, 3) := by decide +kernel
theorem dX9_nextInRush_34 : decode cX9_nextInRush 34 = .ok (.iconst 4, 1) := by decide +kernel
theorem dX9_nextInRush_35 : decode cX9_nextInRush 35 = .ok (.sipush 200, 3) := by decide +kernel
theorem dX9_nextInRush_38 : decode cX9_nextInRush 38 = .ok (.iload_n 2, 1) := by decide +kernel
theorem dX9_nextInRush_39 : decode cX9_nextInRush 39 = .ok (.iadd, 1) := by decide +kernel
theorem dX9_nextInRush_40 : decode cX9_nextInRush 40 = .ok (.imul, 1) := by decide +kernel
theorem dX9_nextInRush_41 : decode cX9_nextInRush 41 = .ok (.iconst 3, 1) := by decide +kernel
theorem dX9_nextInRush_42 : decode cX9_nextInRush 42 = .ok (.iadd, 1) := by decide +kernel
theorem dX9_nextInRush_43 : decode cX9_nextInRush 43 = .ok (.iaload, 1) := by decide +kernel
theorem dX9_nextInRush_44 : decode cX9_nextInRush 44 = .ok (.ifCond .ne 6, 3) := by decide +kernel
theorem dX9_nextInRush_47 : decode cX9_nextInRush 47 = .ok (.goto 25, 3) := by decide +kernel
theorem dX9_nextInRush_50 : decode cX9_nextInRush 50 = .ok (.iload_n 1, 1) := by decide +kernel
theorem dX9_nextInRush_51 : decode cX9_nextInRush 51 = .ok (.iconst (-1), 1) := by decide +kernel
theorem dX9_nextInRush_52 : decode cX9_nextInRush 52 = .ok (.if_icmp .eq 18, 3) := by decide +kernel
theorem dX9_nextInRush_55 : decode cX9_nextInRush 55 = .ok (.aload_n 0, 1) := by decide +kernel
theorem dX9_nextInRush_56 : decode cX9_nextInRush 56 = .ok (.getfield 94, 3) := by decide +kernel
theorem dX9_nextInRush_59 : decode cX9_nextInRush 59 = .ok (.iload_n 2, 1) := by decide +kernel
theorem dX9_nextInRush_60 : decode cX9_nextInRush 60 = .ok (.iaload, 1) := by decide +kernel
theorem dX9_nextInRush_61 : decode cX9_nextInRush 61 = .ok (.aload_n 0, 1) := by decide +kernel
theorem dX9_nextInRush_62 : decode cX9_nextInRush 62 = .ok (.getfield 94, 3) := by decide +kernel
theorem dX9_nextInRush_65 : decode cX9_nextInRush 65 = .ok (.iload_n 1, 1) := by decide +kernel
theorem dX9_nextInRush_66 : decode cX9_nextInRush 66 = .ok (.iaload, 1) := by decide +kernel
theorem dX9_nextInRush_67 : decode cX9_nextInRush 67 = .ok (.if_icmp .ge 5, 3) := by decide +kernel
theorem dX9_nextInRush_70 : decode cX9_nextInRush 70 = .ok (.iload_n 2, 1) := by decide +kernel
theorem dX9_nextInRush_71 : decode cX9_nextInRush 71 = .ok (.istore_n 1, 1) := by decide +kernel
theorem dX9_nextInRush_72 : decode cX9_nextInRush 72 = .ok (.iinc 2 1, 3) := by decide +kernel
theorem dX9_nextInRush_75 : decode cX9_nextInRush 75 = .ok (.goto (-71), 3) := by decide +kernel
theorem dX9_nextInRush_78 : decode cX9_nextInRush 78 = .ok (.iload_n 1, 1) := by decide +kernel
theorem dX9_nextInRush_79 : decode cX9_nextInRush 79 = .ok (.ireturn, 1) := by decide +kernel
theorem dX9_rush_0 : decode cX9_rush 0 = .ok (.aload_n 0, 1) := by decide +kernel
theorem dX9_rush_1 : decode cX9_rush 1 = .ok (.iconst 0, 1) := by decide +kernel
theorem dX9_rush_2 : decode cX9_rush 2 = .ok (.putfield 1, 3) := by decide +kernel
theorem dX9_rush_5 : decode cX9_rush 5 = .ok (.iconst 0, 1) := by decide +kernel
theorem dX9_rush_6 : decode cX9_rush 6 = .ok (.istore_n 1, 1) := by decide +kernel
theorem dX9_rush_7 : decode cX9_rush 7 = .ok (.iload_n 1, 1) := by decide +kernel
theorem dX9_rush_8 : decode cX9_rush 8 = .ok (.aload_n 0, 1) := by decide +kernel
theorem dX9_rush_9 : decode cX9_rush 9 = .ok (.getfield 107, 3) := by decide +kernel
theorem dX9_rush_12 : decode cX9_rush 12 = .ok (.if_icmp .ge 28, 3) := by decide +kernel
theorem dX9_rush_15 : decode cX9_rush 15 = .ok (.aload_n 0, 1) := by decide +kernel
theorem dX9_rush_16 : decode cX9_rush 16 = .ok (.getfield 91, 3) := by decide +kernel
theorem dX9_rush_19 : decode cX9_rush 19 = .ok (.iload_n 1, 1) := by decide +kernel
theorem dX9_rush_20 : decode cX9_rush 20 = .ok (.iconst 0, 1) := by decide +kernel
theorem dX9_rush_21 : decode cX9_rush 21 = .ok (.bastore, 1) := by decide +kernel
theorem dX9_rush_22 : decode cX9_rush 22 = .ok (.aload_n 0, 1) := by decide +kernel
theorem dX9_rush_23 : decode cX9_rush 23 = .ok (.getfield 94, 3) := by decide +kernel
theorem dX9_rush_26 : decode cX9_rush 26 = .ok (.iload_n 1, 1) := by decide +kernel
theorem dX9_rush_27 : decode cX9_rush 27 = .ok (.aload_n 0, 1) := by decide +kernel
theorem dX9_rush_28 : decode cX9_rush 28 = .ok (.getfield 26, 3) := by decide +kernel
theorem dX9_rush_31 : decode cX9_rush 31 = .ok (.iload_n 1, 1) := by decide +kernel
theorem dX9_rush_32 : decode cX9_rush 32 = .ok (.iaload, 1) := by decide +kernel
theorem dX9_rush_33 : decode cX9_rush 33 = .ok (.iastore, 1) := by decide +kernel
theorem dX9_rush_34 : decode cX9_rush 34 = .ok (.iinc 1 1, 3) := by decide +kernel
theorem dX9_rush_37 : decode cX9_rush 37 = .ok (.goto (-30), 3) := by decide +kernel
theorem dX9_rush_40 : decode cX9_rush 40 = .ok (.iconst 0, 1) := by decide +kernel
theorem dX9_rush_41 : decode cX9_rush 41 = .ok (.istore_n 1, 1) := by decide +kernel
theorem dX9_rush_42 : decode cX9_rush 42 = .ok (.aload_n 0, 1) := by decide +kernel
theorem dX9_rush_43 : decode cX9_rush 43 = .ok (.invokevirtual 248, 3) := by decide +kernel
theorem dX9_rush_46 : decode cX9_rush 46 = .ok (.istore_n 2, 1) := by decide +kernel
theorem dX9_rush_47 : decode cX9_rush 47 = .ok (.iload_n 2, 1) := by decide +kernel
theorem dX9_rush_48 : decode cX9_rush 48 = .ok (.iconst (-1), 1) := by decide +kernel
theorem dX9_rush_49 : decode cX9_rush 49 = .ok (.if_icmp .eq 150, 3) := by decide +kernel
theorem dX9_rush_52 : decode cX9_rush 52 = .ok (.aload_n 0, 1) := by decide +kernel
theorem dX9_rush_53 : decode cX9_rush 53 = .ok (.getfield 91, 3) := by decide +kernel
theorem dX9_rush_56 : decode cX9_rush 56 = .ok (.iload_n 2, 1) := by decide +kernel
theorem dX9_rush_57 : decode cX9_rush 57 = .ok (.iconst 1, 1) := by decide +kernel
theorem dX9_rush_58 : decode cX9_rush 58 = .ok (.bastore, 1) := by decide +kernel
theorem dX9_rush_59 : decode cX9_rush 59 = .ok (.iconst (-1), 1) := by decide +kernel
theorem dX9_rush_60 : decode cX9_rush 60 = .ok (.istore_n 3, 1) := by decide +kernel
theorem dX9_rush_61 : decode cX9_rush 61 = .ok (.iconst 0, 1) := by decide +kernel
theorem dX9_rush_62 : decode cX9_rush 62 = .ok (.istore 4, 2) := by decide +kernel
theorem dX9_rush_64 : decode cX9_rush 64 = .ok (.iload 4, 2) := by decide +kernel
theorem dX9_rush_66 : decode cX9_rush 66 = .ok (.aload_n 0, 1) := by decide +kernel
theorem dX9_rush_67 : decode cX9_rush 67 = .ok (.getfield 203, 3) := by decide +kernel
theorem dX9_rush_70 : decode cX9_rush 70 = .ok (.if_icmp .ge 77, 3) := by decide +kernel
theorem dX9_rush_73 : decode cX9_rush 73 = .ok (.aload_n 0, 1) := by decide +kernel
theorem dX9_rush_74 : decode cX9_rush 74 = .ok (.getfield 67, 3) := by decide +kernel
theorem dX9_rush_77 : decode cX9_rush 77 = .ok (.iload 4, 2) := by decide +kernel
theorem dX9_rush_79 : decode cX9_rush 79 = .ok (.iaload, 1) := by decide +kernel
theorem dX9_rush_80 : decode cX9_rush 80 = .ok (.iconst 2, 1) := by decide +kernel
theorem dX9_rush_81 : decode cX9_rush 81 = .ok (.if_icmp .ne 60, 3) := by decide +kernel
theorem dX9_rush_84 : decode cX9_rush 84 = .ok (.aload_n 0, 1) := by decide +kernel
theorem dX9_rush_85 : decode cX9_rush 85 = .ok (.iload 4, 2) := by decide +kernel
theorem dX9_rush_87 : decode cX9_rush 87 = .ok (.sipush 200, 3) := by decide +kernel
theorem dX9_rush_90 : decode cX9_rush 90 = .ok (.iload_n 2, 1) := by decide +kernel
theorem dX9_rush_91 : decode cX9_rush 91 = .ok (.iadd, 1) := by decide +kernel
theorem dX9_rush_92 : decode cX9_rush 92 = .ok (.invokevirtual 231, 3) := by decide +kernel
theorem dX9_rush_95 : decode cX9_rush 95 = .ok (.ifCond .eq 46, 3) := by decide +kernel
theorem dX9_rush_98 : decode cX9_rush 98 = .ok (.aload_n 0, 1) := by decide +kernel
theorem dX9_rush_99 : decode cX9_rush 99 = .ok (.getfield 64, 3) := by decide +kernel
theorem dX9_rush_102 : decode cX9_rush 102 = .ok (.iload 4, 2) := by decide +kernel
theorem dX9_rush_104 : decode cX9_rush 104 = .ok (.iaload, 1) := by decide +kernel
theorem dX9_rush_105 : decode cX9_rush 105 = .ok (.aload_n 0, 1) := by decide +kernel
theorem dX9_rush_106 : decode cX9_rush 106 = .ok (.getfield 23, 3) := by decide +kernel
theorem dX9_rush_109 : decode cX9_rush 109 = .ok (.iload_n 2, 1) := by decide +kernel
theorem dX9_rush_110 : decode cX9_rush 110 = .ok (.iaload, 1) := by decide +kernel
theorem dX9_rush_111 : decode cX9_rush 111 = .ok (.if_icmp .le 6, 3) := by decide +kernel
theorem dX9_rush_114 : decode cX9_rush 114 = .ok (.goto 27, 3) := by decide +kernel
theorem dX9_rush_117 : decode cX9_rush 117 = .ok (.iload_n 3, 1) := by decide +kernel
theorem dX9_rush_118 : decode cX9_rush 118 = .ok (.iconst (-1), 1) := by decide +kernel
theorem dX9_rush_119 : decode cX9_rush 119 = .ok (.if_icmp .eq 19, 3) := by decide +kernel
theorem dX9_rush_122 : decode cX9_rush 122 = .ok (.aload_n 0, 1) := by decide +kernel
theorem dX9_rush_123 : decode cX9_rush 123 = .ok (.getfield 64, 3) := by decide +kernel
theorem dX9_rush_126 : decode cX9_rush 126 = .ok (.iload 4, 2) := by decide +kernel
theorem dX9_rush_128 : decode cX9_rush 128 = .ok (.iaload, 1) := by decide +kernel
theorem dX9_rush_129 : decode cX9_rush 129 = .ok (.aload_n 0, 1) := by decide +kernel
theorem dX9_rush_130 : decode cX9_rush 130 = .ok (.getfield 64, 3) := by decide +kernel
theorem dX9_rush_133 : decode cX9_rush 133 = .ok (.iload_n 3, 1) := by decide +kernel
theorem dX9_rush_134 : decode cX9_rush 134 = .ok (.iaload, 1) := by decide +kernel
theorem dX9_rush_135 : decode cX9_rush 135 = .ok (.if_icmp .le 6, 3) := by decide +kernel
theorem dX9_rush_138 : decode cX9_rush 138 = .ok (.iload 4, 2) := by decide +kernel
theorem dX9_rush_140 : decode cX9_rush 140 = .ok (.istore_n 3, 1) := by decide +kernel
theorem dX9_rush_141 : decode cX9_rush 141 = .ok (.iinc 4 1, 3) := by decide +kernel
theorem dX9_rush_144 : decode cX9_rush 144 = .ok (.goto (-80), 3) := by decide +kernel
theorem dX9_rush_147 : decode cX9_rush 147 = .ok (.iload_n 3, 1) := by decide +kernel
theorem dX9_rush_148 : decode cX9_rush 148 = .ok (.iconst (-1), 1) := by decide +kernel
theorem dX9_rush_149 : decode cX9_rush 149 = .ok (.if_icmp .eq 42, 3) := by decide +kernel
theorem dX9_rush_152 : decode cX9_rush 152 = .ok (.aload_n 0, 1) := by decide +kernel
theorem dX9_rush_153 : decode cX9_rush 153 = .ok (.iload_n 3, 1) := by decide +kernel
theorem dX9_rush_154 : decode cX9_rush 154 = .ok (.iload_n 2, 1) := by decide +kernel
theorem dX9_rush_155 : decode cX9_rush 155 = .ok (.invokevirtual 244, 3) := by decide +kernel
theorem dX9_rush_158 : decode cX9_rush 158 = .ok (.aload_n 0, 1) := by decide +kernel
theorem dX9_rush_159 : decode cX9_rush 159 = .ok (.getfield 26, 3) := by decide +kernel
theorem dX9_rush_162 : decode cX9_rush 162 = .ok (.iload_n 2, 1) := by decide +kernel
theorem dX9_rush_163 : decode cX9_rush 163 = .ok (.dup2, 1) := by decide +kernel
theorem dX9_rush_164 : decode cX9_rush 164 = .ok (.iaload, 1) := by decide +kernel
theorem dX9_rush_165 : decode cX9_rush 165 = .ok (.aload_n 0, 1) := by decide +kernel
theorem dX9_rush_166 : decode cX9_rush 166 = .ok (.getfield 64, 3) := by decide +kernel
theorem dX9_rush_169 : decode cX9_rush 169 = .ok (.iload_n 3, 1) := by decide +kernel
theorem dX9_rush_170 : decode cX9_rush 170 = .ok (.iaload, 1) := by decide +kernel
theorem dX9_rush_171 : decode cX9_rush 171 = .ok (.iadd, 1) := by decide +kernel
theorem dX9_rush_172 : decode cX9_rush 172 = .ok (.iastore, 1) := by decide +kernel
theorem dX9_rush_173 : decode cX9_rush 173 = .ok (.aload_n 0, 1) := by decide +kernel
theorem dX9_rush_174 : decode cX9_rush 174 = .ok (.getfield 76, 3) := by decide +kernel
theorem dX9_rush_177 : decode cX9_rush 177 = .ok (.iconst 4, 1) := by decide +kernel
theorem dX9_rush_178 : decode cX9_rush 178 = .ok (.sipush 200, 3) := by decide +kernel
theorem dX9_rush_181 : decode cX9_rush 181 = .ok (.iload_n 2, 1) := by decide +kernel
theorem dX9_rush_182 : decode cX9_rush 182 = .ok (.iadd, 1) := by decide +kernel
theorem dX9_rush_183 : decode cX9_rush 183 = .ok (.imul, 1) := by decide +kernel
theorem dX9_rush_184 : decode cX9_rush 184 = .ok (.iconst 3, 1) := by decide +kernel
theorem dX9_rush_185 : decode cX9_rush 185 = .ok (.iadd, 1) := by decide +kernel
theorem dX9_rush_186 : decode cX9_rush 186 = .ok (.iconst 0, 1) := by decide +kernel
theorem dX9_rush_187 : decode cX9_rush 187 = .ok (.iastore, 1) := by decide +kernel
theorem dX9_rush_188 : decode cX9_rush 188 = .ok (.iinc 1 1, 3) := by decide +kernel
theorem dX9_rush_191 : decode cX9_rush 191 = .ok (.aload_n 0, 1) := by decide +kernel
theorem dX9_rush_192 : decode cX9_rush 192 = .ok (.invokevirtual 248, 3) := by decide +kernel
theorem dX9_rush_195 : decode cX9_rush 195 = .ok (.istore_n 2, 1) := by decide +kernel
theorem dX9_rush_196 : decode cX9_rush 196 = .ok (.goto (-149), 3) := by decide +kernel
theorem dX9_rush_199 : decode cX9_rush 199 = .ok (.iload_n 1, 1) := by decide +kernel
theorem dX9_rush_200 : decode cX9_rush 200 = .ok (.ireturn, 1) := by decide +kernel
theorem dX9_shut_0 : decode cX9_shut 0 = .ok (.aload_n 0, 1) := by decide +kernel
theorem dX9_shut_1 : decode cX9_shut 1 = .ok (.iconst 0, 1) := by decide +kernel
theorem dX9_shut_2 : decode cX9_shut 2 = .ok (.putfield 1, 3) := by decide +kernel
theorem dX9_shut_5 : decode cX9_shut 5 = .ok (.aload_n 0, 1) := by decide +kernel
theorem dX9_shut_6 : decode cX9_shut 6 = .ok (.iload_n 1, 1) := by decide +kernel
theorem dX9_shut_7 : decode cX9_shut 7 = .ok (.iload_n 2, 1) := by decide +kernel
theorem dX9_shut_8 : decode cX9_shut 8 = .ok (.invokevirtual 110, 3) := by decide +kernel
theorem dX9_shut_11 : decode cX9_shut 11 = .ok (.ifCond .eq 25, 3) := by decide +kernel
theorem dX9_shut_14 : decode cX9_shut 14 = .ok (.aload_n 0, 1) := by decide +kernel
theorem dX9_shut_15 : decode cX9_shut 15 = .ok (.iload_n 1, 1) := by decide +kernel
theorem dX9_shut_16 : decode cX9_shut 16 = .ok (.iload_n 3, 1) := by decide +kernel
theorem dX9_shut_17 : decode cX9_shut 17 = .ok (.invokevirtual 110, 3) := by decide +kernel
theorem dX9_shut_20 : decode cX9_shut 20 = .ok (.ifCond .eq 16, 3) := by decide +kernel
theorem dX9_shut_23 : decode cX9_shut 23 = .ok (.iload_n 2, 1) := by decide +kernel
theorem dX9_shut_24 : decode cX9_shut 24 = .ok (.iload_n 3, 1) := by decide +kernel
theorem dX9_shut_25 : decode cX9_shut 25 = .ok (.if_icmp .gt 11, 3) := by decide +kernel
theorem dX9_shut_28 : decode cX9_shut 28 = .ok (.iload_n 2, 1) := by decide +kernel
theorem dX9_shut_29 : decode cX9_shut 29 = .ok (.aload_n 0, 1) := by decide +kernel
theorem dX9_shut_30 : decode cX9_shut 30 = .ok (.getfield 197, 3) := by decide +kernel
theorem dX9_shut_33 : decode cX9_shut 33 = .ok (.if_icmp .ge 5, 3) := by decide +kernel
theorem dX9_shut_36 : decode cX9_shut 36 = .ok (.iconst (-1), 1) := by decide +kernel
theorem dX9_shut_37 : decode cX9_shut 37 = .ok (.ireturn, 1) := by decide +kernel
theorem dX9_shut_38 : decode cX9_shut 38 = .ok (.iload_n 2, 1) := by decide +kernel
theorem dX9_shut_39 : decode cX9_shut 39 = .ok (.istore 4, 2) := by decide +kernel
theorem dX9_shut_41 : decode cX9_shut 41 = .ok (.iload 4, 2) := by decide +kernel
theorem dX9_shut_43 : decode cX9_shut 43 = .ok (.iload_n 3, 1) := by decide +kernel
theorem dX9_shut_44 : decode cX9_shut 44 = .ok (.if_icmp .gt 22, 3) := by decide +kernel
theorem dX9_shut_47 : decode cX9_shut 47 = .ok (.aload_n 0, 1) := by decide +kernel
theorem dX9_shut_48 : decode cX9_shut 48 = .ok (.getfield 36, 3) := by decide +kernel
theorem dX9_shut_51 : decode cX9_shut 51 = .ok (.bipush 53, 2) := by decide +kernel
theorem dX9_shut_53 : decode cX9_shut 53 = .ok (.iload_n 1, 1) := by decide +kernel
theorem dX9_shut_54 : decode cX9_shut 54 = .ok (.imul, 1) := by decide +kernel
theorem dX9_shut_55 : decode cX9_shut 55 = .ok (.iload 4, 2) := by decide +kernel
theorem dX9_shut_57 : decode cX9_shut 57 = .ok (.iadd, 1) := by decide +kernel
theorem dX9_shut_58 : decode cX9_shut 58 = .ok (.iconst 1, 1) := by decide +kernel
theorem dX9_shut_59 : decode cX9_shut 59 = .ok (.bastore, 1) := by decide +kernel
theorem dX9_shut_60 : decode cX9_shut 60 = .ok (.iinc 4 1, 3) := by decide +kernel
theorem dX9_shut_63 : decode cX9_shut 63 = .ok (.goto (-22), 3) := by decide +kernel
theorem dX9_shut_66 : decode cX9_shut 66 = .ok (.iconst 0, 1) := by decide +kernel
theorem dX9_shut_67 : decode cX9_shut 67 = .ok (.istore 4, 2) := by decide +kernel
theorem dX9_shut_69 : decode cX9_shut 69 = .ok (.iconst 0, 1) := by decide +kernel
theorem dX9_shut_70 : decode cX9_shut 70 = .ok (.istore 5, 2) := by decide +kernel
theorem dX9_shut_72 : decode cX9_shut 72 = .ok (.iload 5, 2) := by decide +kernel
theorem dX9_shut_74 : decode cX9_shut 74 = .ok (.aload_n 0, 1) := by decide +kernel
theorem dX9_shut_75 : decode cX9_shut 75 = .ok (.getfield 203, 3) := by decide +kernel
theorem dX9_shut_78 : decode cX9_shut 78 = .ok (.if_icmp .ge 176, 3) := by decide +kernel
theorem dX9_shut_81 : decode cX9_shut 81 = .ok (.aload_n 0, 1) := by decide +kernel
theorem dX9_shut_82 : decode cX9_shut 82 = .ok (.getfield 61, 3) := by decide +kernel
theorem dX9_shut_85 : decode cX9_shut 85 = .ok (.iload 5, 2) := by decide +kernel
theorem dX9_shut_87 : decode cX9_shut 87 = .ok (.iaload, 1) := by decide +kernel
theorem dX9_shut_88 : decode cX9_shut 88 = .ok (.aload_n 0, 1) := by decide +kernel
theorem dX9_shut_89 : decode cX9_shut 89 = .ok (.getfield 206, 3) := by decide +kernel
theorem dX9_shut_92 : decode cX9_shut 92 = .ok (.if_icmp .ne 156, 3) := by decide +kernel
end
section
theorem dX9_shut_95 : decode cX9_shut 95 = .ok (.aload_n 0, 1) := by decide +kernel
theorem dX9_shut_96 : decode cX9_shut 96 = .ok (.getfield 55, 3) := by decide +kernel
theorem dX9_shut_99 : decode cX9_shut 99 = .ok (.iload 5, 2) := by decide +kernel
theorem dX9_shut_101 : decode cX9_shut 101 = .ok (.iaload, 1) := by decide +kernel
theorem dX9_shut_102 : decode cX9_shut 102 = .ok (.iload_n 1, 1) := by decide +kernel
theorem dX9_shut_103 : decode cX9_shut 103 = .ok (.if_icmp .ne 145, 3) := by decide +kernel
theorem dX9_shut_106 : decode cX9_shut 106 = .ok (.aload_n 0, 1) := by decide +kernel
theorem dX9_shut_107 : decode cX9_shut 107 = .ok (.getfield 58, 3) := by decide +kernel
theorem dX9_shut_110 : decode cX9_shut 110 = .ok (.iload 5, 2) := by decide +kernel
theorem dX9_shut_112 : decode cX9_shut 112 = .ok (.iaload, 1) := by decide +kernel
theorem dX9_shut_113 : decode cX9_shut 113 = .ok (.iload_n 2, 1) := by decide +kernel
theorem dX9_shut_114 : decode cX9_shut 114 = .ok (.iload_n 3, 1) := by decide +kernel
theorem dX9_shut_115 : decode cX9_shut 115 = .ok (.invokestatic 100, 3) := by decide +kernel
theorem dX9_shut_118 : decode cX9_shut 118 = .ok (.ifCond .eq 130, 3) := by decide +kernel
theorem dX9_shut_121 : decode cX9_shut 121 = .ok (.aload_n 0, 1) := by decide +kernel
theorem dX9_shut_122 : decode cX9_shut 122 = .ok (.getfield 67, 3) := by decide +kernel
theorem dX9_shut_125 : decode cX9_shut 125 = .ok (.iload 5, 2) := by decide +kernel
theorem dX9_shut_127 : decode cX9_shut 127 = .ok (.iaload, 1) := by decide +kernel
theorem dX9_shut_128 : decode cX9_shut 128 = .ok (.iconst 4, 1) := by decide +kernel
theorem dX9_shut_129 : decode cX9_shut 129 = .ok (.if_icmp .lt 6, 3) := by decide +kernel
theorem dX9_shut_132 : decode cX9_shut 132 = .ok (.goto 116, 3) := by decide +kernel
theorem dX9_shut_135 : decode cX9_shut 135 = .ok (.iinc 4 1, 3) := by decide +kernel
theorem dX9_shut_138 : decode cX9_shut 138 = .ok (.aload_n 0, 1) := by decide +kernel
theorem dX9_shut_139 : decode cX9_shut 139 = .ok (.getfield 67, 3) := by decide +kernel
theorem dX9_shut_142 : decode cX9_shut 142 = .ok (.iload 5, 2) := by decide +kernel
theorem dX9_shut_144 : decode cX9_shut 144 = .ok (.iaload, 1) := by decide +kernel
theorem dX9_shut_145 : decode cX9_shut 145 = .ok (.iconst 2, 1) := by decide +kernel
theorem dX9_shut_146 : decode cX9_shut 146 = .ok (.if_icmp .ne 39, 3) := by decide +kernel
theorem dX9_shut_149 : decode cX9_shut 149 = .ok (.aload_n 0, 1) := by decide +kernel
theorem dX9_shut_150 : decode cX9_shut 150 = .ok (.getfield 23, 3) := by decide +kernel
theorem dX9_shut_153 : decode cX9_shut 153 = .ok (.aload_n 0, 1) := by decide +kernel
theorem dX9_shut_154 : decode cX9_shut 154 = .ok (.getfield 52, 3) := by decide +kernel
theorem dX9_shut_157 : decode cX9_shut 157 = .ok (.iload 5, 2) := by decide +kernel
theorem dX9_shut_159 : decode cX9_shut 159 = .ok (.iaload, 1) := by decide +kernel
theorem dX9_shut_160 : decode cX9_shut 160 = .ok (.iconst 0, 1) := by decide +kernel
theorem dX9_shut_161 : decode cX9_shut 161 = .ok (.aload_n 0, 1) := by decide +kernel
theorem dX9_shut_162 : decode cX9_shut 162 = .ok (.getfield 23, 3) := by decide +kernel
theorem dX9_shut_165 : decode cX9_shut 165 = .ok (.aload_n 0, 1) := by decide +kernel
theorem dX9_shut_166 : decode cX9_shut 166 = .ok (.getfield 52, 3) := by decide +kernel
theorem dX9_shut_169 : decode cX9_shut 169 = .ok (.iload 5, 2) := by decide +kernel
theorem dX9_shut_171 : decode cX9_shut 171 = .ok (.iaload, 1) := by decide +kernel
theorem dX9_shut_172 : decode cX9_shut 172 = .ok (.iaload, 1) := by decide +kernel
theorem dX9_shut_173 : decode cX9_shut 173 = .ok (.aload_n 0, 1) := by decide +kernel
theorem dX9_shut_174 : decode cX9_shut 174 = .ok (.getfield 64, 3) := by decide +kernel
theorem dX9_shut_177 : decode cX9_shut 177 = .ok (.iload 5, 2) := by decide +kernel
theorem dX9_shut_179 : decode cX9_shut 179 = .ok (.iaload, 1) := by decide +kernel
theorem dX9_shut_180 : decode cX9_shut 180 = .ok (.isub, 1) := by decide +kernel
theorem dX9_shut_181 : decode cX9_shut 181 = .ok (.invokestatic 251, 3) := by decide +kernel
theorem dX9_shut_184 : decode cX9_shut 184 = .ok (.iastore, 1) := by decide +kernel
theorem dX9_shut_185 : decode cX9_shut 185 = .ok (.aload_n 0, 1) := by decide +kernel
theorem dX9_shut_186 : decode cX9_shut 186 = .ok (.getfield 67, 3) := by decide +kernel
theorem dX9_shut_189 : decode cX9_shut 189 = .ok (.iload 5, 2) := by decide +kernel
theorem dX9_shut_191 : decode cX9_shut 191 = .ok (.iaload, 1) := by decide +kernel
theorem dX9_shut_192 : decode cX9_shut 192 = .ok (.iconst 1, 1) := by decide +kernel
theorem dX9_shut_193 : decode cX9_shut 193 = .ok (.if_icmp .eq 14, 3) := by decide +kernel
theorem dX9_shut_196 : decode cX9_shut 196 = .ok (.aload_n 0, 1) := by decide +kernel
theorem dX9_shut_197 : decode cX9_shut 197 = .ok (.getfield 67, 3) := by decide +kernel
theorem dX9_shut_200 : decode cX9_shut 200 = .ok (.iload 5, 2) := by decide +kernel
theorem dX9_shut_202 : decode cX9_shut 202 = .ok (.iaload, 1) := by decide +kernel
theorem dX9_shut_203 : decode cX9_shut 203 = .ok (.iconst 3, 1) := by decide +kernel
theorem dX9_shut_204 : decode cX9_shut 204 = .ok (.if_icmp .ne 36, 3) := by decide +kernel
theorem dX9_shut_207 : decode cX9_shut 207 = .ok (.aload_n 0, 1) := by decide +kernel
theorem dX9_shut_208 : decode cX9_shut 208 = .ok (.getfield 23, 3) := by decide +kernel
theorem dX9_shut_211 : decode cX9_shut 211 = .ok (.aload_n 0, 1) := by decide +kernel
theorem dX9_shut_212 : decode cX9_shut 212 = .ok (.getfield 73, 3) := by decide +kernel
theorem dX9_shut_215 : decode cX9_shut 215 = .ok (.iload 5, 2) := by decide +kernel
theorem dX9_shut_217 : decode cX9_shut 217 = .ok (.iaload, 1) := by decide +kernel
theorem dX9_shut_218 : decode cX9_shut 218 = .ok (.dup2, 1) := by decide +kernel
theorem dX9_shut_219 : decode cX9_shut 219 = .ok (.iaload, 1) := by decide +kernel
theorem dX9_shut_220 : decode cX9_shut 220 = .ok (.aload_n 0, 1) := by decide +kernel
theorem dX9_shut_221 : decode cX9_shut 221 = .ok (.getfield 64, 3) := by decide +kernel
theorem dX9_shut_224 : decode cX9_shut 224 = .ok (.iload 5, 2) := by decide +kernel
theorem dX9_shut_226 : decode cX9_shut 226 = .ok (.iaload, 1) := by decide +kernel
theorem dX9_shut_227 : decode cX9_shut 227 = .ok (.iadd, 1) := by decide +kernel
theorem dX9_shut_228 : decode cX9_shut 228 = .ok (.iastore, 1) := by decide +kernel
theorem dX9_shut_229 : decode cX9_shut 229 = .ok (.aload_n 0, 1) := by decide +kernel
theorem dX9_shut_230 : decode cX9_shut 230 = .ok (.getfield 67, 3) := by decide +kernel
theorem dX9_shut_233 : decode cX9_shut 233 = .ok (.iload 5, 2) := by decide +kernel
theorem dX9_shut_235 : decode cX9_shut 235 = .ok (.iconst 5, 1) := by decide +kernel
theorem dX9_shut_236 : decode cX9_shut 236 = .ok (.iastore, 1) := by decide +kernel
theorem dX9_shut_237 : decode cX9_shut 237 = .ok (.goto 11, 3) := by decide +kernel
theorem dX9_shut_240 : decode cX9_shut 240 = .ok (.aload_n 0, 1) := by decide +kernel
theorem dX9_shut_241 : decode cX9_shut 241 = .ok (.getfield 67, 3) := by decide +kernel
theorem dX9_shut_244 : decode cX9_shut 244 = .ok (.iload 5, 2) := by decide +kernel
theorem dX9_shut_246 : decode cX9_shut 246 = .ok (.iconst 4, 1) := by decide +kernel
theorem dX9_shut_247 : decode cX9_shut 247 = .ok (.iastore, 1) := by decide +kernel
theorem dX9_shut_248 : decode cX9_shut 248 = .ok (.iinc 5 1, 3) := by decide +kernel
theorem dX9_shut_251 : decode cX9_shut 251 = .ok (.goto (-179), 3) := by decide +kernel
theorem dX9_shut_254 : decode cX9_shut 254 = .ok (.iload 4, 2) := by decide +kernel
theorem dX9_shut_256 : decode cX9_shut 256 = .ok (.ireturn, 1) := by decide +kernel
theorem dX9_passes_0 : decode cX9_passes 0 = .ok (.iconst 0, 1) := by decide +kernel
theorem dX9_passes_1 : decode cX9_passes 1 = .ok (.istore_n 2, 1) := by decide +kernel
theorem dX9_passes_2 : decode cX9_passes 2 = .ok (.iload_n 2, 1) := by decide +kernel
theorem dX9_passes_3 : decode cX9_passes 3 = .ok (.aload_n 0, 1) := by decide +kernel
theorem dX9_passes_4 : decode cX9_passes 4 = .ok (.getfield 203, 3) := by decide +kernel
theorem dX9_passes_7 : decode cX9_passes 7 = .ok (.if_icmp .ge 45, 3) := by decide +kernel
theorem dX9_passes_10 : decode cX9_passes 10 = .ok (.aload_n 0, 1) := by decide +kernel
theorem dX9_passes_11 : decode cX9_passes 11 = .ok (.getfield 67, 3) := by decide +kernel
theorem dX9_passes_14 : decode cX9_passes 14 = .ok (.iload_n 2, 1) := by decide +kernel
theorem dX9_passes_15 : decode cX9_passes 15 = .ok (.iaload, 1) := by decide +kernel
theorem dX9_passes_16 : decode cX9_passes 16 = .ok (.ifCond .eq 13, 3) := by decide +kernel
theorem dX9_passes_19 : decode cX9_passes 19 = .ok (.aload_n 0, 1) := by decide +kernel
theorem dX9_passes_20 : decode cX9_passes 20 = .ok (.getfield 67, 3) := by decide +kernel
theorem dX9_passes_23 : decode cX9_passes 23 = .ok (.iload_n 2, 1) := by decide +kernel
theorem dX9_passes_24 : decode cX9_passes 24 = .ok (.iaload, 1) := by decide +kernel
theorem dX9_passes_25 : decode cX9_passes 25 = .ok (.iconst 2, 1) := by decide +kernel
theorem dX9_passes_26 : decode cX9_passes 26 = .ok (.if_icmp .ne 20, 3) := by decide +kernel
theorem dX9_passes_29 : decode cX9_passes 29 = .ok (.aload_n 0, 1) := by decide +kernel
theorem dX9_passes_30 : decode cX9_passes 30 = .ok (.getfield 58, 3) := by decide +kernel
theorem dX9_passes_33 : decode cX9_passes 33 = .ok (.iload_n 2, 1) := by decide +kernel
theorem dX9_passes_34 : decode cX9_passes 34 = .ok (.iaload, 1) := by decide +kernel
theorem dX9_passes_35 : decode cX9_passes 35 = .ok (.iload_n 1, 1) := by decide +kernel
theorem dX9_passes_36 : decode cX9_passes 36 = .ok (.if_icmp .gt 10, 3) := by decide +kernel
theorem dX9_passes_39 : decode cX9_passes 39 = .ok (.aload_n 0, 1) := by decide +kernel
theorem dX9_passes_40 : decode cX9_passes 40 = .ok (.getfield 67, 3) := by decide +kernel
theorem dX9_passes_43 : decode cX9_passes 43 = .ok (.iload_n 2, 1) := by decide +kernel
theorem dX9_passes_44 : decode cX9_passes 44 = .ok (.iconst 5, 1) := by decide +kernel
theorem dX9_passes_45 : decode cX9_passes 45 = .ok (.iastore, 1) := by decide +kernel
theorem dX9_passes_46 : decode cX9_passes 46 = .ok (.iinc 2 1, 3) := by decide +kernel
theorem dX9_passes_49 : decode cX9_passes 49 = .ok (.goto (-47), 3) := by decide +kernel
theorem dX9_passes_52 : decode cX9_passes 52 = .ok (.return_, 1) := by decide +kernel
theorem dX9_weeks_0 : decode cX9_weeks 0 = .ok (.aload_n 0, 1) := by decide +kernel
theorem dX9_weeks_1 : decode cX9_weeks 1 = .ok (.iconst 0, 1) := by decide +kernel
theorem dX9_weeks_2 : decode cX9_weeks 2 = .ok (.putfield 1, 3) := by decide +kernel
theorem dX9_weeks_5 : decode cX9_weeks 5 = .ok (.iload_n 1, 1) := by decide +kernel
theorem dX9_weeks_6 : decode cX9_weeks 6 = .ok (.iconst 1, 1) := by decide +kernel
theorem dX9_weeks_7 : decode cX9_weeks 7 = .ok (.bipush 52, 2) := by decide +kernel
theorem dX9_weeks_9 : decode cX9_weeks 9 = .ok (.invokestatic 100, 3) := by decide +kernel
theorem dX9_weeks_12 : decode cX9_weeks 12 = .ok (.ifCond .eq 14, 3) := by decide +kernel
theorem dX9_weeks_15 : decode cX9_weeks 15 = .ok (.aload_n 0, 1) := by decide +kernel
theorem dX9_weeks_16 : decode cX9_weeks 16 = .ok (.getfield 197, 3) := by decide +kernel
theorem dX9_weeks_19 : decode cX9_weeks 19 = .ok (.iload_n 1, 1) := by decide +kernel
theorem dX9_weeks_20 : decode cX9_weeks 20 = .ok (.iadd, 1) := by decide +kernel
theorem dX9_weeks_21 : decode cX9_weeks 21 = .ok (.bipush 52, 2) := by decide +kernel
theorem dX9_weeks_23 : decode cX9_weeks 23 = .ok (.if_icmp .le 5, 3) := by decide +kernel
theorem dX9_weeks_26 : decode cX9_weeks 26 = .ok (.iconst (-1), 1) := by decide +kernel
theorem dX9_weeks_27 : decode cX9_weeks 27 = .ok (.ireturn, 1) := by decide +kernel
theorem dX9_weeks_28 : decode cX9_weeks 28 = .ok (.aload_n 0, 1) := by decide +kernel
theorem dX9_weeks_29 : decode cX9_weeks 29 = .ok (.dup, 1) := by decide +kernel
theorem dX9_weeks_30 : decode cX9_weeks 30 = .ok (.getfield 197, 3) := by decide +kernel
theorem dX9_weeks_33 : decode cX9_weeks 33 = .ok (.iload_n 1, 1) := by decide +kernel
theorem dX9_weeks_34 : decode cX9_weeks 34 = .ok (.iadd, 1) := by decide +kernel
theorem dX9_weeks_35 : decode cX9_weeks 35 = .ok (.putfield 197, 3) := by decide +kernel
theorem dX9_weeks_38 : decode cX9_weeks 38 = .ok (.aload_n 0, 1) := by decide +kernel
theorem dX9_weeks_39 : decode cX9_weeks 39 = .ok (.aload_n 0, 1) := by decide +kernel
theorem dX9_weeks_40 : decode cX9_weeks 40 = .ok (.getfield 197, 3) := by decide +kernel
theorem dX9_weeks_43 : decode cX9_weeks 43 = .ok (.invokevirtual 256, 3) := by decide +kernel
theorem dX9_weeks_46 : decode cX9_weeks 46 = .ok (.aload_n 0, 1) := by decide +kernel
theorem dX9_weeks_47 : decode cX9_weeks 47 = .ok (.getfield 197, 3) := by decide +kernel
theorem dX9_weeks_50 : decode cX9_weeks 50 = .ok (.ireturn, 1) := by decide +kernel
theorem dX9_year_0 : decode cX9_year 0 = .ok (.aload_n 0, 1) := by decide +kernel
theorem dX9_year_1 : decode cX9_year 1 = .ok (.iconst 0, 1) := by decide +kernel
theorem dX9_year_2 : decode cX9_year 2 = .ok (.putfield 1, 3) := by decide +kernel
theorem dX9_year_5 : decode cX9_year 5 = .ok (.aload_n 0, 1) := by decide +kernel
theorem dX9_year_6 : decode cX9_year 6 = .ok (.bipush 52, 2) := by decide +kernel
theorem dX9_year_8 : decode cX9_year 8 = .ok (.invokevirtual 256, 3) := by decide +kernel
theorem dX9_year_11 : decode cX9_year 11 = .ok (.aload_n 0, 1) := by decide +kernel
theorem dX9_year_12 : decode cX9_year 12 = .ok (.dup, 1) := by decide +kernel
theorem dX9_year_13 : decode cX9_year 13 = .ok (.getfield 206, 3) := by decide +kernel
theorem dX9_year_16 : decode cX9_year 16 = .ok (.iconst 1, 1) := by decide +kernel
theorem dX9_year_17 : decode cX9_year 17 = .ok (.iadd, 1) := by decide +kernel
theorem dX9_year_18 : decode cX9_year 18 = .ok (.putfield 206, 3) := by decide +kernel
theorem dX9_year_21 : decode cX9_year 21 = .ok (.aload_n 0, 1) := by decide +kernel
theorem dX9_year_22 : decode cX9_year 22 = .ok (.iconst 0, 1) := by decide +kernel
theorem dX9_year_23 : decode cX9_year 23 = .ok (.putfield 197, 3) := by decide +kernel
theorem dX9_year_26 : decode cX9_year 26 = .ok (.iconst 0, 1) := by decide +kernel
theorem dX9_year_27 : decode cX9_year 27 = .ok (.istore_n 1, 1) := by decide +kernel
theorem dX9_year_28 : decode cX9_year 28 = .ok (.iload_n 1, 1) := by decide +kernel
theorem dX9_year_29 : decode cX9_year 29 = .ok (.sipush 318, 3) := by decide +kernel
theorem dX9_year_32 : decode cX9_year 32 = .ok (.if_icmp .ge 16, 3) := by decide +kernel
theorem dX9_year_35 : decode cX9_year 35 = .ok (.aload_n 0, 1) := by decide +kernel
theorem dX9_year_36 : decode cX9_year 36 = .ok (.getfield 36, 3) := by decide +kernel
theorem dX9_year_39 : decode cX9_year 39 = .ok (.iload_n 1, 1) := by decide +kernel
theorem dX9_year_40 : decode cX9_year 40 = .ok (.iconst 0, 1) := by decide +kernel
theorem dX9_year_41 : decode cX9_year 41 = .ok (.bastore, 1) := by decide +kernel
theorem dX9_year_42 : decode cX9_year 42 = .ok (.iinc 1 1, 3) := by decide +kernel
theorem dX9_year_45 : decode cX9_year 45 = .ok (.goto (-17), 3) := by decide +kernel
theorem dX9_year_48 : decode cX9_year 48 = .ok (.aload_n 0, 1) := by decide +kernel
theorem dX9_year_49 : decode cX9_year 49 = .ok (.getfield 206, 3) := by decide +kernel
theorem dX9_year_52 : decode cX9_year 52 = .ok (.ireturn, 1) := by decide +kernel
theorem dX9_owned_0 : decode cX9_owned 0 = .ok (.iconst 0, 1) := by decide +kernel
theorem dX9_owned_1 : decode cX9_owned 1 = .ok (.istore_n 2, 1) := by decide +kernel
theorem dX9_owned_2 : decode cX9_owned 2 = .ok (.iconst 0, 1) := by decide +kernel
theorem dX9_owned_3 : decode cX9_owned 3 = .ok (.istore_n 3, 1) := by decide +kernel
theorem dX9_owned_4 : decode cX9_owned 4 = .ok (.iload_n 3, 1) := by decide +kernel
theorem dX9_owned_5 : decode cX9_owned 5 = .ok (.sipush 318, 3) := by decide +kernel
theorem dX9_owned_8 : decode cX9_owned 8 = .ok (.if_icmp .ge 22, 3) := by decide +kernel
theorem dX9_owned_11 : decode cX9_owned 11 = .ok (.aload_n 0, 1) := by decide +kernel
theorem dX9_owned_12 : decode cX9_owned 12 = .ok (.getfield 33, 3) := by decide +kernel
theorem dX9_owned_15 : decode cX9_owned 15 = .ok (.iload_n 3, 1) := by decide +kernel
theorem dX9_owned_16 : decode cX9_owned 16 = .ok (.iaload, 1) := by decide +kernel
theorem dX9_owned_17 : decode cX9_owned 17 = .ok (.iload_n 1, 1) := by decide +kernel
theorem dX9_owned_18 : decode cX9_owned 18 = .ok (.if_icmp .ne 6, 3) := by decide +kernel
theorem dX9_owned_21 : decode cX9_owned 21 = .ok (.iinc 2 1, 3) := by decide +kernel
theorem dX9_owned_24 : decode cX9_owned 24 = .ok (.iinc 3 1, 3) := by decide +kernel
theorem dX9_owned_27 : decode cX9_owned 27 = .ok (.goto (-23), 3) := by decide +kernel
theorem dX9_owned_30 : decode cX9_owned 30 = .ok (.iload_n 2, 1) := by decide +kernel
theorem dX9_owned_31 : decode cX9_owned 31 = .ok (.ireturn, 1) := by decide +kernel
theorem dX9_dies_0 : decode cX9_dies 0 = .ok (.aload_n 0, 1) := by decide +kernel
theorem dX9_dies_1 : decode cX9_dies 1 = .ok (.iconst 0, 1) := by decide +kernel
theorem dX9_dies_2 : decode cX9_dies 2 = .ok (.putfield 1, 3) := by decide +kernel
theorem dX9_dies_5 : decode cX9_dies 5 = .ok (.aload_n 0, 1) := by decide +kernel
theorem dX9_dies_6 : decode cX9_dies 6 = .ok (.iload_n 1, 1) := by decide +kernel
theorem dX9_dies_7 : decode cX9_dies 7 = .ok (.invokevirtual 114, 3) := by decide +kernel
theorem dX9_dies_10 : decode cX9_dies 10 = .ok (.ifCond .eq 16, 3) := by decide +kernel
theorem dX9_dies_13 : decode cX9_dies 13 = .ok (.aload_n 0, 1) := by decide +kernel
theorem dX9_dies_14 : decode cX9_dies 14 = .ok (.iload_n 2, 1) := by decide +kernel
theorem dX9_dies_15 : decode cX9_dies 15 = .ok (.invokevirtual 114, 3) := by decide +kernel
theorem dX9_dies_18 : decode cX9_dies 18 = .ok (.ifCond .eq 8, 3) := by decide +kernel
theorem dX9_dies_21 : decode cX9_dies 21 = .ok (.iload_n 1, 1) := by decide +kernel
theorem dX9_dies_22 : decode cX9_dies 22 = .ok (.iload_n 2, 1) := by decide +kernel
theorem dX9_dies_23 : decode cX9_dies 23 = .ok (.if_icmp .ne 5, 3) := by decide +kernel
theorem dX9_dies_26 : decode cX9_dies 26 = .ok (.iconst (-1), 1) := by decide +kernel
theorem dX9_dies_27 : decode cX9_dies 27 = .ok (.ireturn, 1) := by decide +kernel
theorem dX9_dies_28 : decode cX9_dies 28 = .ok (.iload_n 3, 1) := by decide +kernel
theorem dX9_dies_29 : decode cX9_dies 29 = .ok (.ifCond .ne 10, 3) := by decide +kernel
theorem dX9_dies_32 : decode cX9_dies 32 = .ok (.aload_n 0, 1) := by decide +kernel
theorem dX9_dies_33 : decode cX9_dies 33 = .ok (.invokevirtual 259, 3) := by decide +kernel
theorem dX9_dies_36 : decode cX9_dies 36 = .ok (.ifCond .eq 7, 3) := by decide +kernel
theorem dX9_dies_39 : decode cX9_dies 39 = .ok (.iconst 1, 1) := by decide +kernel
theorem dX9_dies_40 : decode cX9_dies 40 = .ok (.goto 4, 3) := by decide +kernel
theorem dX9_dies_43 : decode cX9_dies 43 = .ok (.iconst 0, 1) := by decide +kernel
theorem dX9_dies_44 : decode cX9_dies 44 = .ok (.istore 4, 2) := by decide +kernel
theorem dX9_dies_46 : decode cX9_dies 46 = .ok (.iconst 0, 1) := by decide +kernel
theorem dX9_dies_47 : decode cX9_dies 47 = .ok (.istore 5, 2) := by decide +kernel
theorem dX9_dies_49 : decode cX9_dies 49 = .ok (.iconst 0, 1) := by decide +kernel
theorem dX9_dies_50 : decode cX9_dies 50 = .ok (.istore 6, 2) := by decide +kernel
theorem dX9_dies_52 : decode cX9_dies 52 = .ok (.iload 6, 2) := by decide +kernel
theorem dX9_dies_54 : decode cX9_dies 54 = .ok (.sipush 318, 3) := by decide +kernel
theorem dX9_dies_57 : decode cX9_dies 57 = .ok (.if_icmp .ge 48, 3) := by decide +kernel
theorem dX9_dies_60 : decode cX9_dies 60 = .ok (.aload_n 0, 1) := by decide +kernel
theorem dX9_dies_61 : decode cX9_dies 61 = .ok (.getfield 33, 3) := by decide +kernel
theorem dX9_dies_64 : decode cX9_dies 64 = .ok (.iload 6, 2) := by decide +kernel
theorem dX9_dies_66 : decode cX9_dies 66 = .ok (.iaload, 1) := by decide +kernel
theorem dX9_dies_67 : decode cX9_dies 67 = .ok (.iload_n 1, 1) := by decide +kernel
theorem dX9_dies_68 : decode cX9_dies 68 = .ok (.if_icmp .eq 6, 3) := by decide +kernel
theorem dX9_dies_71 : decode cX9_dies 71 = .ok (.goto 28, 3) := by decide +kernel
theorem dX9_dies_74 : decode cX9_dies 74 = .ok (.aload_n 0, 1) := by decide +kernel
theorem dX9_dies_75 : decode cX9_dies 75 = .ok (.getfield 33, 3) := by decide +kernel
theorem dX9_dies_78 : decode cX9_dies 78 = .ok (.iload 6, 2) := by decide +kernel
theorem dX9_dies_80 : decode cX9_dies 80 = .ok (.iload 4, 2) := by decide +kernel
theorem dX9_dies_82 : decode cX9_dies 82 = .ok (.ifCond .eq 7, 3) := by decide +kernel
theorem dX9_dies_85 : decode cX9_dies 85 = .ok (.iload_n 2, 1) := by decide +kernel
theorem dX9_dies_86 : decode cX9_dies 86 = .ok (.goto 4, 3) := by decide +kernel
theorem dX9_dies_89 : decode cX9_dies 89 = .ok (.iconst (-1), 1) := by decide +kernel
theorem dX9_dies_90 : decode cX9_dies 90 = .ok (.iastore, 1) := by decide +kernel
theorem dX9_dies_91 : decode cX9_dies 91 = .ok (.iload 4, 2) := by decide +kernel
theorem dX9_dies_93 : decode cX9_dies 93 = .ok (.ifCond .eq 6, 3) := by decide +kernel
theorem dX9_dies_96 : decode cX9_dies 96 = .ok (.iinc 5 1, 3) := by decide +kernel
theorem dX9_dies_99 : decode cX9_dies 99 = .ok (.iinc 6 1, 3) := by decide +kernel
theorem dX9_dies_102 : decode cX9_dies 102 = .ok (.goto (-50), 3) := by decide +kernel
theorem dX9_dies_105 : decode cX9_dies 105 = .ok (.iload 4, 2) := by decide +kernel
theorem dX9_dies_107 : decode cX9_dies 107 = .ok (.ifCond .eq 18, 3) := by decide +kernel
theorem dX9_dies_110 : decode cX9_dies 110 = .ok (.aload_n 0, 1) := by decide +kernel
theorem dX9_dies_111 : decode cX9_dies 111 = .ok (.getfield 23, 3) := by decide +kernel
theorem dX9_dies_114 : decode cX9_dies 114 = .ok (.iload_n 2, 1) := by decide +kernel
theorem dX9_dies_115 : decode cX9_dies 115 = .ok (.dup2, 1) := by decide +kernel
theorem dX9_dies_116 : decode cX9_dies 116 = .ok (.iaload, 1) := by decide +kernel
theorem dX9_dies_117 : decode cX9_dies 117 = .ok (.aload_n 0, 1) := by decide +kernel
theorem dX9_dies_118 : decode cX9_dies 118 = .ok (.getfield 23, 3) := by decide +kernel
theorem dX9_dies_121 : decode cX9_dies 121 = .ok (.iload_n 1, 1) := by decide +kernel
theorem dX9_dies_122 : decode cX9_dies 122 = .ok (.iaload, 1) := by decide +kernel
theorem dX9_dies_123 : decode cX9_dies 123 = .ok (.iadd, 1) := by decide +kernel
theorem dX9_dies_124 : decode cX9_dies 124 = .ok (.iastore, 1) := by decide +kernel
theorem dX9_dies_125 : decode cX9_dies 125 = .ok (.aload_n 0, 1) := by decide +kernel
theorem dX9_dies_126 : decode cX9_dies 126 = .ok (.getfield 23, 3) := by decide +kernel
theorem dX9_dies_129 : decode cX9_dies 129 = .ok (.iload_n 1, 1) := by decide +kernel
theorem dX9_dies_130 : decode cX9_dies 130 = .ok (.iconst 0, 1) := by decide +kernel
theorem dX9_dies_131 : decode cX9_dies 131 = .ok (.iastore, 1) := by decide +kernel
theorem dX9_dies_132 : decode cX9_dies 132 = .ok (.aload_n 0, 1) := by decide +kernel
theorem dX9_dies_133 : decode cX9_dies 133 = .ok (.getfield 29, 3) := by decide +kernel
theorem dX9_dies_136 : decode cX9_dies 136 = .ok (.iload_n 1, 1) := by decide +kernel
theorem dX9_dies_137 : decode cX9_dies 137 = .ok (.iconst 1, 1) := by decide +kernel
theorem dX9_dies_138 : decode cX9_dies 138 = .ok (.bastore, 1) := by decide +kernel
theorem dX9_dies_139 : decode cX9_dies 139 = .ok (.aload_n 0, 1) := by decide +kernel
theorem dX9_dies_140 : decode cX9_dies 140 = .ok (.getfield 76, 3) := by decide +kernel
theorem dX9_dies_143 : decode cX9_dies 143 = .ok (.iconst 4, 1) := by decide +kernel
theorem dX9_dies_144 : decode cX9_dies 144 = .ok (.sipush 200, 3) := by decide +kernel
theorem dX9_dies_147 : decode cX9_dies 147 = .ok (.iload_n 1, 1) := by decide +kernel
theorem dX9_dies_148 : decode cX9_dies 148 = .ok (.iadd, 1) := by decide +kernel
theorem dX9_dies_149 : decode cX9_dies 149 = .ok (.imul, 1) := by decide +kernel
theorem dX9_dies_150 : decode cX9_dies 150 = .ok (.iconst 3, 1) := by decide +kernel
theorem dX9_dies_151 : decode cX9_dies 151 = .ok (.iadd, 1) := by decide +kernel
theorem dX9_dies_152 : decode cX9_dies 152 = .ok (.iconst 0, 1) := by decide +kernel
theorem dX9_dies_153 : decode cX9_dies 153 = .ok (.iastore, 1) := by decide +kernel
theorem dX9_dies_154 : decode cX9_dies 154 = .ok (.iconst 0, 1) := by decide +kernel
theorem dX9_dies_155 : decode cX9_dies 155 = .ok (.istore 6, 2) := by decide +kernel
theorem dX9_dies_157 : decode cX9_dies 157 = .ok (.iload 6, 2) := by decide +kernel
theorem dX9_dies_159 : decode cX9_dies 159 = .ok (.aload_n 0, 1) := by decide +kernel
theorem dX9_dies_160 : decode cX9_dies 160 = .ok (.getfield 203, 3) := by decide +kernel
theorem dX9_dies_163 : decode cX9_dies 163 = .ok (.if_icmp .ge 38, 3) := by decide +kernel
theorem dX9_dies_166 : decode cX9_dies 166 = .ok (.aload_n 0, 1) := by decide +kernel
theorem dX9_dies_167 : decode cX9_dies 167 = .ok (.getfield 52, 3) := by decide +kernel
theorem dX9_dies_170 : decode cX9_dies 170 = .ok (.iload 6, 2) := by decide +kernel
theorem dX9_dies_172 : decode cX9_dies 172 = .ok (.iaload, 1) := by decide +kernel
theorem dX9_dies_173 : decode cX9_dies 173 = .ok (.iload_n 1, 1) := by decide +kernel
theorem dX9_dies_174 : decode cX9_dies 174 = .ok (.if_icmp .ne 21, 3) := by decide +kernel
theorem dX9_dies_177 : decode cX9_dies 177 = .ok (.aload_n 0, 1) := by decide +kernel
theorem dX9_dies_178 : decode cX9_dies 178 = .ok (.getfield 67, 3) := by decide +kernel
theorem dX9_dies_181 : decode cX9_dies 181 = .ok (.iload 6, 2) := by decide +kernel
theorem dX9_dies_183 : decode cX9_dies 183 = .ok (.iaload, 1) := by decide +kernel
theorem dX9_dies_184 : decode cX9_dies 184 = .ok (.ifCond .ne 11, 3) := by decide +kernel
theorem dX9_dies_187 : decode cX9_dies 187 = .ok (.aload_n 0, 1) := by decide +kernel
theorem dX9_dies_188 : decode cX9_dies 188 = .ok (.getfield 67, 3) := by decide +kernel
theorem dX9_dies_191 : decode cX9_dies 191 = .ok (.iload 6, 2) := by decide +kernel
theorem dX9_dies_193 : decode cX9_dies 193 = .ok (.iconst 4, 1) := by decide +kernel
theorem dX9_dies_194 : decode cX9_dies 194 = .ok (.iastore, 1) := by decide +kernel
theorem dX9_dies_195 : decode cX9_dies 195 = .ok (.iinc 6 1, 3) := by decide +kernel
theorem dX9_dies_198 : decode cX9_dies 198 = .ok (.goto (-41), 3) := by decide +kernel
theorem dX9_dies_201 : decode cX9_dies 201 = .ok (.iload 5, 2) := by decide +kernel
theorem dX9_dies_203 : decode cX9_dies 203 = .ok (.ireturn, 1) := by decide +kernel
theorem dX9_weeksThatStay_0 : decode cX9_weeksThatStay 0 = .ok (.iconst 0, 1) := by decide +kernel
theorem dX9_weeksThatStay_1 : decode cX9_weeksThatStay 1 = .ok (.istore_n 1, 1) := by decide +kernel
theorem dX9_weeksThatStay_2 : decode cX9_weeksThatStay 2 = .ok (.iconst 0, 1) := by decide +kernel
theorem dX9_weeksThatStay_3 : decode cX9_weeksThatStay 3 = .ok (.istore_n 2, 1) := by decide +kernel
theorem dX9_weeksThatStay_4 : decode cX9_weeksThatStay 4 = .ok (.iload_n 2, 1) := by decide +kernel
theorem dX9_weeksThatStay_5 : decode cX9_weeksThatStay 5 = .ok (.aload_n 0, 1) := by decide +kernel
theorem dX9_weeksThatStay_6 : decode cX9_weeksThatStay 6 = .ok (.getfield 107, 3) := by decide +kernel
theorem dX9_weeksThatStay_9 : decode cX9_weeksThatStay 9 = .ok (.if_icmp .ge 26, 3) := by decide +kernel
theorem dX9_weeksThatStay_12 : decode cX9_weeksThatStay 12 = .ok (.aload_n 0, 1) := by decide +kernel
theorem dX9_weeksThatStay_13 : decode cX9_weeksThatStay 13 = .ok (.getfield 97, 3) := by decide +kernel
theorem dX9_weeksThatStay_16 : decode cX9_weeksThatStay 16 = .ok (.iload_n 2, 1) := by decide +kernel
theorem dX9_weeksThatStay_17 : decode cX9_weeksThatStay 17 = .ok (.baload, 1) := by decide +kernel
theorem dX9_weeksThatStay_18 : decode cX9_weeksThatStay 18 = .ok (.ifCond .eq 11, 3) := by decide +kernel
theorem dX9_weeksThatStay_21 : decode cX9_weeksThatStay 21 = .ok (.iload_n 1, 1) := by decide +kernel
theorem dX9_weeksThatStay_22 : decode cX9_weeksThatStay 22 = .ok (.aload_n 0, 1) := by decide +kernel
theorem dX9_weeksThatStay_23 : decode cX9_weeksThatStay 23 = .ok (.iload_n 2, 1) := by decide +kernel
theorem dX9_weeksThatStay_24 : decode cX9_weeksThatStay 24 = .ok (.invokevirtual 263, 3) := by decide +kernel
theorem dX9_weeksThatStay_27 : decode cX9_weeksThatStay 27 = .ok (.iadd, 1) := by decide +kernel
theorem dX9_weeksThatStay_28 : decode cX9_weeksThatStay 28 = .ok (.istore_n 1, 1) := by decide +kernel
theorem dX9_weeksThatStay_29 : decode cX9_weeksThatStay 29 = .ok (.iinc 2 1, 3) := by decide +kernel
theorem dX9_weeksThatStay_32 : decode cX9_weeksThatStay 32 = .ok (.goto (-28), 3) := by decide +kernel
theorem dX9_weeksThatStay_35 : decode cX9_weeksThatStay 35 = .ok (.iload_n 1, 1) := by decide +kernel
theorem dX9_weeksThatStay_36 : decode cX9_weeksThatStay 36 = .ok (.ireturn, 1) := by decide +kernel
theorem dX9_fees_0 : decode cX9_fees 0 = .ok (.aload_n 0, 1) := by decide +kernel
theorem dX9_fees_1 : decode cX9_fees 1 = .ok (.iconst 0, 1) := by decide +kernel
theorem dX9_fees_2 : decode cX9_fees 2 = .ok (.putfield 1, 3) := by decide +kernel
theorem dX9_fees_5 : decode cX9_fees 5 = .ok (.iload_n 1, 1) := by decide +kernel
theorem dX9_fees_6 : decode cX9_fees 6 = .ok (.iconst 1, 1) := by decide +kernel
theorem dX9_fees_7 : decode cX9_fees 7 = .ok (.ldc_w 266, 3) := by decide +kernel
theorem dX9_fees_10 : decode cX9_fees 10 = .ok (.invokestatic 100, 3) := by decide +kernel
theorem dX9_fees_13 : decode cX9_fees 13 = .ok (.ifCond .eq 12, 3) := by decide +kernel
theorem dX9_fees_16 : decode cX9_fees 16 = .ok (.iload_n 2, 1) := by decide +kernel
theorem dX9_fees_17 : decode cX9_fees 17 = .ok (.iconst 0, 1) := by decide +kernel
theorem dX9_fees_18 : decode cX9_fees 18 = .ok (.iconst 2, 1) := by decide +kernel
theorem dX9_fees_19 : decode cX9_fees 19 = .ok (.invokestatic 100, 3) := by decide +kernel
theorem dX9_fees_22 : decode cX9_fees 22 = .ok (.ifCond .ne 5, 3) := by decide +kernel
theorem dX9_fees_25 : decode cX9_fees 25 = .ok (.iconst (-1), 1) := by decide +kernel
theorem dX9_fees_26 : decode cX9_fees 26 = .ok (.ireturn, 1) := by decide +kernel
theorem dX9_fees_27 : decode cX9_fees 27 = .ok (.iconst 0, 1) := by decide +kernel
theorem dX9_fees_28 : decode cX9_fees 28 = .ok (.istore_n 3, 1) := by decide +kernel
theorem dX9_fees_29 : decode cX9_fees 29 = .ok (.iload_n 3, 1) := by decide +kernel
theorem dX9_fees_30 : decode cX9_fees 30 = .ok (.aload_n 0, 1) := by decide +kernel
theorem dX9_fees_31 : decode cX9_fees 31 = .ok (.getfield 107, 3) := by decide +kernel
theorem dX9_fees_34 : decode cX9_fees 34 = .ok (.if_icmp .ge 28, 3) := by decide +kernel
theorem dX9_fees_37 : decode cX9_fees 37 = .ok (.aload_n 0, 1) := by decide +kernel
theorem dX9_fees_38 : decode cX9_fees 38 = .ok (.getfield 97, 3) := by decide +kernel
theorem dX9_fees_41 : decode cX9_fees 41 = .ok (.iload_n 3, 1) := by decide +kernel
theorem dX9_fees_42 : decode cX9_fees 42 = .ok (.aload_n 0, 1) := by decide +kernel
theorem dX9_fees_43 : decode cX9_fees 43 = .ok (.iload_n 3, 1) := by decide +kernel
theorem dX9_fees_44 : decode cX9_fees 44 = .ok (.invokevirtual 263, 3) := by decide +kernel
theorem dX9_fees_47 : decode cX9_fees 47 = .ok (.ifCond .le 7, 3) := by decide +kernel
theorem dX9_fees_50 : decode cX9_fees 50 = .ok (.iconst 1, 1) := by decide +kernel
theorem dX9_fees_51 : decode cX9_fees 51 = .ok (.goto 4, 3) := by decide +kernel
theorem dX9_fees_54 : decode cX9_fees 54 = .ok (.iconst 0, 1) := by decide +kernel
theorem dX9_fees_55 : decode cX9_fees 55 = .ok (.bastore, 1) := by decide +kernel
theorem dX9_fees_56 : decode cX9_fees 56 = .ok (.iinc 3 1, 3) := by decide +kernel
theorem dX9_fees_59 : decode cX9_fees 59 = .ok (.goto (-30), 3) := by decide +kernel
theorem dX9_fees_62 : decode cX9_fees 62 = .ok (.iconst 0, 1) := by decide +kernel
theorem dX9_fees_63 : decode cX9_fees 63 = .ok (.istore_n 3, 1) := by decide +kernel
theorem dX9_fees_64 : decode cX9_fees 64 = .ok (.iconst 0, 1) := by decide +kernel
theorem dX9_fees_65 : decode cX9_fees 65 = .ok (.istore 4, 2) := by decide +kernel
theorem dX9_fees_67 : decode cX9_fees 67 = .ok (.iconst 1, 1) := by decide +kernel
theorem dX9_fees_68 : decode cX9_fees 68 = .ok (.istore 5, 2) := by decide +kernel
theorem dX9_fees_70 : decode cX9_fees 70 = .ok (.iload 5, 2) := by decide +kernel
theorem dX9_fees_72 : decode cX9_fees 72 = .ok (.ifCond .eq 97, 3) := by decide +kernel
theorem dX9_fees_75 : decode cX9_fees 75 = .ok (.aload_n 0, 1) := by decide +kernel
theorem dX9_fees_76 : decode cX9_fees 76 = .ok (.invokevirtual 267, 3) := by decide +kernel
theorem dX9_fees_79 : decode cX9_fees 79 = .ok (.istore 6, 2) := by decide +kernel
theorem dX9_fees_81 : decode cX9_fees 81 = .ok (.iload 6, 2) := by decide +kernel
theorem dX9_fees_83 : decode cX9_fees 83 = .ok (.ifCond .ne 7, 3) := by decide +kernel
theorem dX9_fees_86 : decode cX9_fees 86 = .ok (.iconst 0, 1) := by decide +kernel
theorem dX9_fees_87 : decode cX9_fees 87 = .ok (.goto 12, 3) := by decide +kernel
theorem dX9_fees_90 : decode cX9_fees 90 = .ok (.iload_n 1, 1) := by decide +kernel
theorem dX9_fees_91 : decode cX9_fees 91 = .ok (.iload 6, 2) := by decide +kernel
theorem dX9_fees_93 : decode cX9_fees 93 = .ok (.iadd, 1) := by decide +kernel
theorem dX9_fees_94 : decode cX9_fees 94 = .ok (.iconst 1, 1) := by decide +kernel
theorem dX9_fees_95 : decode cX9_fees 95 = .ok (.isub, 1) := by decide +kernel
theorem dX9_fees_96 : decode cX9_fees 96 = .ok (.iload 6, 2) := by decide +kernel
theorem dX9_fees_98 : decode cX9_fees 98 = .ok (.idiv, 1) := by decide +kernel
theorem dX9_fees_99 : decode cX9_fees 99 = .ok (.istore 4, 2) := by decide +kernel
theorem dX9_fees_101 : decode cX9_fees 101 = .ok (.iconst 0, 1) := by decide +kernel
theorem dX9_fees_102 : decode cX9_fees 102 = .ok (.istore 5, 2) := by decide +kernel
theorem dX9_fees_104 : decode cX9_fees 104 = .ok (.iconst 0, 1) := by decide +kernel
theorem dX9_fees_105 : decode cX9_fees 105 = .ok (.istore 7, 2) := by decide +kernel
theorem dX9_fees_107 : decode cX9_fees 107 = .ok (.iload 7, 2) := by decide +kernel
theorem dX9_fees_109 : decode cX9_fees 109 = .ok (.aload_n 0, 1) := by decide +kernel
theorem dX9_fees_110 : decode cX9_fees 110 = .ok (.getfield 107, 3) := by decide +kernel
theorem dX9_fees_113 : decode cX9_fees 113 = .ok (.if_icmp .ge 45, 3) := by decide +kernel
theorem dX9_fees_116 : decode cX9_fees 116 = .ok (.aload_n 0, 1) := by decide +kernel
theorem dX9_fees_117 : decode cX9_fees 117 = .ok (.getfield 97, 3) := by decide +kernel
theorem dX9_fees_120 : decode cX9_fees 120 = .ok (.iload 7, 2) := by decide +kernel
theorem dX9_fees_122 : decode cX9_fees 122 = .ok (.baload, 1) := by decide +kernel
theorem dX9_fees_123 : decode cX9_fees 123 = .ok (.ifCond .eq 29, 3) := by decide +kernel
theorem dX9_fees_126 : decode cX9_fees 126 = .ok (.aload_n 0, 1) := by decide +kernel
theorem dX9_fees_127 : decode cX9_fees 127 = .ok (.getfield 20, 3) := by decide +kernel
theorem dX9_fees_130 : decode cX9_fees 130 = .ok (.iload 7, 2) := by decide +kernel
theorem dX9_fees_132 : decode cX9_fees 132 = .ok (.iaload, 1) := by decide +kernel
theorem dX9_fees_133 : decode cX9_fees 133 = .ok (.iload 4, 2) := by decide +kernel
theorem dX9_fees_135 : decode cX9_fees 135 = .ok (.if_icmp .lt 6, 3) := by decide +kernel
theorem dX9_fees_138 : decode cX9_fees 138 = .ok (.goto 14, 3) := by decide +kernel
theorem dX9_fees_141 : decode cX9_fees 141 = .ok (.aload_n 0, 1) := by decide +kernel
theorem dX9_fees_142 : decode cX9_fees 142 = .ok (.getfield 97, 3) := by decide +kernel
theorem dX9_fees_145 : decode cX9_fees 145 = .ok (.iload 7, 2) := by decide +kernel
theorem dX9_fees_147 : decode cX9_fees 147 = .ok (.iconst 0, 1) := by decide +kernel
theorem dX9_fees_148 : decode cX9_fees 148 = .ok (.bastore, 1) := by decide +kernel
theorem dX9_fees_149 : decode cX9_fees 149 = .ok (.iconst 1, 1) := by decide +kernel
theorem dX9_fees_150 : decode cX9_fees 150 = .ok (.istore 5, 2) := by decide +kernel
theorem dX9_fees_152 : decode cX9_fees 152 = .ok (.iinc 7 1, 3) := by decide +kernel
theorem dX9_fees_155 : decode cX9_fees 155 = .ok (.goto (-48), 3) := by decide +kernel
theorem dX9_fees_158 : decode cX9_fees 158 = .ok (.iload 5, 2) := by decide +kernel
theorem dX9_fees_160 : decode cX9_fees 160 = .ok (.ifCond .eq 6, 3) := by decide +kernel
theorem dX9_fees_163 : decode cX9_fees 163 = .ok (.iinc 3 1, 3) := by decide +kernel
theorem dX9_fees_166 : decode cX9_fees 166 = .ok (.goto (-96), 3) := by decide +kernel
theorem dX9_fees_169 : decode cX9_fees 169 = .ok (.iconst 0, 1) := by decide +kernel
theorem dX9_fees_170 : decode cX9_fees 170 = .ok (.istore 6, 2) := by decide +kernel
theorem dX9_fees_172 : decode cX9_fees 172 = .ok (.iconst 0, 1) := by decide +kernel
theorem dX9_fees_173 : decode cX9_fees 173 = .ok (.istore 7, 2) := by decide +kernel
theorem dX9_fees_175 : decode cX9_fees 175 = .ok (.iload 7, 2) := by decide +kernel
theorem dX9_fees_177 : decode cX9_fees 177 = .ok (.aload_n 0, 1) := by decide +kernel
theorem dX9_fees_178 : decode cX9_fees 178 = .ok (.getfield 107, 3) := by decide +kernel
theorem dX9_fees_181 : decode cX9_fees 181 = .ok (.if_icmp .ge 22, 3) := by decide +kernel
theorem dX9_fees_184 : decode cX9_fees 184 = .ok (.aload_n 0, 1) := by decide +kernel
theorem dX9_fees_185 : decode cX9_fees 185 = .ok (.getfield 97, 3) := by decide +kernel
theorem dX9_fees_188 : decode cX9_fees 188 = .ok (.iload 7, 2) := by decide +kernel
theorem dX9_fees_190 : decode cX9_fees 190 = .ok (.baload, 1) := by decide +kernel
theorem dX9_fees_191 : decode cX9_fees 191 = .ok (.ifCond .eq 6, 3) := by decide +kernel
theorem dX9_fees_194 : decode cX9_fees 194 = .ok (.iinc 6 1, 3) := by decide +kernel
theorem dX9_fees_197 : decode cX9_fees 197 = .ok (.iinc 7 1, 3) := by decide +kernel
theorem dX9_fees_200 : decode cX9_fees 200 = .ok (.goto (-25), 3) := by decide +kernel
theorem dX9_fees_203 : decode cX9_fees 203 = .ok (.iload_n 2, 1) := by decide +kernel
theorem dX9_fees_204 : decode cX9_fees 204 = .ok (.ifCond .ne 8, 3) := by decide +kernel
theorem dX9_fees_207 : decode cX9_fees 207 = .ok (.iload 4, 2) := by decide +kernel
theorem dX9_fees_209 : decode cX9_fees 209 = .ok (.goto 14, 3) := by decide +kernel
theorem dX9_fees_212 : decode cX9_fees 212 = .ok (.iload_n 2, 1) := by decide +kernel
theorem dX9_fees_213 : decode cX9_fees 213 = .ok (.iconst 1, 1) := by decide +kernel
theorem dX9_fees_214 : decode cX9_fees 214 = .ok (.if_icmp .ne 7, 3) := by decide +kernel
theorem dX9_fees_217 : decode cX9_fees 217 = .ok (.iload_n 3, 1) := by decide +kernel
theorem dX9_fees_218 : decode cX9_fees 218 = .ok (.goto 5, 3) := by decide +kernel
theorem dX9_fees_221 : decode cX9_fees 221 = .ok (.iload 6, 2) := by decide +kernel
theorem dX9_fees_223 : decode cX9_fees 223 = .ok (.ireturn, 1) := by decide +kernel
theorem dX9_party_0 : decode cX9_party 0 = .ok (.aload_n 0, 1) := by decide +kernel
theorem dX9_party_1 : decode cX9_party 1 = .ok (.iconst 0, 1) := by decide +kernel
theorem dX9_party_2 : decode cX9_party 2 = .ok (.putfield 1, 3) := by decide +kernel
theorem dX9_party_5 : decode cX9_party 5 = .ok (.aload_n 0, 1) := by decide +kernel
theorem dX9_party_6 : decode cX9_party 6 = .ok (.iload_n 1, 1) := by decide +kernel
theorem dX9_party_7 : decode cX9_party 7 = .ok (.iload_n 2, 1) := by decide +kernel
theorem dX9_party_8 : decode cX9_party 8 = .ok (.invokevirtual 110, 3) := by decide +kernel
theorem dX9_party_11 : decode cX9_party 11 = .ok (.ifCond .ne 5, 3) := by decide +kernel
theorem dX9_party_14 : decode cX9_party 14 = .ok (.iconst (-1), 1) := by decide +kernel
theorem dX9_party_15 : decode cX9_party 15 = .ok (.ireturn, 1) := by decide +kernel
theorem dX9_party_16 : decode cX9_party 16 = .ok (.aload_n 0, 1) := by decide +kernel
theorem dX9_party_17 : decode cX9_party 17 = .ok (.iload_n 1, 1) := by decide +kernel
theorem dX9_party_18 : decode cX9_party 18 = .ok (.iload_n 2, 1) := by decide +kernel
theorem dX9_party_19 : decode cX9_party 19 = .ok (.invokevirtual 118, 3) := by decide +kernel
theorem dX9_party_22 : decode cX9_party 22 = .ok (.istore_n 3, 1) := by decide +kernel
theorem dX9_party_23 : decode cX9_party 23 = .ok (.iload_n 3, 1) := by decide +kernel
theorem dX9_party_24 : decode cX9_party 24 = .ok (.iconst (-1), 1) := by decide +kernel
theorem dX9_party_25 : decode cX9_party 25 = .ok (.if_icmp .eq 13, 3) := by decide +kernel
theorem dX9_party_28 : decode cX9_party 28 = .ok (.aload_n 0, 1) := by decide +kernel
theorem dX9_party_29 : decode cX9_party 29 = .ok (.getfield 67, 3) := by decide +kernel
theorem dX9_party_32 : decode cX9_party 32 = .ok (.iload_n 3, 1) := by decide +kernel
theorem dX9_party_33 : decode cX9_party 33 = .ok (.iaload, 1) := by decide +kernel
theorem dX9_party_34 : decode cX9_party 34 = .ok (.iconst 4, 1) := by decide +kernel
theorem dX9_party_35 : decode cX9_party 35 = .ok (.if_icmp .lt 15, 3) := by decide +kernel
theorem dX9_party_38 : decode cX9_party 38 = .ok (.aload_n 0, 1) := by decide +kernel
theorem dX9_party_39 : decode cX9_party 39 = .ok (.getfield 33, 3) := by decide +kernel
theorem dX9_party_42 : decode cX9_party 42 = .ok (.bipush 53, 2) := by decide +kernel
theorem dX9_party_44 : decode cX9_party 44 = .ok (.iload_n 1, 1) := by decide +kernel
theorem dX9_party_45 : decode cX9_party 45 = .ok (.imul, 1) := by decide +kernel
theorem dX9_party_46 : decode cX9_party 46 = .ok (.iload_n 2, 1) := by decide +kernel
theorem dX9_party_47 : decode cX9_party 47 = .ok (.iadd, 1) := by decide +kernel
theorem dX9_party_48 : decode cX9_party 48 = .ok (.iaload, 1) := by decide +kernel
theorem dX9_party_49 : decode cX9_party 49 = .ok (.ireturn, 1) := by decide +kernel
theorem dX9_party_50 : decode cX9_party 50 = .ok (.aload_n 0, 1) := by decide +kernel
theorem dX9_party_51 : decode cX9_party 51 = .ok (.getfield 67, 3) := by decide +kernel
theorem dX9_party_54 : decode cX9_party 54 = .ok (.iload_n 3, 1) := by decide +kernel
theorem dX9_party_55 : decode cX9_party 55 = .ok (.iaload, 1) := by decide +kernel
theorem dX9_party_56 : decode cX9_party 56 = .ok (.ifCond .eq 13, 3) := by decide +kernel
theorem dX9_party_59 : decode cX9_party 59 = .ok (.aload_n 0, 1) := by decide +kernel
theorem dX9_party_60 : decode cX9_party 60 = .ok (.getfield 67, 3) := by decide +kernel
theorem dX9_party_63 : decode cX9_party 63 = .ok (.iload_n 3, 1) := by decide +kernel
theorem dX9_party_64 : decode cX9_party 64 = .ok (.iaload, 1) := by decide +kernel
theorem dX9_party_65 : decode cX9_party 65 = .ok (.iconst 2, 1) := by decide +kernel
theorem dX9_party_66 : decode cX9_party 66 = .ok (.if_icmp .ne 8, 3) := by decide +kernel
theorem dX9_party_69 : decode cX9_party 69 = .ok (.bipush (-2), 2) := by decide +kernel
theorem dX9_party_71 : decode cX9_party 71 = .ok (.goto 9, 3) := by decide +kernel
theorem dX9_party_74 : decode cX9_party 74 = .ok (.aload_n 0, 1) := by decide +kernel
theorem dX9_party_75 : decode cX9_party 75 = .ok (.getfield 73, 3) := by decide +kernel
theorem dX9_party_78 : decode cX9_party 78 = .ok (.iload_n 3, 1) := by decide +kernel
theorem dX9_party_79 : decode cX9_party 79 = .ok (.iaload, 1) := by decide +kernel
theorem dX9_party_80 : decode cX9_party 80 = .ok (.ireturn, 1) := by decide +kernel
theorem dX9_of_0 : decode cX9_of 0 = .ok (.aload_n 0, 1) := by decide +kernel
theorem dX9_of_1 : decode cX9_of 1 = .ok (.iconst 0, 1) := by decide +kernel
theorem dX9_of_2 : decode cX9_of 2 = .ok (.putfield 1, 3) := by decide +kernel
theorem dX9_of_5 : decode cX9_of 5 = .ok (.iload_n 1, 1) := by decide +kernel
theorem dX9_of_6 : decode cX9_of 6 = .ok (.ifCond .lt 21, 3) := by decide +kernel
theorem dX9_of_9 : decode cX9_of 9 = .ok (.iload_n 1, 1) := by decide +kernel
theorem dX9_of_10 : decode cX9_of 10 = .ok (.aload_n 0, 1) := by decide +kernel
theorem dX9_of_11 : decode cX9_of 11 = .ok (.getfield 203, 3) := by decide +kernel
theorem dX9_of_14 : decode cX9_of 14 = .ok (.if_icmp .ge 13, 3) := by decide +kernel
theorem dX9_of_17 : decode cX9_of 17 = .ok (.iload_n 2, 1) := by decide +kernel
theorem dX9_of_18 : decode cX9_of 18 = .ok (.iconst 0, 1) := by decide +kernel
theorem dX9_of_19 : decode cX9_of 19 = .ok (.bipush 7, 2) := by decide +kernel
theorem dX9_of_21 : decode cX9_of 21 = .ok (.invokestatic 100, 3) := by decide +kernel
theorem dX9_of_24 : decode cX9_of 24 = .ok (.ifCond .ne 10, 3) := by decide +kernel
theorem dX9_of_27 : decode cX9_of 27 = .ok (.aload_n 0, 1) := by decide +kernel
theorem dX9_of_28 : decode cX9_of 28 = .ok (.iconst 1, 1) := by decide +kernel
theorem dX9_of_29 : decode cX9_of 29 = .ok (.putfield 1, 3) := by decide +kernel
theorem dX9_of_32 : decode cX9_of 32 = .ok (.iconst 0, 1) := by decide +kernel
theorem dX9_of_33 : decode cX9_of 33 = .ok (.ireturn, 1) := by decide +kernel
theorem dX9_of_34 : decode cX9_of 34 = .ok (.iload_n 2, 1) := by decide +kernel
theorem dX9_of_35 : decode cX9_of 35 = .ok (.tableswitch 104 0 6 #[41, 48, 55, 62, 69, 76, 83], 41) := by decide +kernel
theorem dX9_of_76 : decode cX9_of 76 = .ok (.aload_n 0, 1) := by decide +kernel
theorem dX9_of_77 : decode cX9_of 77 = .ok (.getfield 52, 3) := by decide +kernel
theorem dX9_of_80 : decode cX9_of 80 = .ok (.iload_n 1, 1) := by decide +kernel
theorem dX9_of_81 : decode cX9_of 81 = .ok (.iaload, 1) := by decide +kernel
theorem dX9_of_82 : decode cX9_of 82 = .ok (.ireturn, 1) := by decide +kernel
theorem dX9_of_83 : decode cX9_of 83 = .ok (.aload_n 0, 1) := by decide +kernel
theorem dX9_of_84 : decode cX9_of 84 = .ok (.getfield 55, 3) := by decide +kernel
theorem dX9_of_87 : decode cX9_of 87 = .ok (.iload_n 1, 1) := by decide +kernel
theorem dX9_of_88 : decode cX9_of 88 = .ok (.iaload, 1) := by decide +kernel
theorem dX9_of_89 : decode cX9_of 89 = .ok (.ireturn, 1) := by decide +kernel
theorem dX9_of_90 : decode cX9_of 90 = .ok (.aload_n 0, 1) := by decide +kernel
theorem dX9_of_91 : decode cX9_of 91 = .ok (.getfield 58, 3) := by decide +kernel
theorem dX9_of_94 : decode cX9_of 94 = .ok (.iload_n 1, 1) := by decide +kernel
theorem dX9_of_95 : decode cX9_of 95 = .ok (.iaload, 1) := by decide +kernel
theorem dX9_of_96 : decode cX9_of 96 = .ok (.ireturn, 1) := by decide +kernel
theorem dX9_of_97 : decode cX9_of 97 = .ok (.aload_n 0, 1) := by decide +kernel
theorem dX9_of_98 : decode cX9_of 98 = .ok (.getfield 61, 3) := by decide +kernel
theorem dX9_of_101 : decode cX9_of 101 = .ok (.iload_n 1, 1) := by decide +kernel
theorem dX9_of_102 : decode cX9_of 102 = .ok (.iaload, 1) := by decide +kernel
theorem dX9_of_103 : decode cX9_of 103 = .ok (.ireturn, 1) := by decide +kernel
theorem dX9_of_104 : decode cX9_of 104 = .ok (.aload_n 0, 1) := by decide +kernel
theorem dX9_of_105 : decode cX9_of 105 = .ok (.getfield 64, 3) := by decide +kernel
theorem dX9_of_108 : decode cX9_of 108 = .ok (.iload_n 1, 1) := by decide +kernel
theorem dX9_of_109 : decode cX9_of 109 = .ok (.iaload, 1) := by decide +kernel
theorem dX9_of_110 : decode cX9_of 110 = .ok (.ireturn, 1) := by decide +kernel
theorem dX9_of_111 : decode cX9_of 111 = .ok (.aload_n 0, 1) := by decide +kernel
theorem dX9_of_112 : decode cX9_of 112 = .ok (.getfield 67, 3) := by decide +kernel
theorem dX9_of_115 : decode cX9_of 115 = .ok (.iload_n 1, 1) := by decide +kernel
theorem dX9_of_116 : decode cX9_of 116 = .ok (.iaload, 1) := by decide +kernel
theorem dX9_of_117 : decode cX9_of 117 = .ok (.ireturn, 1) := by decide +kernel
theorem dX9_of_118 : decode cX9_of 118 = .ok (.aload_n 0, 1) := by decide +kernel
theorem dX9_of_119 : decode cX9_of 119 = .ok (.getfield 67, 3) := by decide +kernel
theorem dX9_of_122 : decode cX9_of 122 = .ok (.iload_n 1, 1) := by decide +kernel
theorem dX9_of_123 : decode cX9_of 123 = .ok (.iaload, 1) := by decide +kernel
theorem dX9_of_124 : decode cX9_of 124 = .ok (.iconst 1, 1) := by decide +kernel
theorem dX9_of_125 : decode cX9_of 125 = .ok (.if_icmp .ne 12, 3) := by decide +kernel
theorem dX9_of_128 : decode cX9_of 128 = .ok (.aload_n 0, 1) := by decide +kernel
theorem dX9_of_129 : decode cX9_of 129 = .ok (.getfield 70, 3) := by decide +kernel
theorem dX9_of_132 : decode cX9_of 132 = .ok (.iload_n 1, 1) := by decide +kernel
theorem dX9_of_133 : decode cX9_of 133 = .ok (.iaload, 1) := by decide +kernel
theorem dX9_of_134 : decode cX9_of 134 = .ok (.goto 4, 3) := by decide +kernel
theorem dX9_of_137 : decode cX9_of 137 = .ok (.iconst (-1), 1) := by decide +kernel
theorem dX9_of_138 : decode cX9_of 138 = .ok (.ireturn, 1) := by decide +kernel
theorem dX9_of_139 : decode cX9_of 139 = .ok (.aload_n 0, 1) := by decide +kernel
theorem dX9_of_140 : decode cX9_of 140 = .ok (.getfield 67, 3) := by decide +kernel
theorem dX9_of_143 : decode cX9_of 143 = .ok (.iload_n 1, 1) := by decide +kernel
theorem dX9_of_144 : decode cX9_of 144 = .ok (.iaload, 1) := by decide +kernel
theorem dX9_of_145 : decode cX9_of 145 = .ok (.iconst 1, 1) := by decide +kernel
theorem dX9_of_146 : decode cX9_of 146 = .ok (.if_icmp .eq 13, 3) := by decide +kernel
theorem dX9_of_149 : decode cX9_of 149 = .ok (.aload_n 0, 1) := by decide +kernel
theorem dX9_of_150 : decode cX9_of 150 = .ok (.getfield 67, 3) := by decide +kernel
theorem dX9_of_153 : decode cX9_of 153 = .ok (.iload_n 1, 1) := by decide +kernel
theorem dX9_of_154 : decode cX9_of 154 = .ok (.iaload, 1) := by decide +kernel
theorem dX9_of_155 : decode cX9_of 155 = .ok (.iconst 3, 1) := by decide +kernel
theorem dX9_of_156 : decode cX9_of 156 = .ok (.if_icmp .ne 12, 3) := by decide +kernel
theorem dX9_of_159 : decode cX9_of 159 = .ok (.aload_n 0, 1) := by decide +kernel
theorem dX9_of_160 : decode cX9_of 160 = .ok (.getfield 73, 3) := by decide +kernel
theorem dX9_of_163 : decode cX9_of 163 = .ok (.iload_n 1, 1) := by decide +kernel
theorem dX9_of_164 : decode cX9_of 164 = .ok (.iaload, 1) := by decide +kernel
theorem dX9_of_165 : decode cX9_of 165 = .ok (.goto 4, 3) := by decide +kernel
theorem dX9_of_168 : decode cX9_of 168 = .ok (.iconst (-1), 1) := by decide +kernel
theorem dX9_of_169 : decode cX9_of 169 = .ok (.ireturn, 1) := by decide +kernel
theorem dX9_ownerOf_0 : decode cX9_ownerOf 0 = .ok (.aload_n 0, 1) := by decide +kernel
theorem dX9_ownerOf_1 : decode cX9_ownerOf 1 = .ok (.iconst 0, 1) := by decide +kernel
theorem dX9_ownerOf_2 : decode cX9_ownerOf 2 = .ok (.putfield 1, 3) := by decide +kernel
theorem dX9_ownerOf_5 : decode cX9_ownerOf 5 = .ok (.iload_n 1, 1) := by decide +kernel
theorem dX9_ownerOf_6 : decode cX9_ownerOf 6 = .ok (.ifCond .lt 11, 3) := by decide +kernel
theorem dX9_ownerOf_9 : decode cX9_ownerOf 9 = .ok (.iload_n 1, 1) := by decide +kernel
theorem dX9_ownerOf_10 : decode cX9_ownerOf 10 = .ok (.aload_n 0, 1) := by decide +kernel
theorem dX9_ownerOf_11 : decode cX9_ownerOf 11 = .ok (.getfield 107, 3) := by decide +kernel
theorem dX9_ownerOf_14 : decode cX9_ownerOf 14 = .ok (.if_icmp .lt 5, 3) := by decide +kernel
theorem dX9_ownerOf_17 : decode cX9_ownerOf 17 = .ok (.iconst (-1), 1) := by decide +kernel
theorem dX9_ownerOf_18 : decode cX9_ownerOf 18 = .ok (.ireturn, 1) := by decide +kernel
theorem dX9_ownerOf_19 : decode cX9_ownerOf 19 = .ok (.iload_n 2, 1) := by decide +kernel
theorem dX9_ownerOf_20 : decode cX9_ownerOf 20 = .ok (.tableswitch 105 0 5 #[40, 47, 54, 61, 67, 82], 40) := by decide +kernel
theorem dX9_ownerOf_60 : decode cX9_ownerOf 60 = .ok (.aload_n 0, 1) := by decide +kernel
theorem dX9_ownerOf_61 : decode cX9_ownerOf 61 = .ok (.getfield 23, 3) := by decide +kernel
theorem dX9_ownerOf_64 : decode cX9_ownerOf 64 = .ok (.iload_n 1, 1) := by decide +kernel
theorem dX9_ownerOf_65 : decode cX9_ownerOf 65 = .ok (.iaload, 1) := by decide +kernel
theorem dX9_ownerOf_66 : decode cX9_ownerOf 66 = .ok (.ireturn, 1) := by decide +kernel
theorem dX9_ownerOf_67 : decode cX9_ownerOf 67 = .ok (.aload_n 0, 1) := by decide +kernel
theorem dX9_ownerOf_68 : decode cX9_ownerOf 68 = .ok (.getfield 26, 3) := by decide +kernel
theorem dX9_ownerOf_71 : decode cX9_ownerOf 71 = .ok (.iload_n 1, 1) := by decide +kernel
theorem dX9_ownerOf_72 : decode cX9_ownerOf 72 = .ok (.iaload, 1) := by decide +kernel
theorem dX9_ownerOf_73 : decode cX9_ownerOf 73 = .ok (.ireturn, 1) := by decide +kernel
theorem dX9_ownerOf_74 : decode cX9_ownerOf 74 = .ok (.aload_n 0, 1) := by decide +kernel
theorem dX9_ownerOf_75 : decode cX9_ownerOf 75 = .ok (.getfield 20, 3) := by decide +kernel
theorem dX9_ownerOf_78 : decode cX9_ownerOf 78 = .ok (.iload_n 1, 1) := by decide +kernel
theorem dX9_ownerOf_79 : decode cX9_ownerOf 79 = .ok (.iaload, 1) := by decide +kernel
theorem dX9_ownerOf_80 : decode cX9_ownerOf 80 = .ok (.ireturn, 1) := by decide +kernel
theorem dX9_ownerOf_81 : decode cX9_ownerOf 81 = .ok (.aload_n 0, 1) := by decide +kernel
theorem dX9_ownerOf_82 : decode cX9_ownerOf 82 = .ok (.iload_n 1, 1) := by decide +kernel
theorem dX9_ownerOf_83 : decode cX9_ownerOf 83 = .ok (.invokevirtual 263, 3) := by decide +kernel
theorem dX9_ownerOf_86 : decode cX9_ownerOf 86 = .ok (.ireturn, 1) := by decide +kernel
theorem dX9_ownerOf_87 : decode cX9_ownerOf 87 = .ok (.aload_n 0, 1) := by decide +kernel
theorem dX9_ownerOf_88 : decode cX9_ownerOf 88 = .ok (.getfield 29, 3) := by decide +kernel
theorem dX9_ownerOf_91 : decode cX9_ownerOf 91 = .ok (.iload_n 1, 1) := by decide +kernel
theorem dX9_ownerOf_92 : decode cX9_ownerOf 92 = .ok (.baload, 1) := by decide +kernel
theorem dX9_ownerOf_93 : decode cX9_ownerOf 93 = .ok (.ifCond .eq 7, 3) := by decide +kernel
theorem dX9_ownerOf_96 : decode cX9_ownerOf 96 = .ok (.iconst 1, 1) := by decide +kernel
theorem dX9_ownerOf_97 : decode cX9_ownerOf 97 = .ok (.goto 4, 3) := by decide +kernel
theorem dX9_ownerOf_100 : decode cX9_ownerOf 100 = .ok (.iconst 0, 1) := by decide +kernel
theorem dX9_ownerOf_101 : decode cX9_ownerOf 101 = .ok (.ireturn, 1) := by decide +kernel
theorem dX9_ownerOf_102 : decode cX9_ownerOf 102 = .ok (.aload_n 0, 1) := by decide +kernel
theorem dX9_ownerOf_103 : decode cX9_ownerOf 103 = .ok (.getfield 76, 3) := by decide +kernel
theorem dX9_ownerOf_106 : decode cX9_ownerOf 106 = .ok (.iconst 4, 1) := by decide +kernel
theorem dX9_ownerOf_107 : decode cX9_ownerOf 107 = .ok (.sipush 200, 3) := by decide +kernel
theorem dX9_ownerOf_110 : decode cX9_ownerOf 110 = .ok (.iload_n 1, 1) := by decide +kernel
theorem dX9_ownerOf_111 : decode cX9_ownerOf 111 = .ok (.iadd, 1) := by decide +kernel
theorem dX9_ownerOf_112 : decode cX9_ownerOf 112 = .ok (.imul, 1) := by decide +kernel
theorem dX9_ownerOf_113 : decode cX9_ownerOf 113 = .ok (.iconst 3, 1) := by decide +kernel
theorem dX9_ownerOf_114 : decode cX9_ownerOf 114 = .ok (.iadd, 1) := by decide +kernel
theorem dX9_ownerOf_115 : decode cX9_ownerOf 115 = .ok (.iaload, 1) := by decide +kernel
theorem dX9_ownerOf_116 : decode cX9_ownerOf 116 = .ok (.ifCond .ne 7, 3) := by decide +kernel
theorem dX9_ownerOf_119 : decode cX9_ownerOf 119 = .ok (.iconst 0, 1) := by decide +kernel
theorem dX9_ownerOf_120 : decode cX9_ownerOf 120 = .ok (.goto 4, 3) := by decide +kernel
theorem dX9_ownerOf_123 : decode cX9_ownerOf 123 = .ok (.iconst 1, 1) := by decide +kernel
theorem dX9_ownerOf_124 : decode cX9_ownerOf 124 = .ok (.ireturn, 1) := by decide +kernel
theorem dX9_ownerOf_125 : decode cX9_ownerOf 125 = .ok (.iconst (-1), 1) := by decide +kernel
theorem dX9_ownerOf_126 : decode cX9_ownerOf 126 = .ok (.ireturn, 1) := by decide +kernel
theorem dX9_count_0 : decode cX9_count 0 = .ok (.aload_n 0, 1) := by decide +kernel
theorem dX9_count_1 : decode cX9_count 1 = .ok (.iconst 0, 1) := by decide +kernel
theorem dX9_count_2 : decode cX9_count 2 = .ok (.putfield 1, 3) := by decide +kernel
theorem dX9_count_5 : decode cX9_count 5 = .ok (.iconst 0, 1) := by decide +kernel
theorem dX9_count_6 : decode cX9_count 6 = .ok (.istore_n 2, 1) := by decide +kernel
theorem dX9_count_7 : decode cX9_count 7 = .ok (.iload_n 1, 1) := by decide +kernel
theorem dX9_count_8 : decode cX9_count 8 = .ok (.tableswitch 138 0 9 #[56, 61, 66, 71, 76, 81, 87, 93, 98, 111], 56) := by decide +kernel
theorem dX9_count_64 : decode cX9_count 64 = .ok (.aload_n 0, 1) := by decide +kernel
theorem dX9_count_65 : decode cX9_count 65 = .ok (.getfield 104, 3) := by decide +kernel
theorem dX9_count_68 : decode cX9_count 68 = .ok (.ireturn, 1) := by decide +kernel
theorem dX9_count_69 : decode cX9_count 69 = .ok (.aload_n 0, 1) := by decide +kernel
theorem dX9_count_70 : decode cX9_count 70 = .ok (.getfield 107, 3) := by decide +kernel
theorem dX9_count_73 : decode cX9_count 73 = .ok (.ireturn, 1) := by decide +kernel
theorem dX9_count_74 : decode cX9_count 74 = .ok (.aload_n 0, 1) := by decide +kernel
theorem dX9_count_75 : decode cX9_count 75 = .ok (.getfield 206, 3) := by decide +kernel
theorem dX9_count_78 : decode cX9_count 78 = .ok (.ireturn, 1) := by decide +kernel
theorem dX9_count_79 : decode cX9_count 79 = .ok (.aload_n 0, 1) := by decide +kernel
theorem dX9_count_80 : decode cX9_count 80 = .ok (.getfield 197, 3) := by decide +kernel
theorem dX9_count_83 : decode cX9_count 83 = .ok (.ireturn, 1) := by decide +kernel
theorem dX9_count_84 : decode cX9_count 84 = .ok (.aload_n 0, 1) := by decide +kernel
theorem dX9_count_85 : decode cX9_count 85 = .ok (.getfield 203, 3) := by decide +kernel
theorem dX9_count_88 : decode cX9_count 88 = .ok (.ireturn, 1) := by decide +kernel
theorem dX9_count_89 : decode cX9_count 89 = .ok (.aload_n 0, 1) := by decide +kernel
theorem dX9_count_90 : decode cX9_count 90 = .ok (.iconst 0, 1) := by decide +kernel
theorem dX9_count_91 : decode cX9_count 91 = .ok (.invokevirtual 209, 3) := by decide +kernel
theorem dX9_count_94 : decode cX9_count 94 = .ok (.ireturn, 1) := by decide +kernel
theorem dX9_count_95 : decode cX9_count 95 = .ok (.aload_n 0, 1) := by decide +kernel
theorem dX9_count_96 : decode cX9_count 96 = .ok (.iconst 2, 1) := by decide +kernel
theorem dX9_count_97 : decode cX9_count 97 = .ok (.invokevirtual 209, 3) := by decide +kernel
theorem dX9_count_100 : decode cX9_count 100 = .ok (.ireturn, 1) := by decide +kernel
theorem dX9_count_101 : decode cX9_count 101 = .ok (.aload_n 0, 1) := by decide +kernel
theorem dX9_count_102 : decode cX9_count 102 = .ok (.getfield 122, 3) := by decide +kernel
theorem dX9_count_105 : decode cX9_count 105 = .ok (.ireturn, 1) := by decide +kernel
theorem dX9_count_106 : decode cX9_count 106 = .ok (.aload_n 0, 1) := by decide +kernel
theorem dX9_count_107 : decode cX9_count 107 = .ok (.invokevirtual 259, 3) := by decide +kernel
theorem dX9_count_110 : decode cX9_count 110 = .ok (.ifCond .eq 7, 3) := by decide +kernel
theorem dX9_count_113 : decode cX9_count 113 = .ok (.iconst 1, 1) := by decide +kernel
theorem dX9_count_114 : decode cX9_count 114 = .ok (.goto 4, 3) := by decide +kernel
theorem dX9_count_117 : decode cX9_count 117 = .ok (.iconst 0, 1) := by decide +kernel
theorem dX9_count_118 : decode cX9_count 118 = .ok (.ireturn, 1) := by decide +kernel
theorem dX9_count_119 : decode cX9_count 119 = .ok (.iconst 0, 1) := by decide +kernel
theorem dX9_count_120 : decode cX9_count 120 = .ok (.istore_n 3, 1) := by decide +kernel
theorem dX9_count_121 : decode cX9_count 121 = .ok (.iload_n 3, 1) := by decide +kernel
theorem dX9_count_122 : decode cX9_count 122 = .ok (.aload_n 0, 1) := by decide +kernel
theorem dX9_count_123 : decode cX9_count 123 = .ok (.getfield 107, 3) := by decide +kernel
theorem dX9_count_126 : decode cX9_count 126 = .ok (.if_icmp .ge 18, 3) := by decide +kernel
theorem dX9_count_129 : decode cX9_count 129 = .ok (.iload_n 2, 1) := by decide +kernel
theorem dX9_count_130 : decode cX9_count 130 = .ok (.aload_n 0, 1) := by decide +kernel
theorem dX9_count_131 : decode cX9_count 131 = .ok (.getfield 23, 3) := by decide +kernel
theorem dX9_count_134 : decode cX9_count 134 = .ok (.iload_n 3, 1) := by decide +kernel
theorem dX9_count_135 : decode cX9_count 135 = .ok (.iaload, 1) := by decide +kernel
theorem dX9_count_136 : decode cX9_count 136 = .ok (.iadd, 1) := by decide +kernel
theorem dX9_count_137 : decode cX9_count 137 = .ok (.istore_n 2, 1) := by decide +kernel
theorem dX9_count_138 : decode cX9_count 138 = .ok (.iinc 3 1, 3) := by decide +kernel
theorem dX9_count_141 : decode cX9_count 141 = .ok (.goto (-20), 3) := by decide +kernel
theorem dX9_count_144 : decode cX9_count 144 = .ok (.iload_n 2, 1) := by decide +kernel
theorem dX9_count_145 : decode cX9_count 145 = .ok (.ireturn, 1) := by decide +kernel
theorem dX9_count_146 : decode cX9_count 146 = .ok (.iconst (-1), 1) := by decide +kernel
theorem dX9_count_147 : decode cX9_count 147 = .ok (.ireturn, 1) := by decide +kernel
theorem dJ6_bitCount_0f7a4_0 : decode cJ6_bitCount_0f7a4 0 = .ok (.iload_n 0, 1) := by decide +kernel
theorem dJ6_bitCount_0f7a4_1 : decode cJ6_bitCount_0f7a4 1 = .ok (.iload_n 0, 1) := by decide +kernel
theorem dJ6_bitCount_0f7a4_2 : decode cJ6_bitCount_0f7a4 2 = .ok (.iconst 1, 1) := by decide +kernel
theorem dJ6_bitCount_0f7a4_3 : decode cJ6_bitCount_0f7a4 3 = .ok (.iushr, 1) := by decide +kernel
theorem dJ6_bitCount_0f7a4_4 : decode cJ6_bitCount_0f7a4 4 = .ok (.ldc_w 265, 3) := by decide +kernel
theorem dJ6_bitCount_0f7a4_7 : decode cJ6_bitCount_0f7a4 7 = .ok (.iand, 1) := by decide +kernel
theorem dJ6_bitCount_0f7a4_8 : decode cJ6_bitCount_0f7a4 8 = .ok (.isub, 1) := by decide +kernel
theorem dJ6_bitCount_0f7a4_9 : decode cJ6_bitCount_0f7a4 9 = .ok (.istore_n 0, 1) := by decide +kernel
theorem dJ6_bitCount_0f7a4_10 : decode cJ6_bitCount_0f7a4 10 = .ok (.iload_n 0, 1) := by decide +kernel
theorem dJ6_bitCount_0f7a4_11 : decode cJ6_bitCount_0f7a4 11 = .ok (.ldc_w 266, 3) := by decide +kernel
theorem dJ6_bitCount_0f7a4_14 : decode cJ6_bitCount_0f7a4 14 = .ok (.iand, 1) := by decide +kernel
theorem dJ6_bitCount_0f7a4_15 : decode cJ6_bitCount_0f7a4 15 = .ok (.iload_n 0, 1) := by decide +kernel
theorem dJ6_bitCount_0f7a4_16 : decode cJ6_bitCount_0f7a4 16 = .ok (.iconst 2, 1) := by decide +kernel
theorem dJ6_bitCount_0f7a4_17 : decode cJ6_bitCount_0f7a4 17 = .ok (.iushr, 1) := by decide +kernel
theorem dJ6_bitCount_0f7a4_18 : decode cJ6_bitCount_0f7a4 18 = .ok (.ldc_w 266, 3) := by decide +kernel
theorem dJ6_bitCount_0f7a4_21 : decode cJ6_bitCount_0f7a4 21 = .ok (.iand, 1) := by decide +kernel
theorem dJ6_bitCount_0f7a4_22 : decode cJ6_bitCount_0f7a4 22 = .ok (.iadd, 1) := by decide +kernel
theorem dJ6_bitCount_0f7a4_23 : decode cJ6_bitCount_0f7a4 23 = .ok (.istore_n 0, 1) := by decide +kernel
theorem dJ6_bitCount_0f7a4_24 : decode cJ6_bitCount_0f7a4 24 = .ok (.iload_n 0, 1) := by decide +kernel
theorem dJ6_bitCount_0f7a4_25 : decode cJ6_bitCount_0f7a4 25 = .ok (.iload_n 0, 1) := by decide +kernel
theorem dJ6_bitCount_0f7a4_26 : decode cJ6_bitCount_0f7a4 26 = .ok (.iconst 4, 1) := by decide +kernel
theorem dJ6_bitCount_0f7a4_27 : decode cJ6_bitCount_0f7a4 27 = .ok (.iushr, 1) := by decide +kernel
theorem dJ6_bitCount_0f7a4_28 : decode cJ6_bitCount_0f7a4 28 = .ok (.iadd, 1) := by decide +kernel
theorem dJ6_bitCount_0f7a4_29 : decode cJ6_bitCount_0f7a4 29 = .ok (.ldc_w 267, 3) := by decide +kernel
theorem dJ6_bitCount_0f7a4_32 : decode cJ6_bitCount_0f7a4 32 = .ok (.iand, 1) := by decide +kernel
theorem dJ6_bitCount_0f7a4_33 : decode cJ6_bitCount_0f7a4 33 = .ok (.istore_n 0, 1) := by decide +kernel
theorem dJ6_bitCount_0f7a4_34 : decode cJ6_bitCount_0f7a4 34 = .ok (.iload_n 0, 1) := by decide +kernel
theorem dJ6_bitCount_0f7a4_35 : decode cJ6_bitCount_0f7a4 35 = .ok (.iload_n 0, 1) := by decide +kernel
theorem dJ6_bitCount_0f7a4_36 : decode cJ6_bitCount_0f7a4 36 = .ok (.bipush 8, 2) := by decide +kernel
theorem dJ6_bitCount_0f7a4_38 : decode cJ6_bitCount_0f7a4 38 = .ok (.iushr, 1) := by decide +kernel
theorem dJ6_bitCount_0f7a4_39 : decode cJ6_bitCount_0f7a4 39 = .ok (.iadd, 1) := by decide +kernel
theorem dJ6_bitCount_0f7a4_40 : decode cJ6_bitCount_0f7a4 40 = .ok (.istore_n 0, 1) := by decide +kernel
theorem dJ6_bitCount_0f7a4_41 : decode cJ6_bitCount_0f7a4 41 = .ok (.iload_n 0, 1) := by decide +kernel
theorem dJ6_bitCount_0f7a4_42 : decode cJ6_bitCount_0f7a4 42 = .ok (.iload_n 0, 1) := by decide +kernel
theorem dJ6_bitCount_0f7a4_43 : decode cJ6_bitCount_0f7a4 43 = .ok (.bipush 16, 2) := by decide +kernel
theorem dJ6_bitCount_0f7a4_45 : decode cJ6_bitCount_0f7a4 45 = .ok (.iushr, 1) := by decide +kernel
theorem dJ6_bitCount_0f7a4_46 : decode cJ6_bitCount_0f7a4 46 = .ok (.iadd, 1) := by decide +kernel
theorem dJ6_bitCount_0f7a4_47 : decode cJ6_bitCount_0f7a4 47 = .ok (.istore_n 0, 1) := by decide +kernel
theorem dJ6_bitCount_0f7a4_48 : decode cJ6_bitCount_0f7a4 48 = .ok (.iload_n 0, 1) := by decide +kernel
theorem dJ6_bitCount_0f7a4_49 : decode cJ6_bitCount_0f7a4 49 = .ok (.bipush 63, 2) := by decide +kernel
theorem dJ6_bitCount_0f7a4_51 : decode cJ6_bitCount_0f7a4 51 = .ok (.iand, 1) := by decide +kernel
theorem dJ6_bitCount_0f7a4_52 : decode cJ6_bitCount_0f7a4 52 = .ok (.ireturn, 1) := by decide +kernel
theorem dJ9_max_7cf53_0 : decode cJ9_max_7cf53 0 = .ok (.iload_n 0, 1) := by decide +kernel
theorem dJ9_max_7cf53_1 : decode cJ9_max_7cf53 1 = .ok (.iload_n 1, 1) := by decide +kernel
theorem dJ9_max_7cf53_2 : decode cJ9_max_7cf53 2 = .ok (.if_icmp .lt 7, 3) := by decide +kernel
theorem dJ9_max_7cf53_5 : decode cJ9_max_7cf53 5 = .ok (.iload_n 0, 1) := by decide +kernel
theorem dJ9_max_7cf53_6 : decode cJ9_max_7cf53 6 = .ok (.goto 4, 3) := by decide +kernel
theorem dJ9_max_7cf53_9 : decode cJ9_max_7cf53 9 = .ok (.iload_n 1, 1) := by decide +kernel
theorem dJ9_max_7cf53_10 : decode cJ9_max_7cf53 10 = .ok (.ireturn, 1) := by decide +kernel
theorem dJ9_min_7cf53_0 : decode cJ9_min_7cf53 0 = .ok (.iload_n 0, 1) := by decide +kernel
theorem dJ9_min_7cf53_1 : decode cJ9_min_7cf53 1 = .ok (.iload_n 1, 1) := by decide +kernel
theorem dJ9_min_7cf53_2 : decode cJ9_min_7cf53 2 = .ok (.if_icmp .gt 7, 3) := by decide +kernel
theorem dJ9_min_7cf53_5 : decode cJ9_min_7cf53 5 = .ok (.iload_n 0, 1) := by decide +kernel
theorem dJ9_min_7cf53_6 : decode cJ9_min_7cf53 6 = .ok (.goto 4, 3) := by decide +kernel
theorem dJ9_min_7cf53_9 : decode cJ9_min_7cf53 9 = .ok (.iload_n 1, 1) := by decide +kernel
theorem dJ9_min_7cf53_10 : decode cJ9_min_7cf53 10 = .ok (.ireturn, 1) := by decide +kernel
theorem dJ0_length_8abf5_0 : decode cJ0_length_8abf5 0 = .ok (.aload_n 0, 1) := by decide +kernel
theorem dJ0_length_8abf5_1 : decode cJ0_length_8abf5 1 = .ok (.getfield 9, 3) := by decide +kernel
theorem dJ0_length_8abf5_4 : decode cJ0_length_8abf5 4 = .ok (.arraylength, 1) := by decide +kernel
theorem dJ0_length_8abf5_5 : decode cJ0_length_8abf5 5 = .ok (.aload_n 0, 1) := by decide +kernel
theorem dJ0_length_8abf5_6 : decode cJ0_length_8abf5 6 = .ok (.invokevirtual 335, 3) := by decide +kernel
theorem dJ0_length_8abf5_9 : decode cJ0_length_8abf5 9 = .ok (.ishr, 1) := by decide +kernel
theorem dJ0_length_8abf5_10 : decode cJ0_length_8abf5 10 = .ok (.ireturn, 1) := by decide +kernel
theorem dJ0_charAt_5068e_0 : decode cJ0_charAt_5068e 0 = .ok (.aload_n 0, 1) := by decide +kernel
theorem dJ0_charAt_5068e_1 : decode cJ0_charAt_5068e 1 = .ok (.invokevirtual 492, 3) := by decide +kernel
theorem dJ0_charAt_5068e_4 : decode cJ0_charAt_5068e 4 = .ok (.ifCond .eq 12, 3) := by decide +kernel
theorem dJ0_charAt_5068e_7 : decode cJ0_charAt_5068e 7 = .ok (.aload_n 0, 1) := by decide +kernel
theorem dJ0_charAt_5068e_8 : decode cJ0_charAt_5068e 8 = .ok (.getfield 9, 3) := by decide +kernel
theorem dJ0_charAt_5068e_11 : decode cJ0_charAt_5068e 11 = .ok (.iload_n 1, 1) := by decide +kernel
theorem dJ0_charAt_5068e_12 : decode cJ0_charAt_5068e 12 = .ok (.invokestatic 495, 3) := by decide +kernel
theorem dJ0_charAt_5068e_15 : decode cJ0_charAt_5068e 15 = .ok (.ireturn, 1) := by decide +kernel
theorem dJ0_charAt_5068e_16 : decode cJ0_charAt_5068e 16 = .ok (.aload_n 0, 1) := by decide +kernel
theorem dJ0_charAt_5068e_17 : decode cJ0_charAt_5068e 17 = .ok (.getfield 9, 3) := by decide +kernel
theorem dJ0_charAt_5068e_20 : decode cJ0_charAt_5068e 20 = .ok (.iload_n 1, 1) := by decide +kernel
theorem dJ0_charAt_5068e_21 : decode cJ0_charAt_5068e 21 = .ok (.invokestatic 498, 3) := by decide +kernel
theorem dJ0_charAt_5068e_24 : decode cJ0_charAt_5068e 24 = .ok (.ireturn, 1) := by decide +kernel
theorem dJ0_coder_7d493_0 : decode cJ0_coder_7d493 0 = .ok (.getstatic 38, 3) := by decide +kernel
theorem dJ0_coder_7d493_3 : decode cJ0_coder_7d493 3 = .ok (.ifCond .eq 10, 3) := by decide +kernel
theorem dJ0_coder_7d493_6 : decode cJ0_coder_7d493 6 = .ok (.aload_n 0, 1) := by decide +kernel
theorem dJ0_coder_7d493_7 : decode cJ0_coder_7d493 7 = .ok (.getfield 15, 3) := by decide +kernel
theorem dJ0_coder_7d493_10 : decode cJ0_coder_7d493 10 = .ok (.goto 4, 3) := by decide +kernel
theorem dJ0_coder_7d493_13 : decode cJ0_coder_7d493 13 = .ok (.iconst 1, 1) := by decide +kernel
theorem dJ0_coder_7d493_14 : decode cJ0_coder_7d493 14 = .ok (.ireturn, 1) := by decide +kernel
theorem dJ0_isLatin1_aae02_0 : decode cJ0_isLatin1_aae02 0 = .ok (.getstatic 38, 3) := by decide +kernel
theorem dJ0_isLatin1_aae02_3 : decode cJ0_isLatin1_aae02 3 = .ok (.ifCond .eq 14, 3) := by decide +kernel
theorem dJ0_isLatin1_aae02_6 : decode cJ0_isLatin1_aae02 6 = .ok (.aload_n 0, 1) := by decide +kernel
theorem dJ0_isLatin1_aae02_7 : decode cJ0_isLatin1_aae02 7 = .ok (.getfield 15, 3) := by decide +kernel
theorem dJ0_isLatin1_aae02_10 : decode cJ0_isLatin1_aae02 10 = .ok (.ifCond .ne 7, 3) := by decide +kernel
theorem dJ0_isLatin1_aae02_13 : decode cJ0_isLatin1_aae02 13 = .ok (.iconst 1, 1) := by decide +kernel
theorem dJ0_isLatin1_aae02_14 : decode cJ0_isLatin1_aae02 14 = .ok (.goto 4, 3) := by decide +kernel
theorem dJ0_isLatin1_aae02_17 : decode cJ0_isLatin1_aae02 17 = .ok (.iconst 0, 1) := by decide +kernel
theorem dJ0_isLatin1_aae02_18 : decode cJ0_isLatin1_aae02 18 = .ok (.ireturn, 1) := by decide +kernel
theorem dJ0_checkIndex_df160_0 : decode cJ0_checkIndex_df160 0 = .ok (.iload_n 0, 1) := by decide +kernel
theorem dJ0_checkIndex_df160_1 : decode cJ0_checkIndex_df160 1 = .ok (.iload_n 1, 1) := by decide +kernel
theorem dJ0_checkIndex_df160_2 : decode cJ0_checkIndex_df160 2 = .ok (.getstatic 1053, 3) := by decide +kernel
theorem dJ0_checkIndex_df160_5 : decode cJ0_checkIndex_df160 5 = .ok (.invokestatic 1059, 3) := by decide +kernel
theorem dJ0_checkIndex_df160_8 : decode cJ0_checkIndex_df160 8 = .ok (.pop, 1) := by decide +kernel
theorem dJ0_checkIndex_df160_9 : decode cJ0_checkIndex_df160 9 = .ok (.return_, 1) := by decide +kernel
theorem dJ1_charAt_3b067_0 : decode cJ1_charAt_3b067 0 = .ok (.iload_n 1, 1) := by decide +kernel
theorem dJ1_charAt_3b067_1 : decode cJ1_charAt_3b067 1 = .ok (.aload_n 0, 1) := by decide +kernel
theorem dJ1_charAt_3b067_2 : decode cJ1_charAt_3b067 2 = .ok (.arraylength, 1) := by decide +kernel
theorem dJ1_charAt_3b067_3 : decode cJ1_charAt_3b067 3 = .ok (.invokestatic 9, 3) := by decide +kernel
theorem dJ1_charAt_3b067_6 : decode cJ1_charAt_3b067 6 = .ok (.aload_n 0, 1) := by decide +kernel
theorem dJ1_charAt_3b067_7 : decode cJ1_charAt_3b067 7 = .ok (.iload_n 1, 1) := by decide +kernel
theorem dJ1_charAt_3b067_8 : decode cJ1_charAt_3b067 8 = .ok (.baload, 1) := by decide +kernel
theorem dJ1_charAt_3b067_9 : decode cJ1_charAt_3b067 9 = .ok (.sipush 255, 3) := by decide +kernel
theorem dJ1_charAt_3b067_12 : decode cJ1_charAt_3b067 12 = .ok (.iand, 1) := by decide +kernel
theorem dJ1_charAt_3b067_13 : decode cJ1_charAt_3b067 13 = .ok (.i2c, 1) := by decide +kernel
theorem dJ1_charAt_3b067_14 : decode cJ1_charAt_3b067 14 = .ok (.ireturn, 1) := by decide +kernel
theorem dJ2_getChar_3b067_0 : decode cJ2_getChar_3b067 0 = .ok (.getstatic 44, 3) := by decide +kernel
theorem dJ2_getChar_3b067_3 : decode cJ2_getChar_3b067 3 = .ok (.ifCond .ne 25, 3) := by decide +kernel
theorem dJ2_getChar_3b067_6 : decode cJ2_getChar_3b067 6 = .ok (.iload_n 1, 1) := by decide +kernel
theorem dJ2_getChar_3b067_7 : decode cJ2_getChar_3b067 7 = .ok (.ifCond .lt 11, 3) := by decide +kernel
theorem dJ2_getChar_3b067_10 : decode cJ2_getChar_3b067 10 = .ok (.iload_n 1, 1) := by decide +kernel
theorem dJ2_getChar_3b067_11 : decode cJ2_getChar_3b067 11 = .ok (.aload_n 0, 1) := by decide +kernel
theorem dJ2_getChar_3b067_12 : decode cJ2_getChar_3b067 12 = .ok (.invokestatic 48, 3) := by decide +kernel
theorem dJ2_getChar_3b067_15 : decode cJ2_getChar_3b067 15 = .ok (.if_icmp .lt 13, 3) := by decide +kernel
theorem dJ2_getChar_3b067_18 : decode cJ2_getChar_3b067 18 = .ok (.new 52, 3) := by decide +kernel
theorem dJ2_getChar_3b067_21 : decode cJ2_getChar_3b067 21 = .ok (.dup, 1) := by decide +kernel
theorem dJ2_getChar_3b067_22 : decode cJ2_getChar_3b067 22 = .ok (.ldc 54, 2) := by decide +kernel
theorem dJ2_getChar_3b067_24 : decode cJ2_getChar_3b067 24 = .ok (.invokespecial 56, 3) := by decide +kernel
theorem dJ2_getChar_3b067_27 : decode cJ2_getChar_3b067 27 = .ok (.athrow, 1) := by decide +kernel
theorem dJ2_getChar_3b067_28 : decode cJ2_getChar_3b067 28 = .ok (.iload_n 1, 1) := by decide +kernel
theorem dJ2_getChar_3b067_29 : decode cJ2_getChar_3b067 29 = .ok (.iconst 1, 1) := by decide +kernel
theorem dJ2_getChar_3b067_30 : decode cJ2_getChar_3b067 30 = .ok (.ishl, 1) := by decide +kernel
theorem dJ2_getChar_3b067_31 : decode cJ2_getChar_3b067 31 = .ok (.istore_n 1, 1) := by decide +kernel
theorem dJ2_getChar_3b067_32 : decode cJ2_getChar_3b067 32 = .ok (.aload_n 0, 1) := by decide +kernel
theorem dJ2_getChar_3b067_33 : decode cJ2_getChar_3b067 33 = .ok (.iload_n 1, 1) := by decide +kernel
theorem dJ2_getChar_3b067_34 : decode cJ2_getChar_3b067 34 = .ok (.iinc 1 1, 3) := by decide +kernel
theorem dJ2_getChar_3b067_37 : decode cJ2_getChar_3b067 37 = .ok (.baload, 1) := by decide +kernel
theorem dJ2_getChar_3b067_38 : decode cJ2_getChar_3b067 38 = .ok (.sipush 255, 3) := by decide +kernel
theorem dJ2_getChar_3b067_41 : decode cJ2_getChar_3b067 41 = .ok (.iand, 1) := by decide +kernel
theorem dJ2_getChar_3b067_42 : decode cJ2_getChar_3b067 42 = .ok (.getstatic 59, 3) := by decide +kernel
theorem dJ2_getChar_3b067_45 : decode cJ2_getChar_3b067 45 = .ok (.ishl, 1) := by decide +kernel
theorem dJ2_getChar_3b067_46 : decode cJ2_getChar_3b067 46 = .ok (.aload_n 0, 1) := by decide +kernel
theorem dJ2_getChar_3b067_47 : decode cJ2_getChar_3b067 47 = .ok (.iload_n 1, 1) := by decide +kernel
theorem dJ2_getChar_3b067_48 : decode cJ2_getChar_3b067 48 = .ok (.baload, 1) := by decide +kernel
theorem dJ2_getChar_3b067_49 : decode cJ2_getChar_3b067 49 = .ok (.sipush 255, 3) := by decide +kernel
theorem dJ2_getChar_3b067_52 : decode cJ2_getChar_3b067 52 = .ok (.iand, 1) := by decide +kernel
theorem dJ2_getChar_3b067_53 : decode cJ2_getChar_3b067 53 = .ok (.getstatic 63, 3) := by decide +kernel
theorem dJ2_getChar_3b067_56 : decode cJ2_getChar_3b067 56 = .ok (.ishl, 1) := by decide +kernel
theorem dJ2_getChar_3b067_57 : decode cJ2_getChar_3b067 57 = .ok (.ior, 1) := by decide +kernel
theorem dJ2_getChar_3b067_58 : decode cJ2_getChar_3b067 58 = .ok (.i2c, 1) := by decide +kernel
theorem dJ2_getChar_3b067_59 : decode cJ2_getChar_3b067 59 = .ok (.ireturn, 1) := by decide +kernel
theorem dJ2_length_9d52b_0 : decode cJ2_length_9d52b 0 = .ok (.aload_n 0, 1) := by decide +kernel
theorem dJ2_length_9d52b_1 : decode cJ2_length_9d52b 1 = .ok (.arraylength, 1) := by decide +kernel
theorem dJ2_length_9d52b_2 : decode cJ2_length_9d52b 2 = .ok (.iconst 1, 1) := by decide +kernel
theorem dJ2_length_9d52b_3 : decode cJ2_length_9d52b 3 = .ok (.ishr, 1) := by decide +kernel
theorem dJ2_length_9d52b_4 : decode cJ2_length_9d52b 4 = .ok (.ireturn, 1) := by decide +kernel
theorem dJ2_charAt_3b067_0 : decode cJ2_charAt_3b067 0 = .ok (.iload_n 1, 1) := by decide +kernel
theorem dJ2_charAt_3b067_1 : decode cJ2_charAt_3b067 1 = .ok (.aload_n 0, 1) := by decide +kernel
theorem dJ2_charAt_3b067_2 : decode cJ2_charAt_3b067 2 = .ok (.invokestatic 67, 3) := by decide +kernel
theorem dJ2_charAt_3b067_5 : decode cJ2_charAt_3b067 5 = .ok (.aload_n 0, 1) := by decide +kernel
theorem dJ2_charAt_3b067_6 : decode cJ2_charAt_3b067 6 = .ok (.iload_n 1, 1) := by decide +kernel
theorem dJ2_charAt_3b067_7 : decode cJ2_charAt_3b067 7 = .ok (.invokestatic 71, 3) := by decide +kernel
theorem dJ2_charAt_3b067_10 : decode cJ2_charAt_3b067 10 = .ok (.ireturn, 1) := by decide +kernel
theorem dJ2_checkIndex_2214a_0 : decode cJ2_checkIndex_2214a 0 = .ok (.iload_n 0, 1) := by decide +kernel
theorem dJ2_checkIndex_2214a_1 : decode cJ2_checkIndex_2214a 1 = .ok (.aload_n 1, 1) := by decide +kernel
theorem dJ2_checkIndex_2214a_2 : decode cJ2_checkIndex_2214a 2 = .ok (.invokestatic 48, 3) := by decide +kernel
theorem dJ2_checkIndex_2214a_5 : decode cJ2_checkIndex_2214a 5 = .ok (.invokestatic 414, 3) := by decide +kernel
theorem dJ2_checkIndex_2214a_8 : decode cJ2_checkIndex_2214a 8 = .ok (.return_, 1) := by decide +kernel
theorem dJ7_fill_53178_0 : decode cJ7_fill_53178 0 = .ok (.iconst 0, 1) := by decide +kernel
theorem dJ7_fill_53178_1 : decode cJ7_fill_53178 1 = .ok (.istore_n 2, 1) := by decide +kernel
theorem dJ7_fill_53178_2 : decode cJ7_fill_53178 2 = .ok (.aload_n 0, 1) := by decide +kernel
theorem dJ7_fill_53178_3 : decode cJ7_fill_53178 3 = .ok (.arraylength, 1) := by decide +kernel
theorem dJ7_fill_53178_4 : decode cJ7_fill_53178 4 = .ok (.istore_n 3, 1) := by decide +kernel
theorem dJ7_fill_53178_5 : decode cJ7_fill_53178 5 = .ok (.iload_n 2, 1) := by decide +kernel
theorem dJ7_fill_53178_6 : decode cJ7_fill_53178 6 = .ok (.iload_n 3, 1) := by decide +kernel
theorem dJ7_fill_53178_7 : decode cJ7_fill_53178 7 = .ok (.if_icmp .ge 13, 3) := by decide +kernel
theorem dJ7_fill_53178_10 : decode cJ7_fill_53178 10 = .ok (.aload_n 0, 1) := by decide +kernel
theorem dJ7_fill_53178_11 : decode cJ7_fill_53178 11 = .ok (.iload_n 2, 1) := by decide +kernel
theorem dJ7_fill_53178_12 : decode cJ7_fill_53178 12 = .ok (.iload_n 1, 1) := by decide +kernel
theorem dJ7_fill_53178_13 : decode cJ7_fill_53178 13 = .ok (.iastore, 1) := by decide +kernel
theorem dJ7_fill_53178_14 : decode cJ7_fill_53178 14 = .ok (.iinc 2 1, 3) := by decide +kernel
theorem dJ7_fill_53178_17 : decode cJ7_fill_53178 17 = .ok (.goto (-12), 3) := by decide +kernel
theorem dJ7_fill_53178_20 : decode cJ7_fill_53178 20 = .ok (.return_, 1) := by decide +kernel
theorem dJ3_checkIndex_8e157_0 : decode cJ3_checkIndex_8e157 0 = .ok (.iload_n 0, 1) := by decide +kernel
theorem dJ3_checkIndex_8e157_1 : decode cJ3_checkIndex_8e157 1 = .ok (.ifCond .lt 8, 3) := by decide +kernel
theorem dJ3_checkIndex_8e157_4 : decode cJ3_checkIndex_8e157 4 = .ok (.iload_n 0, 1) := by decide +kernel
theorem dJ3_checkIndex_8e157_5 : decode cJ3_checkIndex_8e157 5 = .ok (.iload_n 1, 1) := by decide +kernel
theorem dJ3_checkIndex_8e157_6 : decode cJ3_checkIndex_8e157 6 = .ok (.if_icmp .lt 10, 3) := by decide +kernel
theorem dJ3_checkIndex_8e157_9 : decode cJ3_checkIndex_8e157 9 = .ok (.aload_n 2, 1) := by decide +kernel
theorem dJ3_checkIndex_8e157_10 : decode cJ3_checkIndex_8e157 10 = .ok (.iload_n 0, 1) := by decide +kernel
theorem dJ3_checkIndex_8e157_11 : decode cJ3_checkIndex_8e157 11 = .ok (.iload_n 1, 1) := by decide +kernel
theorem dJ3_checkIndex_8e157_12 : decode cJ3_checkIndex_8e157 12 = .ok (.invokestatic 95, 3) := by decide +kernel
theorem dJ3_checkIndex_8e157_15 : decode cJ3_checkIndex_8e157 15 = .ok (.athrow, 1) := by decide +kernel
theorem dJ3_checkIndex_8e157_16 : decode cJ3_checkIndex_8e157 16 = .ok (.iload_n 0, 1) := by decide +kernel
theorem dJ3_checkIndex_8e157_17 : decode cJ3_checkIndex_8e157 17 = .ok (.ireturn, 1) := by decide +kernel
theorem dL_of_0 : decode cL_of 0 = .ok (.aload_n 3, 1) := by decide +kernel
theorem dL_of_1 : decode cL_of 1 = .ok (.iconst 0, 1) := by decide +kernel
theorem dL_of_2 : decode cL_of 2 = .ok (.aload_n 0, 1) := by decide +kernel
theorem dL_of_3 : decode cL_of 3 = .ok (.iload_n 1, 1) := by decide +kernel
theorem dL_of_4 : decode cL_of 4 = .ok (.iload_n 2, 1) := by decide +kernel
theorem dL_of_5 : decode cL_of 5 = .ok (.invokevirtual 7, 3) := by decide +kernel
theorem dL_of_8 : decode cL_of 8 = .ok (.i2l, 1) := by decide +kernel
theorem dL_of_9 : decode cL_of 9 = .ok (.lastore, 1) := by decide +kernel
theorem dL_of_10 : decode cL_of 10 = .ok (.goto 7, 3) := by decide +kernel
theorem dL_of_13 : decode cL_of 13 = .ok (.astore 4, 2) := by decide +kernel
theorem dL_of_15 : decode cL_of 15 = .ok (.iconst 1, 1) := by decide +kernel
theorem dL_of_16 : decode cL_of 16 = .ok (.ireturn, 1) := by decide +kernel
theorem dL_of_17 : decode cL_of 17 = .ok (.iconst 0, 1) := by decide +kernel
theorem dL_of_18 : decode cL_of 18 = .ok (.ireturn, 1) := by decide +kernel
theorem dL_law_0 : decode cL_law 0 = .ok (.new 8, 3) := by decide +kernel
theorem dL_law_3 : decode cL_law 3 = .ok (.dup, 1) := by decide +kernel
theorem dL_law_4 : decode cL_law 4 = .ok (.invokespecial 15, 3) := by decide +kernel
theorem dL_law_7 : decode cL_law 7 = .ok (.astore_n 1, 1) := by decide +kernel
theorem dL_law_8 : decode cL_law 8 = .ok (.new 16, 3) := by decide +kernel
theorem dL_law_11 : decode cL_law 11 = .ok (.dup, 1) := by decide +kernel
theorem dL_law_12 : decode cL_law 12 = .ok (.invokespecial 18, 3) := by decide +kernel
theorem dL_law_15 : decode cL_law 15 = .ok (.astore_n 2, 1) := by decide +kernel
theorem dL_law_16 : decode cL_law 16 = .ok (.iconst 1, 1) := by decide +kernel
theorem dL_law_17 : decode cL_law 17 = .ok (.newarray .long, 2) := by decide +kernel
theorem dL_law_19 : decode cL_law 19 = .ok (.astore_n 3, 1) := by decide +kernel
theorem dL_law_20 : decode cL_law 20 = .ok (.iconst 0, 1) := by decide +kernel
theorem dL_law_21 : decode cL_law 21 = .ok (.istore 4, 2) := by decide +kernel
theorem dL_law_23 : decode cL_law 23 = .ok (.iload 4, 2) := by decide +kernel
theorem dL_law_25 : decode cL_law 25 = .ok (.aload_n 0, 1) := by decide +kernel
theorem dL_law_26 : decode cL_law 26 = .ok (.arraylength, 1) := by decide +kernel
theorem dL_law_27 : decode cL_law 27 = .ok (.bipush 6, 2) := by decide +kernel
theorem dL_law_29 : decode cL_law 29 = .ok (.isub, 1) := by decide +kernel
theorem dL_law_30 : decode cL_law 30 = .ok (.if_icmp .gt 1051, 3) := by decide +kernel
theorem dL_law_33 : decode cL_law 33 = .ok (.aload_n 0, 1) := by decide +kernel
theorem dL_law_34 : decode cL_law 34 = .ok (.iload 4, 2) := by decide +kernel
theorem dL_law_36 : decode cL_law 36 = .ok (.iaload, 1) := by decide +kernel
theorem dL_law_37 : decode cL_law 37 = .ok (.bipush 31, 2) := by decide +kernel
theorem dL_law_39 : decode cL_law 39 = .ok (.iand, 1) := by decide +kernel
theorem dL_law_40 : decode cL_law 40 = .ok (.tableswitch 1035 0 23 #[112, 149, 174, 223, 296, 321, 334, 347, 384, 433, 506, 579, 604, 629, 666, 679, 728, 753, 766, 831, 868, 905, 973, 1010], 112) := by decide +kernel
theorem dL_law_152 : decode cL_law 152 = .ok (.aload_n 1, 1) := by decide +kernel
theorem dL_law_153 : decode cL_law 153 = .ok (.aload_n 0, 1) := by decide +kernel
theorem dL_law_154 : decode cL_law 154 = .ok (.iload 4, 2) := by decide +kernel
theorem dL_law_156 : decode cL_law 156 = .ok (.iconst 1, 1) := by decide +kernel
theorem dL_law_157 : decode cL_law 157 = .ok (.iadd, 1) := by decide +kernel
theorem dL_law_158 : decode cL_law 158 = .ok (.iaload, 1) := by decide +kernel
theorem dL_law_159 : decode cL_law 159 = .ok (.aload_n 0, 1) := by decide +kernel
theorem dL_law_160 : decode cL_law 160 = .ok (.iload 4, 2) := by decide +kernel
theorem dL_law_162 : decode cL_law 162 = .ok (.iconst 2, 1) := by decide +kernel
theorem dL_law_163 : decode cL_law 163 = .ok (.iadd, 1) := by decide +kernel
theorem dL_law_164 : decode cL_law 164 = .ok (.iaload, 1) := by decide +kernel
theorem dL_law_165 : decode cL_law 165 = .ok (.invokevirtual 19, 3) := by decide +kernel
theorem dL_law_168 : decode cL_law 168 = .ok (.aload_n 2, 1) := by decide +kernel
theorem dL_law_169 : decode cL_law 169 = .ok (.aload_n 0, 1) := by decide +kernel
theorem dL_law_170 : decode cL_law 170 = .ok (.iload 4, 2) := by decide +kernel
theorem dL_law_172 : decode cL_law 172 = .ok (.iconst 1, 1) := by decide +kernel
theorem dL_law_173 : decode cL_law 173 = .ok (.iadd, 1) := by decide +kernel
theorem dL_law_174 : decode cL_law 174 = .ok (.iaload, 1) := by decide +kernel
theorem dL_law_175 : decode cL_law 175 = .ok (.aload_n 0, 1) := by decide +kernel
theorem dL_law_176 : decode cL_law 176 = .ok (.iload 4, 2) := by decide +kernel
theorem dL_law_178 : decode cL_law 178 = .ok (.iconst 2, 1) := by decide +kernel
theorem dL_law_179 : decode cL_law 179 = .ok (.iadd, 1) := by decide +kernel
theorem dL_law_180 : decode cL_law 180 = .ok (.iaload, 1) := by decide +kernel
theorem dL_law_181 : decode cL_law 181 = .ok (.invokevirtual 22, 3) := by decide +kernel
theorem dL_law_184 : decode cL_law 184 = .ok (.if_icmp .eq 891, 3) := by decide +kernel
theorem dL_law_187 : decode cL_law 187 = .ok (.iconst 0, 1) := by decide +kernel
theorem dL_law_188 : decode cL_law 188 = .ok (.ireturn, 1) := by decide +kernel
theorem dL_law_189 : decode cL_law 189 = .ok (.aload_n 1, 1) := by decide +kernel
theorem dL_law_190 : decode cL_law 190 = .ok (.aload_n 0, 1) := by decide +kernel
theorem dL_law_191 : decode cL_law 191 = .ok (.iload 4, 2) := by decide +kernel
theorem dL_law_193 : decode cL_law 193 = .ok (.iconst 1, 1) := by decide +kernel
theorem dL_law_194 : decode cL_law 194 = .ok (.iadd, 1) := by decide +kernel
theorem dL_law_195 : decode cL_law 195 = .ok (.iaload, 1) := by decide +kernel
theorem dL_law_196 : decode cL_law 196 = .ok (.invokevirtual 23, 3) := by decide +kernel
theorem dL_law_199 : decode cL_law 199 = .ok (.aload_n 2, 1) := by decide +kernel
theorem dL_law_200 : decode cL_law 200 = .ok (.aload_n 0, 1) := by decide +kernel
theorem dL_law_201 : decode cL_law 201 = .ok (.iload 4, 2) := by decide +kernel
theorem dL_law_203 : decode cL_law 203 = .ok (.iconst 1, 1) := by decide +kernel
theorem dL_law_204 : decode cL_law 204 = .ok (.iadd, 1) := by decide +kernel
theorem dL_law_205 : decode cL_law 205 = .ok (.iaload, 1) := by decide +kernel
theorem dL_law_206 : decode cL_law 206 = .ok (.invokevirtual 27, 3) := by decide +kernel
theorem dL_law_209 : decode cL_law 209 = .ok (.if_icmp .eq 866, 3) := by decide +kernel
theorem dL_law_212 : decode cL_law 212 = .ok (.iconst 0, 1) := by decide +kernel
theorem dL_law_213 : decode cL_law 213 = .ok (.ireturn, 1) := by decide +kernel
theorem dL_law_214 : decode cL_law 214 = .ok (.aload_n 1, 1) := by decide +kernel
theorem dL_law_215 : decode cL_law 215 = .ok (.aload_n 0, 1) := by decide +kernel
theorem dL_law_216 : decode cL_law 216 = .ok (.iload 4, 2) := by decide +kernel
theorem dL_law_218 : decode cL_law 218 = .ok (.iconst 1, 1) := by decide +kernel
theorem dL_law_219 : decode cL_law 219 = .ok (.iadd, 1) := by decide +kernel
theorem dL_law_220 : decode cL_law 220 = .ok (.iaload, 1) := by decide +kernel
theorem dL_law_221 : decode cL_law 221 = .ok (.aload_n 0, 1) := by decide +kernel
theorem dL_law_222 : decode cL_law 222 = .ok (.iload 4, 2) := by decide +kernel
theorem dL_law_224 : decode cL_law 224 = .ok (.iconst 2, 1) := by decide +kernel
theorem dL_law_225 : decode cL_law 225 = .ok (.iadd, 1) := by decide +kernel
theorem dL_law_226 : decode cL_law 226 = .ok (.iaload, 1) := by decide +kernel
theorem dL_law_227 : decode cL_law 227 = .ok (.aload_n 0, 1) := by decide +kernel
theorem dL_law_228 : decode cL_law 228 = .ok (.iload 4, 2) := by decide +kernel
theorem dL_law_230 : decode cL_law 230 = .ok (.iconst 3, 1) := by decide +kernel
theorem dL_law_231 : decode cL_law 231 = .ok (.iadd, 1) := by decide +kernel
theorem dL_law_232 : decode cL_law 232 = .ok (.iaload, 1) := by decide +kernel
theorem dL_law_233 : decode cL_law 233 = .ok (.invokevirtual 28, 3) := by decide +kernel
theorem dL_law_236 : decode cL_law 236 = .ok (.aload_n 2, 1) := by decide +kernel
theorem dL_law_237 : decode cL_law 237 = .ok (.aload_n 0, 1) := by decide +kernel
theorem dL_law_238 : decode cL_law 238 = .ok (.iload 4, 2) := by decide +kernel
theorem dL_law_240 : decode cL_law 240 = .ok (.iconst 1, 1) := by decide +kernel
theorem dL_law_241 : decode cL_law 241 = .ok (.iadd, 1) := by decide +kernel
theorem dL_law_242 : decode cL_law 242 = .ok (.iaload, 1) := by decide +kernel
theorem dL_law_243 : decode cL_law 243 = .ok (.aload_n 0, 1) := by decide +kernel
theorem dL_law_244 : decode cL_law 244 = .ok (.iload 4, 2) := by decide +kernel
theorem dL_law_246 : decode cL_law 246 = .ok (.iconst 2, 1) := by decide +kernel
theorem dL_law_247 : decode cL_law 247 = .ok (.iadd, 1) := by decide +kernel
end
section
theorem dL_law_248 : decode cL_law 248 = .ok (.iaload, 1) := by decide +kernel
theorem dL_law_249 : decode cL_law 249 = .ok (.aload_n 0, 1) := by decide +kernel
theorem dL_law_250 : decode cL_law 250 = .ok (.iload 4, 2) := by decide +kernel
theorem dL_law_252 : decode cL_law 252 = .ok (.iconst 3, 1) := by decide +kernel
theorem dL_law_253 : decode cL_law 253 = .ok (.iadd, 1) := by decide +kernel
theorem dL_law_254 : decode cL_law 254 = .ok (.iaload, 1) := by decide +kernel
theorem dL_law_255 : decode cL_law 255 = .ok (.invokevirtual 32, 3) := by decide +kernel
theorem dL_law_258 : decode cL_law 258 = .ok (.if_icmp .eq 817, 3) := by decide +kernel
theorem dL_law_261 : decode cL_law 261 = .ok (.iconst 0, 1) := by decide +kernel
theorem dL_law_262 : decode cL_law 262 = .ok (.ireturn, 1) := by decide +kernel
theorem dL_law_263 : decode cL_law 263 = .ok (.aload_n 1, 1) := by decide +kernel
theorem dL_law_264 : decode cL_law 264 = .ok (.aload_n 0, 1) := by decide +kernel
theorem dL_law_265 : decode cL_law 265 = .ok (.iload 4, 2) := by decide +kernel
theorem dL_law_267 : decode cL_law 267 = .ok (.iconst 1, 1) := by decide +kernel
theorem dL_law_268 : decode cL_law 268 = .ok (.iadd, 1) := by decide +kernel
theorem dL_law_269 : decode cL_law 269 = .ok (.iaload, 1) := by decide +kernel
theorem dL_law_270 : decode cL_law 270 = .ok (.aload_n 0, 1) := by decide +kernel
theorem dL_law_271 : decode cL_law 271 = .ok (.iload 4, 2) := by decide +kernel
theorem dL_law_273 : decode cL_law 273 = .ok (.iconst 2, 1) := by decide +kernel
theorem dL_law_274 : decode cL_law 274 = .ok (.iadd, 1) := by decide +kernel
theorem dL_law_275 : decode cL_law 275 = .ok (.iaload, 1) := by decide +kernel
theorem dL_law_276 : decode cL_law 276 = .ok (.aload_n 0, 1) := by decide +kernel
theorem dL_law_277 : decode cL_law 277 = .ok (.iload 4, 2) := by decide +kernel
theorem dL_law_279 : decode cL_law 279 = .ok (.iconst 3, 1) := by decide +kernel
theorem dL_law_280 : decode cL_law 280 = .ok (.iadd, 1) := by decide +kernel
theorem dL_law_281 : decode cL_law 281 = .ok (.iaload, 1) := by decide +kernel
theorem dL_law_282 : decode cL_law 282 = .ok (.aload_n 0, 1) := by decide +kernel
theorem dL_law_283 : decode cL_law 283 = .ok (.iload 4, 2) := by decide +kernel
theorem dL_law_285 : decode cL_law 285 = .ok (.iconst 4, 1) := by decide +kernel
theorem dL_law_286 : decode cL_law 286 = .ok (.iadd, 1) := by decide +kernel
theorem dL_law_287 : decode cL_law 287 = .ok (.iaload, 1) := by decide +kernel
theorem dL_law_288 : decode cL_law 288 = .ok (.aload_n 0, 1) := by decide +kernel
theorem dL_law_289 : decode cL_law 289 = .ok (.iload 4, 2) := by decide +kernel
theorem dL_law_291 : decode cL_law 291 = .ok (.iconst 5, 1) := by decide +kernel
theorem dL_law_292 : decode cL_law 292 = .ok (.iadd, 1) := by decide +kernel
theorem dL_law_293 : decode cL_law 293 = .ok (.iaload, 1) := by decide +kernel
theorem dL_law_294 : decode cL_law 294 = .ok (.invokevirtual 33, 3) := by decide +kernel
theorem dL_law_297 : decode cL_law 297 = .ok (.aload_n 2, 1) := by decide +kernel
theorem dL_law_298 : decode cL_law 298 = .ok (.aload_n 0, 1) := by decide +kernel
theorem dL_law_299 : decode cL_law 299 = .ok (.iload 4, 2) := by decide +kernel
theorem dL_law_301 : decode cL_law 301 = .ok (.iconst 1, 1) := by decide +kernel
theorem dL_law_302 : decode cL_law 302 = .ok (.iadd, 1) := by decide +kernel
theorem dL_law_303 : decode cL_law 303 = .ok (.iaload, 1) := by decide +kernel
theorem dL_law_304 : decode cL_law 304 = .ok (.aload_n 0, 1) := by decide +kernel
theorem dL_law_305 : decode cL_law 305 = .ok (.iload 4, 2) := by decide +kernel
theorem dL_law_307 : decode cL_law 307 = .ok (.iconst 2, 1) := by decide +kernel
theorem dL_law_308 : decode cL_law 308 = .ok (.iadd, 1) := by decide +kernel
theorem dL_law_309 : decode cL_law 309 = .ok (.iaload, 1) := by decide +kernel
theorem dL_law_310 : decode cL_law 310 = .ok (.aload_n 0, 1) := by decide +kernel
theorem dL_law_311 : decode cL_law 311 = .ok (.iload 4, 2) := by decide +kernel
theorem dL_law_313 : decode cL_law 313 = .ok (.iconst 3, 1) := by decide +kernel
theorem dL_law_314 : decode cL_law 314 = .ok (.iadd, 1) := by decide +kernel
theorem dL_law_315 : decode cL_law 315 = .ok (.iaload, 1) := by decide +kernel
theorem dL_law_316 : decode cL_law 316 = .ok (.aload_n 0, 1) := by decide +kernel
theorem dL_law_317 : decode cL_law 317 = .ok (.iload 4, 2) := by decide +kernel
theorem dL_law_319 : decode cL_law 319 = .ok (.iconst 4, 1) := by decide +kernel
theorem dL_law_320 : decode cL_law 320 = .ok (.iadd, 1) := by decide +kernel
theorem dL_law_321 : decode cL_law 321 = .ok (.iaload, 1) := by decide +kernel
theorem dL_law_322 : decode cL_law 322 = .ok (.aload_n 0, 1) := by decide +kernel
theorem dL_law_323 : decode cL_law 323 = .ok (.iload 4, 2) := by decide +kernel
theorem dL_law_325 : decode cL_law 325 = .ok (.iconst 5, 1) := by decide +kernel
theorem dL_law_326 : decode cL_law 326 = .ok (.iadd, 1) := by decide +kernel
theorem dL_law_327 : decode cL_law 327 = .ok (.iaload, 1) := by decide +kernel
theorem dL_law_328 : decode cL_law 328 = .ok (.invokevirtual 37, 3) := by decide +kernel
theorem dL_law_331 : decode cL_law 331 = .ok (.if_icmp .eq 744, 3) := by decide +kernel
theorem dL_law_334 : decode cL_law 334 = .ok (.iconst 0, 1) := by decide +kernel
theorem dL_law_335 : decode cL_law 335 = .ok (.ireturn, 1) := by decide +kernel
theorem dL_law_336 : decode cL_law 336 = .ok (.aload_n 1, 1) := by decide +kernel
theorem dL_law_337 : decode cL_law 337 = .ok (.aload_n 0, 1) := by decide +kernel
theorem dL_law_338 : decode cL_law 338 = .ok (.iload 4, 2) := by decide +kernel
theorem dL_law_340 : decode cL_law 340 = .ok (.iconst 1, 1) := by decide +kernel
theorem dL_law_341 : decode cL_law 341 = .ok (.iadd, 1) := by decide +kernel
theorem dL_law_342 : decode cL_law 342 = .ok (.iaload, 1) := by decide +kernel
theorem dL_law_343 : decode cL_law 343 = .ok (.invokevirtual 38, 3) := by decide +kernel
theorem dL_law_346 : decode cL_law 346 = .ok (.aload_n 2, 1) := by decide +kernel
theorem dL_law_347 : decode cL_law 347 = .ok (.aload_n 0, 1) := by decide +kernel
theorem dL_law_348 : decode cL_law 348 = .ok (.iload 4, 2) := by decide +kernel
theorem dL_law_350 : decode cL_law 350 = .ok (.iconst 1, 1) := by decide +kernel
theorem dL_law_351 : decode cL_law 351 = .ok (.iadd, 1) := by decide +kernel
theorem dL_law_352 : decode cL_law 352 = .ok (.iaload, 1) := by decide +kernel
theorem dL_law_353 : decode cL_law 353 = .ok (.invokevirtual 41, 3) := by decide +kernel
theorem dL_law_356 : decode cL_law 356 = .ok (.if_icmp .eq 719, 3) := by decide +kernel
theorem dL_law_359 : decode cL_law 359 = .ok (.iconst 0, 1) := by decide +kernel
theorem dL_law_360 : decode cL_law 360 = .ok (.ireturn, 1) := by decide +kernel
theorem dL_law_361 : decode cL_law 361 = .ok (.aload_n 1, 1) := by decide +kernel
theorem dL_law_362 : decode cL_law 362 = .ok (.invokevirtual 42, 3) := by decide +kernel
theorem dL_law_365 : decode cL_law 365 = .ok (.aload_n 2, 1) := by decide +kernel
theorem dL_law_366 : decode cL_law 366 = .ok (.invokevirtual 46, 3) := by decide +kernel
theorem dL_law_369 : decode cL_law 369 = .ok (.if_icmp .eq 706, 3) := by decide +kernel
theorem dL_law_372 : decode cL_law 372 = .ok (.iconst 0, 1) := by decide +kernel
theorem dL_law_373 : decode cL_law 373 = .ok (.ireturn, 1) := by decide +kernel
theorem dL_law_374 : decode cL_law 374 = .ok (.aload_n 1, 1) := by decide +kernel
theorem dL_law_375 : decode cL_law 375 = .ok (.invokevirtual 47, 3) := by decide +kernel
theorem dL_law_378 : decode cL_law 378 = .ok (.aload_n 2, 1) := by decide +kernel
theorem dL_law_379 : decode cL_law 379 = .ok (.invokevirtual 50, 3) := by decide +kernel
theorem dL_law_382 : decode cL_law 382 = .ok (.if_icmp .eq 693, 3) := by decide +kernel
theorem dL_law_385 : decode cL_law 385 = .ok (.iconst 0, 1) := by decide +kernel
theorem dL_law_386 : decode cL_law 386 = .ok (.ireturn, 1) := by decide +kernel
theorem dL_law_387 : decode cL_law 387 = .ok (.aload_n 1, 1) := by decide +kernel
theorem dL_law_388 : decode cL_law 388 = .ok (.aload_n 0, 1) := by decide +kernel
theorem dL_law_389 : decode cL_law 389 = .ok (.iload 4, 2) := by decide +kernel
theorem dL_law_391 : decode cL_law 391 = .ok (.iconst 1, 1) := by decide +kernel
theorem dL_law_392 : decode cL_law 392 = .ok (.iadd, 1) := by decide +kernel
theorem dL_law_393 : decode cL_law 393 = .ok (.iaload, 1) := by decide +kernel
theorem dL_law_394 : decode cL_law 394 = .ok (.aload_n 0, 1) := by decide +kernel
theorem dL_law_395 : decode cL_law 395 = .ok (.iload 4, 2) := by decide +kernel
theorem dL_law_397 : decode cL_law 397 = .ok (.iconst 2, 1) := by decide +kernel
theorem dL_law_398 : decode cL_law 398 = .ok (.iadd, 1) := by decide +kernel
theorem dL_law_399 : decode cL_law 399 = .ok (.iaload, 1) := by decide +kernel
theorem dL_law_400 : decode cL_law 400 = .ok (.invokevirtual 51, 3) := by decide +kernel
theorem dL_law_403 : decode cL_law 403 = .ok (.aload_n 2, 1) := by decide +kernel
theorem dL_law_404 : decode cL_law 404 = .ok (.aload_n 0, 1) := by decide +kernel
theorem dL_law_405 : decode cL_law 405 = .ok (.iload 4, 2) := by decide +kernel
theorem dL_law_407 : decode cL_law 407 = .ok (.iconst 1, 1) := by decide +kernel
theorem dL_law_408 : decode cL_law 408 = .ok (.iadd, 1) := by decide +kernel
theorem dL_law_409 : decode cL_law 409 = .ok (.iaload, 1) := by decide +kernel
theorem dL_law_410 : decode cL_law 410 = .ok (.aload_n 0, 1) := by decide +kernel
theorem dL_law_411 : decode cL_law 411 = .ok (.iload 4, 2) := by decide +kernel
theorem dL_law_413 : decode cL_law 413 = .ok (.iconst 2, 1) := by decide +kernel
theorem dL_law_414 : decode cL_law 414 = .ok (.iadd, 1) := by decide +kernel
theorem dL_law_415 : decode cL_law 415 = .ok (.iaload, 1) := by decide +kernel
theorem dL_law_416 : decode cL_law 416 = .ok (.invokevirtual 54, 3) := by decide +kernel
theorem dL_law_419 : decode cL_law 419 = .ok (.if_icmp .eq 656, 3) := by decide +kernel
theorem dL_law_422 : decode cL_law 422 = .ok (.iconst 0, 1) := by decide +kernel
theorem dL_law_423 : decode cL_law 423 = .ok (.ireturn, 1) := by decide +kernel
theorem dL_law_424 : decode cL_law 424 = .ok (.aload_n 1, 1) := by decide +kernel
theorem dL_law_425 : decode cL_law 425 = .ok (.aload_n 0, 1) := by decide +kernel
theorem dL_law_426 : decode cL_law 426 = .ok (.iload 4, 2) := by decide +kernel
theorem dL_law_428 : decode cL_law 428 = .ok (.iconst 1, 1) := by decide +kernel
theorem dL_law_429 : decode cL_law 429 = .ok (.iadd, 1) := by decide +kernel
theorem dL_law_430 : decode cL_law 430 = .ok (.iaload, 1) := by decide +kernel
theorem dL_law_431 : decode cL_law 431 = .ok (.aload_n 0, 1) := by decide +kernel
theorem dL_law_432 : decode cL_law 432 = .ok (.iload 4, 2) := by decide +kernel
theorem dL_law_434 : decode cL_law 434 = .ok (.iconst 2, 1) := by decide +kernel
theorem dL_law_435 : decode cL_law 435 = .ok (.iadd, 1) := by decide +kernel
theorem dL_law_436 : decode cL_law 436 = .ok (.iaload, 1) := by decide +kernel
theorem dL_law_437 : decode cL_law 437 = .ok (.aload_n 0, 1) := by decide +kernel
theorem dL_law_438 : decode cL_law 438 = .ok (.iload 4, 2) := by decide +kernel
theorem dL_law_440 : decode cL_law 440 = .ok (.iconst 3, 1) := by decide +kernel
theorem dL_law_441 : decode cL_law 441 = .ok (.iadd, 1) := by decide +kernel
theorem dL_law_442 : decode cL_law 442 = .ok (.iaload, 1) := by decide +kernel
theorem dL_law_443 : decode cL_law 443 = .ok (.invokevirtual 55, 3) := by decide +kernel
theorem dL_law_446 : decode cL_law 446 = .ok (.aload_n 2, 1) := by decide +kernel
theorem dL_law_447 : decode cL_law 447 = .ok (.aload_n 0, 1) := by decide +kernel
theorem dL_law_448 : decode cL_law 448 = .ok (.iload 4, 2) := by decide +kernel
theorem dL_law_450 : decode cL_law 450 = .ok (.iconst 1, 1) := by decide +kernel
theorem dL_law_451 : decode cL_law 451 = .ok (.iadd, 1) := by decide +kernel
theorem dL_law_452 : decode cL_law 452 = .ok (.iaload, 1) := by decide +kernel
theorem dL_law_453 : decode cL_law 453 = .ok (.aload_n 0, 1) := by decide +kernel
theorem dL_law_454 : decode cL_law 454 = .ok (.iload 4, 2) := by decide +kernel
theorem dL_law_456 : decode cL_law 456 = .ok (.iconst 2, 1) := by decide +kernel
theorem dL_law_457 : decode cL_law 457 = .ok (.iadd, 1) := by decide +kernel
theorem dL_law_458 : decode cL_law 458 = .ok (.iaload, 1) := by decide +kernel
theorem dL_law_459 : decode cL_law 459 = .ok (.aload_n 0, 1) := by decide +kernel
theorem dL_law_460 : decode cL_law 460 = .ok (.iload 4, 2) := by decide +kernel
theorem dL_law_462 : decode cL_law 462 = .ok (.iconst 3, 1) := by decide +kernel
theorem dL_law_463 : decode cL_law 463 = .ok (.iadd, 1) := by decide +kernel
theorem dL_law_464 : decode cL_law 464 = .ok (.iaload, 1) := by decide +kernel
theorem dL_law_465 : decode cL_law 465 = .ok (.invokevirtual 59, 3) := by decide +kernel
theorem dL_law_468 : decode cL_law 468 = .ok (.if_icmp .eq 607, 3) := by decide +kernel
theorem dL_law_471 : decode cL_law 471 = .ok (.iconst 0, 1) := by decide +kernel
theorem dL_law_472 : decode cL_law 472 = .ok (.ireturn, 1) := by decide +kernel
theorem dL_law_473 : decode cL_law 473 = .ok (.aload_n 1, 1) := by decide +kernel
theorem dL_law_474 : decode cL_law 474 = .ok (.aload_n 0, 1) := by decide +kernel
theorem dL_law_475 : decode cL_law 475 = .ok (.iload 4, 2) := by decide +kernel
theorem dL_law_477 : decode cL_law 477 = .ok (.iconst 1, 1) := by decide +kernel
theorem dL_law_478 : decode cL_law 478 = .ok (.iadd, 1) := by decide +kernel
theorem dL_law_479 : decode cL_law 479 = .ok (.iaload, 1) := by decide +kernel
theorem dL_law_480 : decode cL_law 480 = .ok (.aload_n 0, 1) := by decide +kernel
theorem dL_law_481 : decode cL_law 481 = .ok (.iload 4, 2) := by decide +kernel
theorem dL_law_483 : decode cL_law 483 = .ok (.iconst 2, 1) := by decide +kernel
theorem dL_law_484 : decode cL_law 484 = .ok (.iadd, 1) := by decide +kernel
theorem dL_law_485 : decode cL_law 485 = .ok (.iaload, 1) := by decide +kernel
theorem dL_law_486 : decode cL_law 486 = .ok (.aload_n 0, 1) := by decide +kernel
theorem dL_law_487 : decode cL_law 487 = .ok (.iload 4, 2) := by decide +kernel
theorem dL_law_489 : decode cL_law 489 = .ok (.iconst 3, 1) := by decide +kernel
theorem dL_law_490 : decode cL_law 490 = .ok (.iadd, 1) := by decide +kernel
theorem dL_law_491 : decode cL_law 491 = .ok (.iaload, 1) := by decide +kernel
theorem dL_law_492 : decode cL_law 492 = .ok (.aload_n 0, 1) := by decide +kernel
theorem dL_law_493 : decode cL_law 493 = .ok (.iload 4, 2) := by decide +kernel
theorem dL_law_495 : decode cL_law 495 = .ok (.iconst 4, 1) := by decide +kernel
theorem dL_law_496 : decode cL_law 496 = .ok (.iadd, 1) := by decide +kernel
theorem dL_law_497 : decode cL_law 497 = .ok (.iaload, 1) := by decide +kernel
theorem dL_law_498 : decode cL_law 498 = .ok (.aload_n 0, 1) := by decide +kernel
theorem dL_law_499 : decode cL_law 499 = .ok (.iload 4, 2) := by decide +kernel
theorem dL_law_501 : decode cL_law 501 = .ok (.iconst 5, 1) := by decide +kernel
theorem dL_law_502 : decode cL_law 502 = .ok (.iadd, 1) := by decide +kernel
theorem dL_law_503 : decode cL_law 503 = .ok (.iaload, 1) := by decide +kernel
theorem dL_law_504 : decode cL_law 504 = .ok (.invokevirtual 60, 3) := by decide +kernel
theorem dL_law_507 : decode cL_law 507 = .ok (.aload_n 2, 1) := by decide +kernel
theorem dL_law_508 : decode cL_law 508 = .ok (.aload_n 0, 1) := by decide +kernel
theorem dL_law_509 : decode cL_law 509 = .ok (.iload 4, 2) := by decide +kernel
theorem dL_law_511 : decode cL_law 511 = .ok (.iconst 1, 1) := by decide +kernel
theorem dL_law_512 : decode cL_law 512 = .ok (.iadd, 1) := by decide +kernel
theorem dL_law_513 : decode cL_law 513 = .ok (.iaload, 1) := by decide +kernel
theorem dL_law_514 : decode cL_law 514 = .ok (.aload_n 0, 1) := by decide +kernel
theorem dL_law_515 : decode cL_law 515 = .ok (.iload 4, 2) := by decide +kernel
theorem dL_law_517 : decode cL_law 517 = .ok (.iconst 2, 1) := by decide +kernel
theorem dL_law_518 : decode cL_law 518 = .ok (.iadd, 1) := by decide +kernel
theorem dL_law_519 : decode cL_law 519 = .ok (.iaload, 1) := by decide +kernel
theorem dL_law_520 : decode cL_law 520 = .ok (.aload_n 0, 1) := by decide +kernel
theorem dL_law_521 : decode cL_law 521 = .ok (.iload 4, 2) := by decide +kernel
theorem dL_law_523 : decode cL_law 523 = .ok (.iconst 3, 1) := by decide +kernel
theorem dL_law_524 : decode cL_law 524 = .ok (.iadd, 1) := by decide +kernel
theorem dL_law_525 : decode cL_law 525 = .ok (.iaload, 1) := by decide +kernel
theorem dL_law_526 : decode cL_law 526 = .ok (.aload_n 0, 1) := by decide +kernel
theorem dL_law_527 : decode cL_law 527 = .ok (.iload 4, 2) := by decide +kernel
theorem dL_law_529 : decode cL_law 529 = .ok (.iconst 4, 1) := by decide +kernel
theorem dL_law_530 : decode cL_law 530 = .ok (.iadd, 1) := by decide +kernel
theorem dL_law_531 : decode cL_law 531 = .ok (.iaload, 1) := by decide +kernel
theorem dL_law_532 : decode cL_law 532 = .ok (.aload_n 0, 1) := by decide +kernel
theorem dL_law_533 : decode cL_law 533 = .ok (.iload 4, 2) := by decide +kernel
theorem dL_law_535 : decode cL_law 535 = .ok (.iconst 5, 1) := by decide +kernel
theorem dL_law_536 : decode cL_law 536 = .ok (.iadd, 1) := by decide +kernel
theorem dL_law_537 : decode cL_law 537 = .ok (.iaload, 1) := by decide +kernel
theorem dL_law_538 : decode cL_law 538 = .ok (.invokevirtual 64, 3) := by decide +kernel
theorem dL_law_541 : decode cL_law 541 = .ok (.if_icmp .eq 534, 3) := by decide +kernel
theorem dL_law_544 : decode cL_law 544 = .ok (.iconst 0, 1) := by decide +kernel
theorem dL_law_545 : decode cL_law 545 = .ok (.ireturn, 1) := by decide +kernel
theorem dL_law_546 : decode cL_law 546 = .ok (.aload_n 1, 1) := by decide +kernel
theorem dL_law_547 : decode cL_law 547 = .ok (.aload_n 0, 1) := by decide +kernel
theorem dL_law_548 : decode cL_law 548 = .ok (.iload 4, 2) := by decide +kernel
theorem dL_law_550 : decode cL_law 550 = .ok (.iconst 1, 1) := by decide +kernel
theorem dL_law_551 : decode cL_law 551 = .ok (.iadd, 1) := by decide +kernel
theorem dL_law_552 : decode cL_law 552 = .ok (.iaload, 1) := by decide +kernel
theorem dL_law_553 : decode cL_law 553 = .ok (.aload_n 0, 1) := by decide +kernel
theorem dL_law_554 : decode cL_law 554 = .ok (.iload 4, 2) := by decide +kernel
theorem dL_law_556 : decode cL_law 556 = .ok (.iconst 2, 1) := by decide +kernel
theorem dL_law_557 : decode cL_law 557 = .ok (.iadd, 1) := by decide +kernel
theorem dL_law_558 : decode cL_law 558 = .ok (.iaload, 1) := by decide +kernel
theorem dL_law_559 : decode cL_law 559 = .ok (.aload_n 0, 1) := by decide +kernel
theorem dL_law_560 : decode cL_law 560 = .ok (.iload 4, 2) := by decide +kernel
theorem dL_law_562 : decode cL_law 562 = .ok (.iconst 3, 1) := by decide +kernel
theorem dL_law_563 : decode cL_law 563 = .ok (.iadd, 1) := by decide +kernel
theorem dL_law_564 : decode cL_law 564 = .ok (.iaload, 1) := by decide +kernel
theorem dL_law_565 : decode cL_law 565 = .ok (.aload_n 0, 1) := by decide +kernel
theorem dL_law_566 : decode cL_law 566 = .ok (.iload 4, 2) := by decide +kernel
theorem dL_law_568 : decode cL_law 568 = .ok (.iconst 4, 1) := by decide +kernel
theorem dL_law_569 : decode cL_law 569 = .ok (.iadd, 1) := by decide +kernel
theorem dL_law_570 : decode cL_law 570 = .ok (.iaload, 1) := by decide +kernel
theorem dL_law_571 : decode cL_law 571 = .ok (.aload_n 0, 1) := by decide +kernel
theorem dL_law_572 : decode cL_law 572 = .ok (.iload 4, 2) := by decide +kernel
theorem dL_law_574 : decode cL_law 574 = .ok (.iconst 5, 1) := by decide +kernel
theorem dL_law_575 : decode cL_law 575 = .ok (.iadd, 1) := by decide +kernel
theorem dL_law_576 : decode cL_law 576 = .ok (.iaload, 1) := by decide +kernel
theorem dL_law_577 : decode cL_law 577 = .ok (.invokevirtual 65, 3) := by decide +kernel
theorem dL_law_580 : decode cL_law 580 = .ok (.aload_n 2, 1) := by decide +kernel
theorem dL_law_581 : decode cL_law 581 = .ok (.aload_n 0, 1) := by decide +kernel
theorem dL_law_582 : decode cL_law 582 = .ok (.iload 4, 2) := by decide +kernel
theorem dL_law_584 : decode cL_law 584 = .ok (.iconst 1, 1) := by decide +kernel
theorem dL_law_585 : decode cL_law 585 = .ok (.iadd, 1) := by decide +kernel
theorem dL_law_586 : decode cL_law 586 = .ok (.iaload, 1) := by decide +kernel
theorem dL_law_587 : decode cL_law 587 = .ok (.aload_n 0, 1) := by decide +kernel
theorem dL_law_588 : decode cL_law 588 = .ok (.iload 4, 2) := by decide +kernel
theorem dL_law_590 : decode cL_law 590 = .ok (.iconst 2, 1) := by decide +kernel
theorem dL_law_591 : decode cL_law 591 = .ok (.iadd, 1) := by decide +kernel
theorem dL_law_592 : decode cL_law 592 = .ok (.iaload, 1) := by decide +kernel
theorem dL_law_593 : decode cL_law 593 = .ok (.aload_n 0, 1) := by decide +kernel
theorem dL_law_594 : decode cL_law 594 = .ok (.iload 4, 2) := by decide +kernel
theorem dL_law_596 : decode cL_law 596 = .ok (.iconst 3, 1) := by decide +kernel
theorem dL_law_597 : decode cL_law 597 = .ok (.iadd, 1) := by decide +kernel
theorem dL_law_598 : decode cL_law 598 = .ok (.iaload, 1) := by decide +kernel
theorem dL_law_599 : decode cL_law 599 = .ok (.aload_n 0, 1) := by decide +kernel
theorem dL_law_600 : decode cL_law 600 = .ok (.iload 4, 2) := by decide +kernel
theorem dL_law_602 : decode cL_law 602 = .ok (.iconst 4, 1) := by decide +kernel
theorem dL_law_603 : decode cL_law 603 = .ok (.iadd, 1) := by decide +kernel
theorem dL_law_604 : decode cL_law 604 = .ok (.iaload, 1) := by decide +kernel
theorem dL_law_605 : decode cL_law 605 = .ok (.aload_n 0, 1) := by decide +kernel
theorem dL_law_606 : decode cL_law 606 = .ok (.iload 4, 2) := by decide +kernel
theorem dL_law_608 : decode cL_law 608 = .ok (.iconst 5, 1) := by decide +kernel
theorem dL_law_609 : decode cL_law 609 = .ok (.iadd, 1) := by decide +kernel
theorem dL_law_610 : decode cL_law 610 = .ok (.iaload, 1) := by decide +kernel
theorem dL_law_611 : decode cL_law 611 = .ok (.invokevirtual 68, 3) := by decide +kernel
theorem dL_law_614 : decode cL_law 614 = .ok (.if_icmp .eq 461, 3) := by decide +kernel
theorem dL_law_617 : decode cL_law 617 = .ok (.iconst 0, 1) := by decide +kernel
theorem dL_law_618 : decode cL_law 618 = .ok (.ireturn, 1) := by decide +kernel
theorem dL_law_619 : decode cL_law 619 = .ok (.aload_n 1, 1) := by decide +kernel
theorem dL_law_620 : decode cL_law 620 = .ok (.aload_n 0, 1) := by decide +kernel
theorem dL_law_621 : decode cL_law 621 = .ok (.iload 4, 2) := by decide +kernel
theorem dL_law_623 : decode cL_law 623 = .ok (.iconst 1, 1) := by decide +kernel
theorem dL_law_624 : decode cL_law 624 = .ok (.iadd, 1) := by decide +kernel
theorem dL_law_625 : decode cL_law 625 = .ok (.iaload, 1) := by decide +kernel
theorem dL_law_626 : decode cL_law 626 = .ok (.invokevirtual 69, 3) := by decide +kernel
theorem dL_law_629 : decode cL_law 629 = .ok (.aload_n 2, 1) := by decide +kernel
theorem dL_law_630 : decode cL_law 630 = .ok (.aload_n 0, 1) := by decide +kernel
theorem dL_law_631 : decode cL_law 631 = .ok (.iload 4, 2) := by decide +kernel
theorem dL_law_633 : decode cL_law 633 = .ok (.iconst 1, 1) := by decide +kernel
theorem dL_law_634 : decode cL_law 634 = .ok (.iadd, 1) := by decide +kernel
theorem dL_law_635 : decode cL_law 635 = .ok (.iaload, 1) := by decide +kernel
theorem dL_law_636 : decode cL_law 636 = .ok (.invokevirtual 72, 3) := by decide +kernel
theorem dL_law_639 : decode cL_law 639 = .ok (.if_icmp .eq 436, 3) := by decide +kernel
theorem dL_law_642 : decode cL_law 642 = .ok (.iconst 0, 1) := by decide +kernel
theorem dL_law_643 : decode cL_law 643 = .ok (.ireturn, 1) := by decide +kernel
theorem dL_law_644 : decode cL_law 644 = .ok (.aload_n 1, 1) := by decide +kernel
theorem dL_law_645 : decode cL_law 645 = .ok (.aload_n 0, 1) := by decide +kernel
theorem dL_law_646 : decode cL_law 646 = .ok (.iload 4, 2) := by decide +kernel
theorem dL_law_648 : decode cL_law 648 = .ok (.iconst 1, 1) := by decide +kernel
theorem dL_law_649 : decode cL_law 649 = .ok (.iadd, 1) := by decide +kernel
theorem dL_law_650 : decode cL_law 650 = .ok (.iaload, 1) := by decide +kernel
theorem dL_law_651 : decode cL_law 651 = .ok (.invokevirtual 73, 3) := by decide +kernel
theorem dL_law_654 : decode cL_law 654 = .ok (.aload_n 2, 1) := by decide +kernel
theorem dL_law_655 : decode cL_law 655 = .ok (.aload_n 0, 1) := by decide +kernel
theorem dL_law_656 : decode cL_law 656 = .ok (.iload 4, 2) := by decide +kernel
theorem dL_law_658 : decode cL_law 658 = .ok (.iconst 1, 1) := by decide +kernel
theorem dL_law_659 : decode cL_law 659 = .ok (.iadd, 1) := by decide +kernel
theorem dL_law_660 : decode cL_law 660 = .ok (.iaload, 1) := by decide +kernel
theorem dL_law_661 : decode cL_law 661 = .ok (.invokevirtual 76, 3) := by decide +kernel
theorem dL_law_664 : decode cL_law 664 = .ok (.if_icmp .eq 411, 3) := by decide +kernel
theorem dL_law_667 : decode cL_law 667 = .ok (.iconst 0, 1) := by decide +kernel
theorem dL_law_668 : decode cL_law 668 = .ok (.ireturn, 1) := by decide +kernel
theorem dL_law_669 : decode cL_law 669 = .ok (.aload_n 1, 1) := by decide +kernel
theorem dL_law_670 : decode cL_law 670 = .ok (.aload_n 0, 1) := by decide +kernel
theorem dL_law_671 : decode cL_law 671 = .ok (.iload 4, 2) := by decide +kernel
theorem dL_law_673 : decode cL_law 673 = .ok (.iconst 1, 1) := by decide +kernel
theorem dL_law_674 : decode cL_law 674 = .ok (.iadd, 1) := by decide +kernel
theorem dL_law_675 : decode cL_law 675 = .ok (.iaload, 1) := by decide +kernel
theorem dL_law_676 : decode cL_law 676 = .ok (.aload_n 0, 1) := by decide +kernel
theorem dL_law_677 : decode cL_law 677 = .ok (.iload 4, 2) := by decide +kernel
theorem dL_law_679 : decode cL_law 679 = .ok (.iconst 2, 1) := by decide +kernel
theorem dL_law_680 : decode cL_law 680 = .ok (.iadd, 1) := by decide +kernel
theorem dL_law_681 : decode cL_law 681 = .ok (.iaload, 1) := by decide +kernel
theorem dL_law_682 : decode cL_law 682 = .ok (.invokevirtual 77, 3) := by decide +kernel
theorem dL_law_685 : decode cL_law 685 = .ok (.aload_n 2, 1) := by decide +kernel
theorem dL_law_686 : decode cL_law 686 = .ok (.aload_n 0, 1) := by decide +kernel
theorem dL_law_687 : decode cL_law 687 = .ok (.iload 4, 2) := by decide +kernel
theorem dL_law_689 : decode cL_law 689 = .ok (.iconst 1, 1) := by decide +kernel
theorem dL_law_690 : decode cL_law 690 = .ok (.iadd, 1) := by decide +kernel
theorem dL_law_691 : decode cL_law 691 = .ok (.iaload, 1) := by decide +kernel
theorem dL_law_692 : decode cL_law 692 = .ok (.aload_n 0, 1) := by decide +kernel
theorem dL_law_693 : decode cL_law 693 = .ok (.iload 4, 2) := by decide +kernel
theorem dL_law_695 : decode cL_law 695 = .ok (.iconst 2, 1) := by decide +kernel
theorem dL_law_696 : decode cL_law 696 = .ok (.iadd, 1) := by decide +kernel
theorem dL_law_697 : decode cL_law 697 = .ok (.iaload, 1) := by decide +kernel
theorem dL_law_698 : decode cL_law 698 = .ok (.invokevirtual 80, 3) := by decide +kernel
theorem dL_law_701 : decode cL_law 701 = .ok (.if_icmp .eq 374, 3) := by decide +kernel
theorem dL_law_704 : decode cL_law 704 = .ok (.iconst 0, 1) := by decide +kernel
theorem dL_law_705 : decode cL_law 705 = .ok (.ireturn, 1) := by decide +kernel
theorem dL_law_706 : decode cL_law 706 = .ok (.aload_n 1, 1) := by decide +kernel
theorem dL_law_707 : decode cL_law 707 = .ok (.invokevirtual 81, 3) := by decide +kernel
theorem dL_law_710 : decode cL_law 710 = .ok (.aload_n 2, 1) := by decide +kernel
theorem dL_law_711 : decode cL_law 711 = .ok (.invokevirtual 84, 3) := by decide +kernel
theorem dL_law_714 : decode cL_law 714 = .ok (.if_icmp .eq 361, 3) := by decide +kernel
theorem dL_law_717 : decode cL_law 717 = .ok (.iconst 0, 1) := by decide +kernel
theorem dL_law_718 : decode cL_law 718 = .ok (.ireturn, 1) := by decide +kernel
theorem dL_law_719 : decode cL_law 719 = .ok (.aload_n 1, 1) := by decide +kernel
theorem dL_law_720 : decode cL_law 720 = .ok (.aload_n 0, 1) := by decide +kernel
theorem dL_law_721 : decode cL_law 721 = .ok (.iload 4, 2) := by decide +kernel
theorem dL_law_723 : decode cL_law 723 = .ok (.iconst 1, 1) := by decide +kernel
theorem dL_law_724 : decode cL_law 724 = .ok (.iadd, 1) := by decide +kernel
theorem dL_law_725 : decode cL_law 725 = .ok (.iaload, 1) := by decide +kernel
theorem dL_law_726 : decode cL_law 726 = .ok (.aload_n 0, 1) := by decide +kernel
theorem dL_law_727 : decode cL_law 727 = .ok (.iload 4, 2) := by decide +kernel
theorem dL_law_729 : decode cL_law 729 = .ok (.iconst 2, 1) := by decide +kernel
theorem dL_law_730 : decode cL_law 730 = .ok (.iadd, 1) := by decide +kernel
theorem dL_law_731 : decode cL_law 731 = .ok (.iaload, 1) := by decide +kernel
theorem dL_law_732 : decode cL_law 732 = .ok (.aload_n 0, 1) := by decide +kernel
theorem dL_law_733 : decode cL_law 733 = .ok (.iload 4, 2) := by decide +kernel
theorem dL_law_735 : decode cL_law 735 = .ok (.iconst 3, 1) := by decide +kernel
theorem dL_law_736 : decode cL_law 736 = .ok (.iadd, 1) := by decide +kernel
theorem dL_law_737 : decode cL_law 737 = .ok (.iaload, 1) := by decide +kernel
theorem dL_law_738 : decode cL_law 738 = .ok (.invokevirtual 85, 3) := by decide +kernel
theorem dL_law_741 : decode cL_law 741 = .ok (.aload_n 2, 1) := by decide +kernel
theorem dL_law_742 : decode cL_law 742 = .ok (.aload_n 0, 1) := by decide +kernel
theorem dL_law_743 : decode cL_law 743 = .ok (.iload 4, 2) := by decide +kernel
theorem dL_law_745 : decode cL_law 745 = .ok (.iconst 1, 1) := by decide +kernel
theorem dL_law_746 : decode cL_law 746 = .ok (.iadd, 1) := by decide +kernel
theorem dL_law_747 : decode cL_law 747 = .ok (.iaload, 1) := by decide +kernel
theorem dL_law_748 : decode cL_law 748 = .ok (.aload_n 0, 1) := by decide +kernel
theorem dL_law_749 : decode cL_law 749 = .ok (.iload 4, 2) := by decide +kernel
theorem dL_law_751 : decode cL_law 751 = .ok (.iconst 2, 1) := by decide +kernel
theorem dL_law_752 : decode cL_law 752 = .ok (.iadd, 1) := by decide +kernel
theorem dL_law_753 : decode cL_law 753 = .ok (.iaload, 1) := by decide +kernel
theorem dL_law_754 : decode cL_law 754 = .ok (.aload_n 0, 1) := by decide +kernel
theorem dL_law_755 : decode cL_law 755 = .ok (.iload 4, 2) := by decide +kernel
theorem dL_law_757 : decode cL_law 757 = .ok (.iconst 3, 1) := by decide +kernel
theorem dL_law_758 : decode cL_law 758 = .ok (.iadd, 1) := by decide +kernel
theorem dL_law_759 : decode cL_law 759 = .ok (.iaload, 1) := by decide +kernel
theorem dL_law_760 : decode cL_law 760 = .ok (.invokevirtual 88, 3) := by decide +kernel
theorem dL_law_763 : decode cL_law 763 = .ok (.if_icmp .eq 312, 3) := by decide +kernel
theorem dL_law_766 : decode cL_law 766 = .ok (.iconst 0, 1) := by decide +kernel
theorem dL_law_767 : decode cL_law 767 = .ok (.ireturn, 1) := by decide +kernel
theorem dL_law_768 : decode cL_law 768 = .ok (.aload_n 1, 1) := by decide +kernel
theorem dL_law_769 : decode cL_law 769 = .ok (.aload_n 0, 1) := by decide +kernel
theorem dL_law_770 : decode cL_law 770 = .ok (.iload 4, 2) := by decide +kernel
theorem dL_law_772 : decode cL_law 772 = .ok (.iconst 1, 1) := by decide +kernel
theorem dL_law_773 : decode cL_law 773 = .ok (.iadd, 1) := by decide +kernel
theorem dL_law_774 : decode cL_law 774 = .ok (.iaload, 1) := by decide +kernel
theorem dL_law_775 : decode cL_law 775 = .ok (.invokevirtual 89, 3) := by decide +kernel
theorem dL_law_778 : decode cL_law 778 = .ok (.aload_n 2, 1) := by decide +kernel
theorem dL_law_779 : decode cL_law 779 = .ok (.aload_n 0, 1) := by decide +kernel
theorem dL_law_780 : decode cL_law 780 = .ok (.iload 4, 2) := by decide +kernel
theorem dL_law_782 : decode cL_law 782 = .ok (.iconst 1, 1) := by decide +kernel
theorem dL_law_783 : decode cL_law 783 = .ok (.iadd, 1) := by decide +kernel
theorem dL_law_784 : decode cL_law 784 = .ok (.iaload, 1) := by decide +kernel
theorem dL_law_785 : decode cL_law 785 = .ok (.invokevirtual 92, 3) := by decide +kernel
theorem dL_law_788 : decode cL_law 788 = .ok (.if_icmp .eq 287, 3) := by decide +kernel
theorem dL_law_791 : decode cL_law 791 = .ok (.iconst 0, 1) := by decide +kernel
theorem dL_law_792 : decode cL_law 792 = .ok (.ireturn, 1) := by decide +kernel
theorem dL_law_793 : decode cL_law 793 = .ok (.aload_n 1, 1) := by decide +kernel
theorem dL_law_794 : decode cL_law 794 = .ok (.invokevirtual 93, 3) := by decide +kernel
theorem dL_law_797 : decode cL_law 797 = .ok (.aload_n 2, 1) := by decide +kernel
theorem dL_law_798 : decode cL_law 798 = .ok (.invokevirtual 96, 3) := by decide +kernel
theorem dL_law_801 : decode cL_law 801 = .ok (.if_icmp .eq 274, 3) := by decide +kernel
theorem dL_law_804 : decode cL_law 804 = .ok (.iconst 0, 1) := by decide +kernel
theorem dL_law_805 : decode cL_law 805 = .ok (.ireturn, 1) := by decide +kernel
theorem dL_law_806 : decode cL_law 806 = .ok (.aload_n 1, 1) := by decide +kernel
theorem dL_law_807 : decode cL_law 807 = .ok (.aload_n 0, 1) := by decide +kernel
theorem dL_law_808 : decode cL_law 808 = .ok (.iload 4, 2) := by decide +kernel
theorem dL_law_810 : decode cL_law 810 = .ok (.iconst 1, 1) := by decide +kernel
theorem dL_law_811 : decode cL_law 811 = .ok (.iadd, 1) := by decide +kernel
theorem dL_law_812 : decode cL_law 812 = .ok (.iaload, 1) := by decide +kernel
theorem dL_law_813 : decode cL_law 813 = .ok (.aload_n 0, 1) := by decide +kernel
theorem dL_law_814 : decode cL_law 814 = .ok (.iload 4, 2) := by decide +kernel
theorem dL_law_816 : decode cL_law 816 = .ok (.iconst 2, 1) := by decide +kernel
theorem dL_law_817 : decode cL_law 817 = .ok (.iadd, 1) := by decide +kernel
theorem dL_law_818 : decode cL_law 818 = .ok (.iaload, 1) := by decide +kernel
theorem dL_law_819 : decode cL_law 819 = .ok (.aload_n 0, 1) := by decide +kernel
theorem dL_law_820 : decode cL_law 820 = .ok (.iload 4, 2) := by decide +kernel
theorem dL_law_822 : decode cL_law 822 = .ok (.iconst 3, 1) := by decide +kernel
theorem dL_law_823 : decode cL_law 823 = .ok (.iadd, 1) := by decide +kernel
theorem dL_law_824 : decode cL_law 824 = .ok (.iaload, 1) := by decide +kernel
theorem dL_law_825 : decode cL_law 825 = .ok (.ifCond .eq 7, 3) := by decide +kernel
theorem dL_law_828 : decode cL_law 828 = .ok (.iconst 1, 1) := by decide +kernel
theorem dL_law_829 : decode cL_law 829 = .ok (.goto 4, 3) := by decide +kernel
theorem dL_law_832 : decode cL_law 832 = .ok (.iconst 0, 1) := by decide +kernel
theorem dL_law_833 : decode cL_law 833 = .ok (.invokevirtual 97, 3) := by decide +kernel
theorem dL_law_836 : decode cL_law 836 = .ok (.aload_n 2, 1) := by decide +kernel
theorem dL_law_837 : decode cL_law 837 = .ok (.aload_n 0, 1) := by decide +kernel
theorem dL_law_838 : decode cL_law 838 = .ok (.iload 4, 2) := by decide +kernel
theorem dL_law_840 : decode cL_law 840 = .ok (.iconst 1, 1) := by decide +kernel
theorem dL_law_841 : decode cL_law 841 = .ok (.iadd, 1) := by decide +kernel
theorem dL_law_842 : decode cL_law 842 = .ok (.iaload, 1) := by decide +kernel
theorem dL_law_843 : decode cL_law 843 = .ok (.aload_n 0, 1) := by decide +kernel
theorem dL_law_844 : decode cL_law 844 = .ok (.iload 4, 2) := by decide +kernel
theorem dL_law_846 : decode cL_law 846 = .ok (.iconst 2, 1) := by decide +kernel
theorem dL_law_847 : decode cL_law 847 = .ok (.iadd, 1) := by decide +kernel
theorem dL_law_848 : decode cL_law 848 = .ok (.iaload, 1) := by decide +kernel
theorem dL_law_849 : decode cL_law 849 = .ok (.aload_n 0, 1) := by decide +kernel
theorem dL_law_850 : decode cL_law 850 = .ok (.iload 4, 2) := by decide +kernel
theorem dL_law_852 : decode cL_law 852 = .ok (.iconst 3, 1) := by decide +kernel
theorem dL_law_853 : decode cL_law 853 = .ok (.iadd, 1) := by decide +kernel
theorem dL_law_854 : decode cL_law 854 = .ok (.iaload, 1) := by decide +kernel
theorem dL_law_855 : decode cL_law 855 = .ok (.ifCond .eq 7, 3) := by decide +kernel
theorem dL_law_858 : decode cL_law 858 = .ok (.iconst 1, 1) := by decide +kernel
theorem dL_law_859 : decode cL_law 859 = .ok (.goto 4, 3) := by decide +kernel
theorem dL_law_862 : decode cL_law 862 = .ok (.iconst 0, 1) := by decide +kernel
theorem dL_law_863 : decode cL_law 863 = .ok (.invokevirtual 101, 3) := by decide +kernel
theorem dL_law_866 : decode cL_law 866 = .ok (.if_icmp .eq 209, 3) := by decide +kernel
theorem dL_law_869 : decode cL_law 869 = .ok (.iconst 0, 1) := by decide +kernel
theorem dL_law_870 : decode cL_law 870 = .ok (.ireturn, 1) := by decide +kernel
theorem dL_law_871 : decode cL_law 871 = .ok (.aload_n 1, 1) := by decide +kernel
theorem dL_law_872 : decode cL_law 872 = .ok (.aload_n 0, 1) := by decide +kernel
theorem dL_law_873 : decode cL_law 873 = .ok (.iload 4, 2) := by decide +kernel
theorem dL_law_875 : decode cL_law 875 = .ok (.iconst 1, 1) := by decide +kernel
theorem dL_law_876 : decode cL_law 876 = .ok (.iadd, 1) := by decide +kernel
theorem dL_law_877 : decode cL_law 877 = .ok (.iaload, 1) := by decide +kernel
theorem dL_law_878 : decode cL_law 878 = .ok (.aload_n 0, 1) := by decide +kernel
theorem dL_law_879 : decode cL_law 879 = .ok (.iload 4, 2) := by decide +kernel
theorem dL_law_881 : decode cL_law 881 = .ok (.iconst 2, 1) := by decide +kernel
theorem dL_law_882 : decode cL_law 882 = .ok (.iadd, 1) := by decide +kernel
theorem dL_law_883 : decode cL_law 883 = .ok (.iaload, 1) := by decide +kernel
theorem dL_law_884 : decode cL_law 884 = .ok (.invokevirtual 102, 3) := by decide +kernel
theorem dL_law_887 : decode cL_law 887 = .ok (.aload_n 2, 1) := by decide +kernel
theorem dL_law_888 : decode cL_law 888 = .ok (.aload_n 0, 1) := by decide +kernel
theorem dL_law_889 : decode cL_law 889 = .ok (.iload 4, 2) := by decide +kernel
theorem dL_law_891 : decode cL_law 891 = .ok (.iconst 1, 1) := by decide +kernel
theorem dL_law_892 : decode cL_law 892 = .ok (.iadd, 1) := by decide +kernel
theorem dL_law_893 : decode cL_law 893 = .ok (.iaload, 1) := by decide +kernel
theorem dL_law_894 : decode cL_law 894 = .ok (.aload_n 0, 1) := by decide +kernel
theorem dL_law_895 : decode cL_law 895 = .ok (.iload 4, 2) := by decide +kernel
theorem dL_law_897 : decode cL_law 897 = .ok (.iconst 2, 1) := by decide +kernel
theorem dL_law_898 : decode cL_law 898 = .ok (.iadd, 1) := by decide +kernel
theorem dL_law_899 : decode cL_law 899 = .ok (.iaload, 1) := by decide +kernel
theorem dL_law_900 : decode cL_law 900 = .ok (.invokevirtual 105, 3) := by decide +kernel
theorem dL_law_903 : decode cL_law 903 = .ok (.if_icmp .eq 172, 3) := by decide +kernel
theorem dL_law_906 : decode cL_law 906 = .ok (.iconst 0, 1) := by decide +kernel
theorem dL_law_907 : decode cL_law 907 = .ok (.ireturn, 1) := by decide +kernel
theorem dL_law_908 : decode cL_law 908 = .ok (.aload_n 1, 1) := by decide +kernel
theorem dL_law_909 : decode cL_law 909 = .ok (.aload_n 0, 1) := by decide +kernel
theorem dL_law_910 : decode cL_law 910 = .ok (.iload 4, 2) := by decide +kernel
theorem dL_law_912 : decode cL_law 912 = .ok (.iconst 1, 1) := by decide +kernel
theorem dL_law_913 : decode cL_law 913 = .ok (.iadd, 1) := by decide +kernel
theorem dL_law_914 : decode cL_law 914 = .ok (.iaload, 1) := by decide +kernel
theorem dL_law_915 : decode cL_law 915 = .ok (.aload_n 0, 1) := by decide +kernel
theorem dL_law_916 : decode cL_law 916 = .ok (.iload 4, 2) := by decide +kernel
theorem dL_law_918 : decode cL_law 918 = .ok (.iconst 2, 1) := by decide +kernel
theorem dL_law_919 : decode cL_law 919 = .ok (.iadd, 1) := by decide +kernel
theorem dL_law_920 : decode cL_law 920 = .ok (.iaload, 1) := by decide +kernel
theorem dL_law_921 : decode cL_law 921 = .ok (.invokevirtual 106, 3) := by decide +kernel
theorem dL_law_924 : decode cL_law 924 = .ok (.aload_n 2, 1) := by decide +kernel
theorem dL_law_925 : decode cL_law 925 = .ok (.aload_n 0, 1) := by decide +kernel
theorem dL_law_926 : decode cL_law 926 = .ok (.iload 4, 2) := by decide +kernel
theorem dL_law_928 : decode cL_law 928 = .ok (.iconst 1, 1) := by decide +kernel
theorem dL_law_929 : decode cL_law 929 = .ok (.iadd, 1) := by decide +kernel
theorem dL_law_930 : decode cL_law 930 = .ok (.iaload, 1) := by decide +kernel
theorem dL_law_931 : decode cL_law 931 = .ok (.aload_n 0, 1) := by decide +kernel
theorem dL_law_932 : decode cL_law 932 = .ok (.iload 4, 2) := by decide +kernel
theorem dL_law_934 : decode cL_law 934 = .ok (.iconst 2, 1) := by decide +kernel
theorem dL_law_935 : decode cL_law 935 = .ok (.iadd, 1) := by decide +kernel
theorem dL_law_936 : decode cL_law 936 = .ok (.iaload, 1) := by decide +kernel
theorem dL_law_937 : decode cL_law 937 = .ok (.invokevirtual 109, 3) := by decide +kernel
theorem dL_law_940 : decode cL_law 940 = .ok (.if_icmp .eq 135, 3) := by decide +kernel
theorem dL_law_943 : decode cL_law 943 = .ok (.iconst 0, 1) := by decide +kernel
theorem dL_law_944 : decode cL_law 944 = .ok (.ireturn, 1) := by decide +kernel
theorem dL_law_945 : decode cL_law 945 = .ok (.aload_n 1, 1) := by decide +kernel
theorem dL_law_946 : decode cL_law 946 = .ok (.aload_n 0, 1) := by decide +kernel
theorem dL_law_947 : decode cL_law 947 = .ok (.iload 4, 2) := by decide +kernel
theorem dL_law_949 : decode cL_law 949 = .ok (.iconst 1, 1) := by decide +kernel
theorem dL_law_950 : decode cL_law 950 = .ok (.iadd, 1) := by decide +kernel
theorem dL_law_951 : decode cL_law 951 = .ok (.iaload, 1) := by decide +kernel
theorem dL_law_952 : decode cL_law 952 = .ok (.aload_n 0, 1) := by decide +kernel
theorem dL_law_953 : decode cL_law 953 = .ok (.iload 4, 2) := by decide +kernel
theorem dL_law_955 : decode cL_law 955 = .ok (.iconst 2, 1) := by decide +kernel
theorem dL_law_956 : decode cL_law 956 = .ok (.iadd, 1) := by decide +kernel
theorem dL_law_957 : decode cL_law 957 = .ok (.iaload, 1) := by decide +kernel
theorem dL_law_958 : decode cL_law 958 = .ok (.aload_n 3, 1) := by decide +kernel
theorem dL_law_959 : decode cL_law 959 = .ok (.invokestatic 110, 3) := by decide +kernel
theorem dL_law_962 : decode cL_law 962 = .ok (.istore 5, 2) := by decide +kernel
theorem dL_law_964 : decode cL_law 964 = .ok (.aload_n 2, 1) := by decide +kernel
theorem dL_law_965 : decode cL_law 965 = .ok (.aload_n 0, 1) := by decide +kernel
theorem dL_law_966 : decode cL_law 966 = .ok (.iload 4, 2) := by decide +kernel
theorem dL_law_968 : decode cL_law 968 = .ok (.iconst 1, 1) := by decide +kernel
theorem dL_law_969 : decode cL_law 969 = .ok (.iadd, 1) := by decide +kernel
theorem dL_law_970 : decode cL_law 970 = .ok (.iaload, 1) := by decide +kernel
theorem dL_law_971 : decode cL_law 971 = .ok (.aload_n 0, 1) := by decide +kernel
theorem dL_law_972 : decode cL_law 972 = .ok (.iload 4, 2) := by decide +kernel
theorem dL_law_974 : decode cL_law 974 = .ok (.iconst 2, 1) := by decide +kernel
theorem dL_law_975 : decode cL_law 975 = .ok (.iadd, 1) := by decide +kernel
theorem dL_law_976 : decode cL_law 976 = .ok (.iaload, 1) := by decide +kernel
theorem dL_law_977 : decode cL_law 977 = .ok (.invokevirtual 115, 3) := by decide +kernel
theorem dL_law_980 : decode cL_law 980 = .ok (.istore 6, 2) := by decide +kernel
theorem dL_law_982 : decode cL_law 982 = .ok (.aload_n 2, 1) := by decide +kernel
theorem dL_law_983 : decode cL_law 983 = .ok (.invokevirtual 116, 3) := by decide +kernel
theorem dL_law_986 : decode cL_law 986 = .ok (.iload 5, 2) := by decide +kernel
theorem dL_law_988 : decode cL_law 988 = .ok (.if_icmp .eq 5, 3) := by decide +kernel
theorem dL_law_991 : decode cL_law 991 = .ok (.iconst 0, 1) := by decide +kernel
theorem dL_law_992 : decode cL_law 992 = .ok (.ireturn, 1) := by decide +kernel
theorem dL_law_993 : decode cL_law 993 = .ok (.iload 5, 2) := by decide +kernel
theorem dL_law_995 : decode cL_law 995 = .ok (.ifCond .ne 15, 3) := by decide +kernel
theorem dL_law_998 : decode cL_law 998 = .ok (.aload_n 3, 1) := by decide +kernel
theorem dL_law_999 : decode cL_law 999 = .ok (.iconst 0, 1) := by decide +kernel
theorem dL_law_1000 : decode cL_law 1000 = .ok (.laload, 1) := by decide +kernel
theorem dL_law_1001 : decode cL_law 1001 = .ok (.iload 6, 2) := by decide +kernel
theorem dL_law_1003 : decode cL_law 1003 = .ok (.i2l, 1) := by decide +kernel
theorem dL_law_1004 : decode cL_law 1004 = .ok (.lcmp, 1) := by decide +kernel
theorem dL_law_1005 : decode cL_law 1005 = .ok (.ifCond .eq 5, 3) := by decide +kernel
theorem dL_law_1008 : decode cL_law 1008 = .ok (.iconst 0, 1) := by decide +kernel
theorem dL_law_1009 : decode cL_law 1009 = .ok (.ireturn, 1) := by decide +kernel
theorem dL_law_1010 : decode cL_law 1010 = .ok (.goto 65, 3) := by decide +kernel
theorem dL_law_1013 : decode cL_law 1013 = .ok (.aload_n 1, 1) := by decide +kernel
theorem dL_law_1014 : decode cL_law 1014 = .ok (.aload_n 0, 1) := by decide +kernel
theorem dL_law_1015 : decode cL_law 1015 = .ok (.iload 4, 2) := by decide +kernel
theorem dL_law_1017 : decode cL_law 1017 = .ok (.iconst 1, 1) := by decide +kernel
theorem dL_law_1018 : decode cL_law 1018 = .ok (.iadd, 1) := by decide +kernel
theorem dL_law_1019 : decode cL_law 1019 = .ok (.iaload, 1) := by decide +kernel
theorem dL_law_1020 : decode cL_law 1020 = .ok (.aload_n 0, 1) := by decide +kernel
theorem dL_law_1021 : decode cL_law 1021 = .ok (.iload 4, 2) := by decide +kernel
theorem dL_law_1023 : decode cL_law 1023 = .ok (.iconst 2, 1) := by decide +kernel
theorem dL_law_1024 : decode cL_law 1024 = .ok (.iadd, 1) := by decide +kernel
theorem dL_law_1025 : decode cL_law 1025 = .ok (.iaload, 1) := by decide +kernel
theorem dL_law_1026 : decode cL_law 1026 = .ok (.invokevirtual 119, 3) := by decide +kernel
theorem dL_law_1029 : decode cL_law 1029 = .ok (.aload_n 2, 1) := by decide +kernel
theorem dL_law_1030 : decode cL_law 1030 = .ok (.aload_n 0, 1) := by decide +kernel
theorem dL_law_1031 : decode cL_law 1031 = .ok (.iload 4, 2) := by decide +kernel
theorem dL_law_1033 : decode cL_law 1033 = .ok (.iconst 1, 1) := by decide +kernel
theorem dL_law_1034 : decode cL_law 1034 = .ok (.iadd, 1) := by decide +kernel
theorem dL_law_1035 : decode cL_law 1035 = .ok (.iaload, 1) := by decide +kernel
theorem dL_law_1036 : decode cL_law 1036 = .ok (.aload_n 0, 1) := by decide +kernel
theorem dL_law_1037 : decode cL_law 1037 = .ok (.iload 4, 2) := by decide +kernel
theorem dL_law_1039 : decode cL_law 1039 = .ok (.iconst 2, 1) := by decide +kernel
theorem dL_law_1040 : decode cL_law 1040 = .ok (.iadd, 1) := by decide +kernel
theorem dL_law_1041 : decode cL_law 1041 = .ok (.iaload, 1) := by decide +kernel
theorem dL_law_1042 : decode cL_law 1042 = .ok (.invokevirtual 122, 3) := by decide +kernel
theorem dL_law_1045 : decode cL_law 1045 = .ok (.if_icmp .eq 30, 3) := by decide +kernel
theorem dL_law_1048 : decode cL_law 1048 = .ok (.iconst 0, 1) := by decide +kernel
theorem dL_law_1049 : decode cL_law 1049 = .ok (.ireturn, 1) := by decide +kernel
theorem dL_law_1050 : decode cL_law 1050 = .ok (.aload_n 1, 1) := by decide +kernel
theorem dL_law_1051 : decode cL_law 1051 = .ok (.aload_n 0, 1) := by decide +kernel
theorem dL_law_1052 : decode cL_law 1052 = .ok (.iload 4, 2) := by decide +kernel
theorem dL_law_1054 : decode cL_law 1054 = .ok (.iconst 1, 1) := by decide +kernel
theorem dL_law_1055 : decode cL_law 1055 = .ok (.iadd, 1) := by decide +kernel
theorem dL_law_1056 : decode cL_law 1056 = .ok (.iaload, 1) := by decide +kernel
theorem dL_law_1057 : decode cL_law 1057 = .ok (.invokevirtual 123, 3) := by decide +kernel
theorem dL_law_1060 : decode cL_law 1060 = .ok (.aload_n 2, 1) := by decide +kernel
theorem dL_law_1061 : decode cL_law 1061 = .ok (.aload_n 0, 1) := by decide +kernel
theorem dL_law_1062 : decode cL_law 1062 = .ok (.iload 4, 2) := by decide +kernel
theorem dL_law_1064 : decode cL_law 1064 = .ok (.iconst 1, 1) := by decide +kernel
theorem dL_law_1065 : decode cL_law 1065 = .ok (.iadd, 1) := by decide +kernel
theorem dL_law_1066 : decode cL_law 1066 = .ok (.iaload, 1) := by decide +kernel
theorem dL_law_1067 : decode cL_law 1067 = .ok (.invokevirtual 126, 3) := by decide +kernel
theorem dL_law_1070 : decode cL_law 1070 = .ok (.if_icmp .eq 5, 3) := by decide +kernel
theorem dL_law_1073 : decode cL_law 1073 = .ok (.iconst 0, 1) := by decide +kernel
theorem dL_law_1074 : decode cL_law 1074 = .ok (.ireturn, 1) := by decide +kernel
theorem dL_law_1075 : decode cL_law 1075 = .ok (.iinc 4 6, 3) := by decide +kernel
theorem dL_law_1078 : decode cL_law 1078 = .ok (.goto (-1055), 3) := by decide +kernel
theorem dL_law_1081 : decode cL_law 1081 = .ok (.iconst 1, 1) := by decide +kernel
theorem dL_law_1082 : decode cL_law 1082 = .ok (.ireturn, 1) := by decide +kernel
end
section
/-! ===== a callee's throw, caught by the one row of this method's table (the search's end, with the tables that it leaves): the printed vx_catch wants a law that lies outside the rounds' library, so it is made here out of the laws of throwing ===== -/
def ct_To (e : Env) (s : State) (f : JFrame) (a : Addr) (h : Handler) (vm' : Vm) : Prop :=
  ∀ (Q : Handler → Pre) (E : CtlPost) (d : Bool) (acts : List Action), wp (findHandler f a) Q E e d acts s ↔ Q h d acts (s.setVm vm')
theorem ct_find {e : Env} {s : State} {f : JFrame} {a : Addr} {meth : Method} {code : Code} (hm : s.vm.method? f.method = some meth) (hc : meth.code = some code)
    (x : ExceptionTableEntry) (suf : List ExceptionTableEntry) (hsplit : code.exceptionTable.toList = x :: suf) (hx : covers x f.pc = true) (h0 : x.catchType ≠ 0) {c : ClassId} {cell : Cell}
    (hl : s.vm.ClassLinks e.platform f.method.cls x.catchType c) (hcell : s.heap[a]? = some cell) (hobj : ∀ k, cell.vm ≠ .statics k)
    (hk : ∃ k, s.vm.classes[cell.cls]? = some k) (hcl : ∃ k, s.vm.classes[c]? = some k) (hfit : s.vm.assignable cell.cls c = true) :
    ct_To e s f a (.found x.handlerPc) (s.vm.noted f.method.cls x.catchType (.cls c)) := by
  intro Q E d acts
  rw [W.findHandler_eq hm hc, hsplit]
  simp only [covers] at hx
  obtain ⟨ha, ht⟩ := (resolveClass_links e.toSetting hl).op (op := VmOp.resolveClass f.method.cls x.catchType) rfl
  have hal : s.vm.Alike (s.vm.noted f.method.cls x.catchType (.cls c)) := (Vm.Alike.refl s.vm).noted _ _ _
  obtain ⟨k1, hk1⟩ := hk
  obtain ⟨k2, hk2⟩ := hcl
  obtain ⟨k1', hk1', -⟩ := hal.2.2 _ _ hk1
  obtain ⟨k2', hk2', -⟩ := hal.2.2 _ _ hk2
  have hfit' : (s.vm.noted f.method.cls x.catchType (.cls c)).assignable cell.cls c = true := by rw [hal.assignable]; exact hfit
  simp [findHandler.go, hx, h0, ha, ht, hcell, hobj, hk1', hk2', hfit', VmOp.dirties, VmOp.acts]
theorem ct_step {e : Env} {s : State} {a : Addr} {f : JFrame} {r : List Frame} {pc : Nat} {vm' : Vm} (hfind : ct_To e s f a (.found pc) vm') :
    (stepThrowing e s a (.java f :: r)).Is ((s.setVm vm').setFrames (.java { f with pc := pc, stack := [.ref a] } :: r)) [] := by
  simp only [stepThrowing, searchFrame, vmDo]
  generalize hr : Sem.go _ e false [] s = res
  obtain ⟨as, rfl, ha⟩ := Sem.eq_ok_of hr (a := Handler.found pc) (s' := s.setVm vm') (acts' := []) (by simp [hfind _ _ _ _])
  exact ⟨rfl, ha⟩
theorem ct_frames (u : State) (vm' : Vm) (F G : List Frame) : ((u.setFrames F).setVm vm').setFrames G = (u.setVm vm').setFrames G := by
  have h1 : (u.setFrames F).setVm vm' = (u.setVm vm').setFrames F := rfl
  rw [h1, State.setFrames_setFrames]
theorem ct_caught {tb : Tables} {e : Env} {s target : State} {g : JFrame} {c : Code} {below : List Frame} {a : Addr} (h : At s g.method c below) {pc : Nat} {vm' : Vm}
    (hfind : ct_To e ((s.setTop g).pushFrame (.throwing a)) g a (.found pc) vm') (hrest : Steps tb e below ((s.setVm vm').setTop { g with pc := pc, stack := [.ref a] }) target) :
    Steps tb e below ((s.setTop g).pushFrame (.throwing a)) target := by
  obtain ⟨hgo, hw⟩ := h.throwing a
  refine Steps.head hgo hw ?_
  rw [stepThread_throwing (frames_entered h.top _), (ct_step (s := (s.setTop g).pushFrame (.throwing a)) hfind).1]
  obtain ⟨g₀, hg⟩ := Option.isSome_iff_exists.mp h.top
  obtain ⟨r, hr⟩ := State.topJava?_eq_some.mp hg
  have hr' : (s.setVm vm').frames = .java g₀ :: r := hr
  rw [State.setTop_of_frames _ hr'] at hrest
  rw [hr, List.tail_cons, State.pushFrame, ct_frames, State.setTop_of_frames _ hr, ct_frames]
  exact hrest
section CT
variable {p : Program} {l : Launch} {e : Env} {R : Room} {s : State} {m : MethodId} {args : Array Value} {below : List Frame} {meth : Method} {c : Code} {H : Heap} {locs : List Loc} {cells slots : Nat} {Q : State → Prop}
variable {pc : Nat} {ls : Array Slot} {rest : List Value}
/-- caught by the first row of this method's table -/
theorem ct_catch {own name : String} {E : String} {ce : Cell} {q : Addr} (hown : s.vm.findClass own = some m.cls) (x : ExceptionTableEntry) (suf : List ExceptionTableEntry) (hsplit : c.exceptionTable.toList = x :: suf)
    (hx : covers x pc = true) (h0 : x.catchType ≠ 0) (hlink : (Cond.classLink own x.catchType name).before args s = true) (hcast : (Cond.castable E name).before args s = true) (hcell : H[q]? = some ce) (hv : ce.vm = .none) (hcl : s.vm.findClass E = some ce.cls)
    (kk : W p l e R s m args below meth c H locs cells slots Q (F0 m x.handlerPc ls [.ref q])) : vx_W p l e R s m args below meth c H locs cells slots Q (F0 m pc ls rest) q := by
  intro T hT X
  have hpl : e.platform.magicAccessors = ({} : Platform).magicAccessors := by rw [X.admits.platform]
  obtain ⟨c3, c4, hc3, hc4, hasg⟩ := Cond.castable_spec hcast
  cases Option.some.inj (hc3.symm.trans hcl)
  obtain ⟨c5, hc5, hcl5⟩ := Cond.classLink_spec hown hlink e.platform hpl
  cases Option.some.inj (hc4.symm.trans hc5)
  obtain ⟨dk, _, _, kt, hd, _, _, _, _, hkt, _, hopen⟩ := hcl5.here
  have hl0 := X.warmed.classLinks hcl5
  have hW' : s.WarmedH (T.vm.noted m.cls x.catchType (.cls c4)) := X.warmed.noted hd hopen (State.rightAt_cls hcl5)
  have hal := X.warmed.alike
  obtain ⟨kt', hkt', -⟩ := hal.2.2 _ _ hkt
  have hfit' : T.vm.assignable ce.cls c4 = true := by rw [hal.assignable]; exact hasg
  have hcT : T.heap[q]? = some ce := by rw [hT]; exact hcell
  have hobj : ce.vm.isStatics = false := by rw [hv]; rfl
  have hf := ct_find (e := e) (s := (T.setTop (F0 m pc ls rest)).pushFrame (.throwing q)) (f := F0 m pc ls rest) (a := q) (meth := meth) (code := c) X.method' X.code x suf hsplit hx h0 (c := c4) (cell := ce) hl0 hcT (VmData.ne_statics_of hobj)
    (Vm.classAt_of_assignable hfit' ⟨kt', hkt'⟩) ⟨kt', hkt'⟩ hfit'
  obtain ⟨t, a1, b1⟩ := kk (T.setVm (T.vm.noted m.cls x.catchType (.cls c4))) hT (X.noted hW')
  exact ⟨t, ct_caught X.here hf a1, b1⟩
end CT
end
section
/-! ===== typed heaps: what every cell that the law's run has made must be, by a table of types; no cell is followed by hand ===== -/
abbrev ty_N : Type := Nat × Nat
abbrev ty_G : Type := Nat → ty_N
abbrev ty_A (sz : Nat) : Nat → Prop := fun q => sz ≤ q
/-- an object of class ci with N fields, field k as F k says -/
def ty_O (ci N : Nat) (F : Nat → Value → Prop) (x : va_E) : Prop := ∃ fs : List Value, x = .inr (ci, fs) ∧ fs.length = N ∧ ∀ k, k < N → F k (vp_V fs k)
/-- an array of ints (or booleans, bytes), as P says -/
def ty_I (cA : ClassId) (n : Nat) (P : (Nat → Int32) → Prop) (x : va_E) : Prop := ∃ f : Nat → Int32, x = .inl (cA, n, .inl f) ∧ P f
def ty_J (cA : ClassId) (n : Nat) (x : va_E) : Prop := ∃ f : Nat → Int64, x = .inl (cA, n, .inr (.inl f))
/-- an array of references -/
def ty_R (cA : ClassId) (n : Nat) (P : (Nat → Option Nat) → Prop) (x : va_E) : Prop := ∃ f : Nat → Option Nat, x = .inl (cA, n, .inr (.inr (.inr (.inr f)))) ∧ P f
/-- the heap holds what the typing says, all of it from sz on -/
def ty_ok (D : va_G) (cl : List vw_C) (Γ : ty_G) (T : ty_N → va_E → Prop) (sz : Nat) (H : Heap) : Prop := sz ≤ H.size ∧ ∀ a, (Γ a).1 ≠ 0 → sz ≤ a ∧ ∃ x, va_at D cl (a, x) H ∧ T (Γ a) x
theorem ty_one {D : va_G} {cl : List vw_C} {q : Nat × va_E} {H : Heap} (h : va_at D cl q H) : va_P D cl [q] H := by
  intro k r hk
  cases k with
  | zero => rw [List.getElem?_cons_zero] at hk; cases hk; exact h
  | succ k => simp at hk
theorem ty_set {D : va_G} {cl : List vw_C} {Γ : ty_G} {T T' : ty_N → va_E → Prop} {sz a : Nat} {x : va_E} {H H1 : Heap} (h : ty_ok D cl Γ T sz H) (hz : H1.size = H.size) (oq : ∀ q, q ≠ a → H1[q]? = H[q]?) (hx : va_at D cl (a, x) H1) (hO : ∀ b y, b ≠ a → (Γ b).1 ≠ 0 → T (Γ b) y → T' (Γ b) y) (hT : T' (Γ a) x) : ty_ok D cl Γ T' sz H1 := by
  refine ⟨by rw [hz]; exact h.1, fun b hb => ?_⟩
  obtain ⟨h1, y, h2, h3⟩ := h.2 b hb
  by_cases e : b = a
  · subst e; exact ⟨h1, x, hx, hT⟩
  · exact ⟨h1, y, h2.kept (oq b e), hO b y e hb h3⟩
theorem ty_lt {D : va_G} {cl : List vw_C} {Γ : ty_G} {T : ty_N → va_E → Prop} {sz a : Nat} {H : Heap} (h : ty_ok D cl Γ T sz H) (ha : (Γ a).1 ≠ 0) : a < H.size := by
  obtain ⟨-, y, h2, -⟩ := h.2 a ha
  exact h2.lt
theorem ty_new0 {D : va_G} {cl : List vw_C} {Γ : ty_G} {T : ty_N → va_E → Prop} {sz : Nat} {H : Heap} (h : ty_ok D cl Γ T sz H) : (Γ H.size).1 = 0 := by
  by_cases e : (Γ H.size).1 = 0
  · exact e
  · exact absurd (ty_lt h e) (Nat.lt_irrefl _)
/-- a heap that has only grown -/
theorem ty_grow {D : va_G} {cl : List vw_C} {Γ : ty_G} {T : ty_N → va_E → Prop} {sz : Nat} {H H1 : Heap} (h : ty_ok D cl Γ T sz H) (hz : H.size ≤ H1.size) (oq : ∀ q, q < H.size → H1[q]? = H[q]?) : ty_ok D cl Γ T sz H1 := by
  refine ⟨Nat.le_trans h.1 hz, fun b hb => ?_⟩
  have hl := ty_lt h hb
  obtain ⟨h1, y, h2, h3⟩ := h.2 b hb
  exact ⟨h1, y, h2.kept (oq b hl), h3⟩
/-- a cell that was not typed comes under the typing -/
theorem ty_adopt {D : va_G} {cl : List vw_C} {Γ : ty_G} {T T' : ty_N → va_E → Prop} {sz a : Nat} {t : ty_N} {x : va_E} {H : Heap} (h : ty_ok D cl Γ T sz H) (ha : sz ≤ a) (hx : va_at D cl (a, x) H) (hO : ∀ b y, b ≠ a → (Γ b).1 ≠ 0 → T (Γ b) y → T' (Γ b) y) (hT : T' t x) : ty_ok D cl (va_up Γ a t) T' sz H := by
  refine ⟨h.1, fun b hb => ?_⟩
  by_cases e : b = a
  · subst e
    rw [va_up_self]
    exact ⟨ha, x, hx, hT⟩
  · rw [va_up_ne _ _ e] at hb ⊢
    obtain ⟨h1, y, h2, h3⟩ := h.2 b hb
    exact ⟨h1, y, h2, hO b y e hb h3⟩
theorem ty_put_S {sz : Nat} {H0 H H1 : Heap} {locs : List Loc} {a k : Nat} (h : va_S (ty_A sz) H0 H locs) (z : H1.size = H.size) (oq : ∀ q : Nat, q ≠ a → H1[q]? = H[q]?) (ha : sz ≤ a) : va_S (ty_A sz) H0 H1 (locs ++ [⟨a, k⟩]) := h.put z oq ha
section TYR
variable {p : Program} {l : Launch} {e : Env} {R : Room} {s : State} {m : MethodId} {args : Array Value} {below : List Frame} {meth : Method} {c : Code} {H : Heap} {locs : List Loc} {cells slots : Nat} {Q : State → Prop}
variable {cc : ByteArray} {pc : Nat} {ls : Array Slot} {rest : List Value} {D : va_G} {cl : List vw_C} {a : Nat} {tys : List (ClassId × FieldType)} {H0 : Heap} {sz : Nat} {Γ : ty_G} {T T' : ty_N → va_E → Prop}
theorem ty_get (hexec : p.tables.exec = Jvm.exec) (hb : c.code = cc) {own ref C : String} {Tb : u_T} {N ci index : Nat} {Ts : List Cond} (hts : ∀ w ∈ Ts, w.before args s = true) (hin : ∀ w ∈ u_ws C Tb N, w ∈ Ts) (hown : s.vm.findClass own = some m.cls) (hK : va_K D cl tys s) (hG : ty_ok D cl Γ T sz H) (h0 : (Γ a).1 ≠ 0) {F : Nat → Value → Prop} (hT : ∀ x, T (Γ a) x → ty_O ci N F x) (hc : cl[ci]? = some (C, Tb, N)) (k : Nat) (hk : k < N) (hlink : (Cond.fieldLink own index ref (Tb k).2.1 (Tb k).2.2.1).before args s = true) (hsame : ∀ x, s.fieldFound? (Tb k).1 (Tb k).2.1 (Tb k).2.2.1 = some x → s.fieldFound? ref (Tb k).2.1 (Tb k).2.2.1 = some x) (hdg : decode cc pc = .ok (.getfield index, 3))
    (kk : ∀ v, F k v → W p l e R s m args below meth c H locs cells slots Q (F0 m (pc + 3) ls (v :: rest))) : W p l e R s m args below meth c H locs cells slots Q (F0 m pc ls (.ref a :: rest)) := by
  obtain ⟨-, x, h2, h3⟩ := hG.2 a h0
  obtain ⟨fs, rfl, hl, hF⟩ := hT x h3
  exact va_get hexec hb hts hin hown hK (ty_one h2) 0 rfl hc k hk hlink hsame (v := vp_V fs k) (by simp [vp_V, hl, hk]) hdg (kk _ (hF k hk))
theorem ty_getN (hexec : p.tables.exec = Jvm.exec) (hb : c.code = cc) {own ref C host : String} {Tb : u_T} {N ci index : Nat} {Ts : List Cond} (hts : ∀ w ∈ Ts, w.before args s = true) (hin : ∀ w ∈ u_ws C Tb N, w ∈ Ts) (hown : s.vm.findClass own = some m.cls) (hK : va_K D cl tys s) (hG : ty_ok D cl Γ T sz H) (h0 : (Γ a).1 ≠ 0) {F : Nat → Value → Prop} (hT : ∀ x, T (Γ a) x → ty_O ci N F x) (hc : cl[ci]? = some (C, Tb, N)) (k : Nat) (hk : k < N) (hlink : (Cond.fieldLinkNest own index ref (Tb k).2.1 (Tb k).2.2.1 host).before args s = true) (hsame : ∀ x, s.fieldFound? (Tb k).1 (Tb k).2.1 (Tb k).2.2.1 = some x → s.fieldFound? ref (Tb k).2.1 (Tb k).2.2.1 = some x) (hdg : decode cc pc = .ok (.getfield index, 3))
    (kk : ∀ v, F k v → W p l e R s m args below meth c H locs cells slots Q (F0 m (pc + 3) ls (v :: rest))) : W p l e R s m args below meth c H locs cells slots Q (F0 m pc ls (.ref a :: rest)) := by
  obtain ⟨-, x, h2, h3⟩ := hG.2 a h0
  obtain ⟨fs, rfl, hl, hF⟩ := hT x h3
  exact va_getN hexec hb hts hin hown hK (ty_one h2) 0 rfl hc k hk hlink hsame (v := vp_V fs k) (by simp [vp_V, hl, hk]) hdg (kk _ (hF k hk))
/-- what a store into field k leaves of an object -/
theorem ty_Oset {ci N k : Nat} {F F' : Nat → Value → Prop} {fs : List Value} {v : Value} (hl : fs.length = N) (hk : k < N) (hF : ∀ j, j < N → F j (vp_V fs j)) (hK : ∀ j, j < N → j ≠ k → ∀ v, F j v → F' j v) (hv : F' k v) : ty_O ci N F' (.inr (ci, fs.set k v)) := by
  refine ⟨_, rfl, by simp [hl], fun j hj => ?_⟩
  by_cases e : j = k
  · subst e
    simp only [vp_V, List.getD_eq_getElem?_getD]
    rw [List.getElem?_set_self (by omega)]
    exact hv
  · simp only [vp_V, List.getD_eq_getElem?_getD]
    rw [List.getElem?_set_ne (Ne.symm e)]
    have := hF j hj
    simp only [vp_V, List.getD_eq_getElem?_getD] at this
    exact hK j hj e _ this
theorem ty_putG (hexec : p.tables.exec = Jvm.exec) (hb : c.code = cc) {own ref C : String} {Tb : u_T} {N ci index : Nat} {Ts : List Cond} (hts : ∀ w ∈ Ts, w.before args s = true) (hin : ∀ w ∈ u_ws C Tb N, w ∈ Ts) (ty0 : Nat → FieldType) (hty : ∀ k, k < N → parseFieldDescriptor (Tb k).2.2.1 = some (ty0 k)) (hnm : ∀ a, a < N → ∀ b, b < N → a ≠ b → (Tb a).2.1 ≠ (Tb b).2.1) (hown : s.vm.findClass own = some m.cls) (hK : va_K D cl tys s) (hG : ty_ok D cl Γ T sz H) (hS0 : va_S (ty_A sz) H0 H locs) (h0 : (Γ a).1 ≠ 0) {F F' : Nat → Value → Prop} (hT : ∀ x, T (Γ a) x → ty_O ci N F x) (hT' : ∀ x, ty_O ci N F' x → T' (Γ a) x) (hc : cl[ci]? = some (C, Tb, N)) (k : Nat) (hk : k < N) (hlink : (Cond.fieldLink own index ref (Tb k).2.1 (Tb k).2.2.1).before args s = true) (hsame : ∀ x, s.fieldFound? (Tb k).1 (Tb k).2.1 (Tb k).2.2.1 = some x → s.fieldFound? ref (Tb k).2.1 (Tb k).2.2.1 = some x) (hfin : (Tb k).2.2.2 = false) {ty : FieldType} {v : Value} (hd : parseFieldDescriptor (Tb k).2.2.1 = some ty) (hn : narrow ty v = v) (hfit : fits ty v = true)
    (hFF : ∀ j, j < N → j ≠ k → ∀ v, F j v → F' j v) (hv : F' k v) (hO : ∀ b y, b ≠ a → (Γ b).1 ≠ 0 → T (Γ b) y → T' (Γ b) y)
    (hdg : decode cc pc = .ok (.putfield index, 3)) (kk : ∀ (H1 : Heap) (locs1 : List Loc), ty_ok D cl Γ T' sz H1 → va_S (ty_A sz) H0 H1 locs1 → W p l e R s m args below meth c H1 locs1 cells slots Q (F0 m (pc + 3) ls rest)) : W p l e R s m args below meth c H locs cells slots Q (F0 m pc ls (v :: .ref a :: rest)) := by
  obtain ⟨hsa, x, h2, h3⟩ := hG.2 a h0
  obtain ⟨fs, rfl, hl, hF⟩ := hT x h3
  have hap := va_apart (own := own) hts hin ty0 hty hnm hK hc
  obtain ⟨r, h1, cell, q1, q2, q3, q4⟩ := h2
  have hr : r = (C, Tb, N) := Option.some.inj (h1.symm.trans hc)
  subst hr
  obtain ⟨hS, hfc, kC, hkC, hkind⟩ := hK.1 ci _ hc
  obtain ⟨cf, kf, fi, f, hi, hsl⟩ := hS k hk
  have hlay := hts _ (hin _ (u_in_lay hk))
  unfold u_lay at hlay
  rw [if_neg (by rw [hfin]; decide)] at hlay
  have hst := (u_facts hfc hkC (u_lays hts hin hk) hi).1
  have h6 := u_store hfc hkC hkind hlay hi hd hn hfit
  refine W.putK hexec hb (f := f) ⟨hown, hlink, ⟨_, _, _, hsame _ hi⟩, hst⟩ (by rw [q2]; exact h6) q1 q3 (by rw [hsl]; exact k2_hasslot (q4 k hk)) rfl rfl hdg fun H' e1 e2 e3 => ?_
  rw [hsl] at e1 ⊢
  refine kk H' _ (ty_set hG e2 e3 (x := .inr (ci, fs.set k v)) ⟨_, hc, t_OB.to (V := updV (vp_V fs) k v) ⟨_, e1, q2, q3, t_set q4 hap hk v⟩ (fun j _ => vp_updV_set (by omega) v j)⟩ hO ?_) (ty_put_S hS0 e2 e3 hsa)
  exact hT' _ (ty_Oset hl hk hF hFF hv)
theorem ty_putGN (hexec : p.tables.exec = Jvm.exec) (hb : c.code = cc) {own ref C host : String} {Tb : u_T} {N ci index : Nat} {Ts : List Cond} (hts : ∀ w ∈ Ts, w.before args s = true) (hin : ∀ w ∈ u_ws C Tb N, w ∈ Ts) (ty0 : Nat → FieldType) (hty : ∀ k, k < N → parseFieldDescriptor (Tb k).2.2.1 = some (ty0 k)) (hnm : ∀ a, a < N → ∀ b, b < N → a ≠ b → (Tb a).2.1 ≠ (Tb b).2.1) (hown : s.vm.findClass own = some m.cls) (hK : va_K D cl tys s) (hG : ty_ok D cl Γ T sz H) (hS0 : va_S (ty_A sz) H0 H locs) (h0 : (Γ a).1 ≠ 0) {F F' : Nat → Value → Prop} (hT : ∀ x, T (Γ a) x → ty_O ci N F x) (hT' : ∀ x, ty_O ci N F' x → T' (Γ a) x) (hc : cl[ci]? = some (C, Tb, N)) (k : Nat) (hk : k < N) (hlink : (Cond.fieldLinkNest own index ref (Tb k).2.1 (Tb k).2.2.1 host).before args s = true) (hsame : ∀ x, s.fieldFound? (Tb k).1 (Tb k).2.1 (Tb k).2.2.1 = some x → s.fieldFound? ref (Tb k).2.1 (Tb k).2.2.1 = some x) (hfin : (Tb k).2.2.2 = false) {ty : FieldType} {v : Value} (hd : parseFieldDescriptor (Tb k).2.2.1 = some ty) (hn : narrow ty v = v) (hfit : fits ty v = true)
    (hFF : ∀ j, j < N → j ≠ k → ∀ v, F j v → F' j v) (hv : F' k v) (hO : ∀ b y, b ≠ a → (Γ b).1 ≠ 0 → T (Γ b) y → T' (Γ b) y)
    (hdg : decode cc pc = .ok (.putfield index, 3)) (kk : ∀ (H1 : Heap) (locs1 : List Loc), ty_ok D cl Γ T' sz H1 → va_S (ty_A sz) H0 H1 locs1 → W p l e R s m args below meth c H1 locs1 cells slots Q (F0 m (pc + 3) ls rest)) : W p l e R s m args below meth c H locs cells slots Q (F0 m pc ls (v :: .ref a :: rest)) := by
  obtain ⟨hsa, x, h2, h3⟩ := hG.2 a h0
  obtain ⟨fs, rfl, hl, hF⟩ := hT x h3
  have hap := va_apart (own := own) hts hin ty0 hty hnm hK hc
  obtain ⟨r, h1, cell, q1, q2, q3, q4⟩ := h2
  have hr : r = (C, Tb, N) := Option.some.inj (h1.symm.trans hc)
  subst hr
  obtain ⟨hS, hfc, kC, hkC, hkind⟩ := hK.1 ci _ hc
  obtain ⟨cf, kf, fi, f, hi, hsl⟩ := hS k hk
  have hlay := hts _ (hin _ (u_in_lay hk))
  unfold u_lay at hlay
  rw [if_neg (by rw [hfin]; decide)] at hlay
  have hst := (u_facts hfc hkC (u_lays hts hin hk) hi).1
  have h6 := u_store hfc hkC hkind hlay hi hd hn hfit
  refine va_WputK hexec hb (f := f) hown hlink (hsame _ hi) hst (by rw [q2]; exact h6) q1 q3 (by rw [hsl]; exact k2_hasslot (q4 k hk)) rfl rfl hdg fun H' e1 e2 e3 => ?_
  rw [hsl] at e1 ⊢
  refine kk H' _ (ty_set hG e2 e3 (x := .inr (ci, fs.set k v)) ⟨_, hc, t_OB.to (V := updV (vp_V fs) k v) ⟨_, e1, q2, q3, t_set q4 hap hk v⟩ (fun j _ => vp_updV_set (by omega) v j)⟩ hO ?_) (ty_put_S hS0 e2 e3 hsa)
  exact hT' _ (ty_Oset hl hk hF hFF hv)
end TYR
end
