section
-- ===== PART A: goes FIRST, ahead of the names: the tables' words, and 'selects' of the private methods out of them =====
/-- a private method of a class that the tables say can be made, by its rows of tables_1 -/
def lw_okq (q : MethodName × Nat) : Prop := (q.1.cls ≠ "java/lang/invoke/MethodHandle" ∧ q.1.cls ≠ "java/lang/invoke/VarHandle") ∧ Cond.instantiable q.1.cls q.2 ∈ tables_1 ∧ Cond.privateMethod q.1 ∈ tables_1 ∧ Cond.instanceMethod q.1 ∈ tables_1
theorem lw_p0 : lw_okq (⟨"TicketHall$Hall", "leastPass", "()I"⟩, 18) := ⟨⟨by decide +kernel, by decide +kernel⟩, List.mem_of_getElem? (i := 21) (by decide +kernel), List.mem_of_getElem? (i := 319) (by decide +kernel), List.mem_of_getElem? (i := 320) (by decide +kernel)⟩
theorem lw_p1 : lw_okq (⟨"TicketHall$Hall", "burstParts", "()I"⟩, 18) := ⟨⟨by decide +kernel, by decide +kernel⟩, List.mem_of_getElem? (i := 21) (by decide +kernel), List.mem_of_getElem? (i := 383) (by decide +kernel), List.mem_of_getElem? (i := 384) (by decide +kernel)⟩
theorem lw_p2 : lw_okq (⟨"TicketHall", "weighedOf", "(II)I"⟩, 10) := ⟨⟨by decide +kernel, by decide +kernel⟩, List.mem_of_getElem? (i := 13) (by decide +kernel), List.mem_of_getElem? (i := 387) (by decide +kernel), List.mem_of_getElem? (i := 388) (by decide +kernel)⟩
theorem lw_p3 : lw_okq (⟨"TicketHall$Worths", "firstFree", "(I)I"⟩, 9) := ⟨⟨by decide +kernel, by decide +kernel⟩, List.mem_of_getElem? (i := 140) (by decide +kernel), List.mem_of_getElem? (i := 399) (by decide +kernel), List.mem_of_getElem? (i := 400) (by decide +kernel)⟩
theorem lw_p4 : lw_okq (⟨"TicketHall$Worths", "value", "(I)V"⟩, 9) := ⟨⟨by decide +kernel, by decide +kernel⟩, List.mem_of_getElem? (i := 140) (by decide +kernel), List.mem_of_getElem? (i := 415) (by decide +kernel), List.mem_of_getElem? (i := 416) (by decide +kernel)⟩
theorem lw_p5 : lw_okq (⟨"TicketHall$Worths", "lend", "()V"⟩, 9) := ⟨⟨by decide +kernel, by decide +kernel⟩, List.mem_of_getElem? (i := 140) (by decide +kernel), List.mem_of_getElem? (i := 424) (by decide +kernel), List.mem_of_getElem? (i := 425) (by decide +kernel)⟩
theorem lw_p6 : lw_okq (⟨"TicketHall$Dealer", "weigh", "()V"⟩, 5) := ⟨⟨by decide +kernel, by decide +kernel⟩, List.mem_of_getElem? (i := 134) (by decide +kernel), List.mem_of_getElem? (i := 428) (by decide +kernel), List.mem_of_getElem? (i := 429) (by decide +kernel)⟩
theorem lw_p7 : lw_okq (⟨"TicketHall$Dealer", "mayServe", "(I)Z"⟩, 5) := ⟨⟨by decide +kernel, by decide +kernel⟩, List.mem_of_getElem? (i := 134) (by decide +kernel), List.mem_of_getElem? (i := 434) (by decide +kernel), List.mem_of_getElem? (i := 435) (by decide +kernel)⟩
theorem lw_p8 : lw_okq (⟨"TicketHall", "faultOfText", "()I"⟩, 10) := ⟨⟨by decide +kernel, by decide +kernel⟩, List.mem_of_getElem? (i := 13) (by decide +kernel), List.mem_of_getElem? (i := 487) (by decide +kernel), List.mem_of_getElem? (i := 488) (by decide +kernel)⟩
theorem lw_p9 : lw_okq (⟨"TicketHall$FundReader", "takesWho", "(I)Z"⟩, 7) := ⟨⟨by decide +kernel, by decide +kernel⟩, List.mem_of_getElem? (i := 202) (by decide +kernel), List.mem_of_getElem? (i := 499) (by decide +kernel), List.mem_of_getElem? (i := 500) (by decide +kernel)⟩
theorem lw_p10 : lw_okq (⟨"TicketHall$FundReader", "goesOn", "(ZI)Z"⟩, 7) := ⟨⟨by decide +kernel, by decide +kernel⟩, List.mem_of_getElem? (i := 202) (by decide +kernel), List.mem_of_getElem? (i := 503) (by decide +kernel), List.mem_of_getElem? (i := 504) (by decide +kernel)⟩
theorem lw_p11 : lw_okq (⟨"TicketHall$FundReader", "takesWhoDigit", "(I)Z"⟩, 7) := ⟨⟨by decide +kernel, by decide +kernel⟩, List.mem_of_getElem? (i := 202) (by decide +kernel), List.mem_of_getElem? (i := 507) (by decide +kernel), List.mem_of_getElem? (i := 508) (by decide +kernel)⟩
theorem lw_p12 : lw_okq (⟨"TicketHall$FundReader", "takesFirstDigit", "(I)Z"⟩, 7) := ⟨⟨by decide +kernel, by decide +kernel⟩, List.mem_of_getElem? (i := 202) (by decide +kernel), List.mem_of_getElem? (i := 512) (by decide +kernel), List.mem_of_getElem? (i := 513) (by decide +kernel)⟩
theorem lw_p13 : lw_okq (⟨"TicketHall$FundReader", "takesDigitOrSign", "(I)Z"⟩, 7) := ⟨⟨by decide +kernel, by decide +kernel⟩, List.mem_of_getElem? (i := 202) (by decide +kernel), List.mem_of_getElem? (i := 516) (by decide +kernel), List.mem_of_getElem? (i := 517) (by decide +kernel)⟩
theorem lw_p14 : lw_okq (⟨"TicketHall$FundReader", "takesCurrency", "(I)Z"⟩, 7) := ⟨⟨by decide +kernel, by decide +kernel⟩, List.mem_of_getElem? (i := 202) (by decide +kernel), List.mem_of_getElem? (i := 520) (by decide +kernel), List.mem_of_getElem? (i := 521) (by decide +kernel)⟩
theorem lw_p15 : lw_okq (⟨"TicketHall$FundReader", "takesBehind", "(I)Z"⟩, 7) := ⟨⟨by decide +kernel, by decide +kernel⟩, List.mem_of_getElem? (i := 202) (by decide +kernel), List.mem_of_getElem? (i := 524) (by decide +kernel), List.mem_of_getElem? (i := 525) (by decide +kernel)⟩
def lw_privs_1 : List (MethodName × Nat) := [(⟨"TicketHall$Hall", "leastPass", "()I"⟩, 18), (⟨"TicketHall$Hall", "burstParts", "()I"⟩, 18), (⟨"TicketHall", "weighedOf", "(II)I"⟩, 10), (⟨"TicketHall$Worths", "firstFree", "(I)I"⟩, 9), (⟨"TicketHall$Worths", "value", "(I)V"⟩, 9), (⟨"TicketHall$Worths", "lend", "()V"⟩, 9), (⟨"TicketHall$Dealer", "weigh", "()V"⟩, 5), (⟨"TicketHall$Dealer", "mayServe", "(I)Z"⟩, 5), (⟨"TicketHall", "faultOfText", "()I"⟩, 10), (⟨"TicketHall$FundReader", "takesWho", "(I)Z"⟩, 7), (⟨"TicketHall$FundReader", "goesOn", "(ZI)Z"⟩, 7), (⟨"TicketHall$FundReader", "takesWhoDigit", "(I)Z"⟩, 7), (⟨"TicketHall$FundReader", "takesFirstDigit", "(I)Z"⟩, 7), (⟨"TicketHall$FundReader", "takesDigitOrSign", "(I)Z"⟩, 7), (⟨"TicketHall$FundReader", "takesCurrency", "(I)Z"⟩, 7), (⟨"TicketHall$FundReader", "takesBehind", "(I)Z"⟩, 7)]
theorem lw_r1 : ∀ q ∈ lw_privs_1, lw_okq q := List.forall_mem_cons.mpr ⟨lw_p0, List.forall_mem_cons.mpr ⟨lw_p1, List.forall_mem_cons.mpr ⟨lw_p2, List.forall_mem_cons.mpr ⟨lw_p3, List.forall_mem_cons.mpr ⟨lw_p4, List.forall_mem_cons.mpr ⟨lw_p5, List.forall_mem_cons.mpr ⟨lw_p6, List.forall_mem_cons.mpr ⟨lw_p7, List.forall_mem_cons.mpr ⟨lw_p8, List.forall_mem_cons.mpr ⟨lw_p9, List.forall_mem_cons.mpr ⟨lw_p10, List.forall_mem_cons.mpr ⟨lw_p11, List.forall_mem_cons.mpr ⟨lw_p12, List.forall_mem_cons.mpr ⟨lw_p13, List.forall_mem_cons.mpr ⟨lw_p14, List.forall_mem_cons.mpr ⟨lw_p15, fun _ h => absurd h List.not_mem_nil⟩⟩⟩⟩⟩⟩⟩⟩⟩⟩⟩⟩⟩⟩⟩⟩
theorem lw_p16 : lw_okq (⟨"TicketHall", "takeFunds", "()I"⟩, 10) := ⟨⟨by decide +kernel, by decide +kernel⟩, List.mem_of_getElem? (i := 13) (by decide +kernel), List.mem_of_getElem? (i := 532) (by decide +kernel), List.mem_of_getElem? (i := 533) (by decide +kernel)⟩
theorem lw_p17 : lw_okq (⟨"TicketHall", "takeFund", "()Z"⟩, 10) := ⟨⟨by decide +kernel, by decide +kernel⟩, List.mem_of_getElem? (i := 13) (by decide +kernel), List.mem_of_getElem? (i := 536) (by decide +kernel), List.mem_of_getElem? (i := 537) (by decide +kernel)⟩
theorem lw_p18 : lw_okq (⟨"TicketHall$Dealer", "quantumDrawn", "(I)I"⟩, 5) := ⟨⟨by decide +kernel, by decide +kernel⟩, List.mem_of_getElem? (i := 134) (by decide +kernel), List.mem_of_getElem? (i := 556) (by decide +kernel), List.mem_of_getElem? (i := 557) (by decide +kernel)⟩
theorem lw_p19 : lw_okq (⟨"TicketHall$Dealer", "drawnWith", "(I)I"⟩, 5) := ⟨⟨by decide +kernel, by decide +kernel⟩, List.mem_of_getElem? (i := 134) (by decide +kernel), List.mem_of_getElem? (i := 560) (by decide +kernel), List.mem_of_getElem? (i := 561) (by decide +kernel)⟩
theorem lw_p20 : lw_okq (⟨"TicketHall$Dealer", "deal", "(I)V"⟩, 5) := ⟨⟨by decide +kernel, by decide +kernel⟩, List.mem_of_getElem? (i := 134) (by decide +kernel), List.mem_of_getElem? (i := 565) (by decide +kernel), List.mem_of_getElem? (i := 566) (by decide +kernel)⟩
theorem lw_p21 : lw_okq (⟨"TicketHall", "beginTrial", "()V"⟩, 10) := ⟨⟨by decide +kernel, by decide +kernel⟩, List.mem_of_getElem? (i := 13) (by decide +kernel), List.mem_of_getElem? (i := 605) (by decide +kernel), List.mem_of_getElem? (i := 606) (by decide +kernel)⟩
theorem lw_p22 : lw_okq (⟨"TicketHall", "lossOf", "(I)I"⟩, 10) := ⟨⟨by decide +kernel, by decide +kernel⟩, List.mem_of_getElem? (i := 13) (by decide +kernel), List.mem_of_getElem? (i := 643) (by decide +kernel), List.mem_of_getElem? (i := 644) (by decide +kernel)⟩
theorem lw_p23 : lw_okq (⟨"TicketHall", "raiseOf", "(II)I"⟩, 10) := ⟨⟨by decide +kernel, by decide +kernel⟩, List.mem_of_getElem? (i := 13) (by decide +kernel), List.mem_of_getElem? (i := 647) (by decide +kernel), List.mem_of_getElem? (i := 648) (by decide +kernel)⟩
theorem lw_p24 : lw_okq (⟨"TicketHall", "goOnePlanned", "(II)V"⟩, 10) := ⟨⟨by decide +kernel, by decide +kernel⟩, List.mem_of_getElem? (i := 13) (by decide +kernel), List.mem_of_getElem? (i := 705) (by decide +kernel), List.mem_of_getElem? (i := 706) (by decide +kernel)⟩
theorem lw_p25 : lw_okq (⟨"TicketHallModel", "carryAll", "([IZ)V"⟩, 51) := ⟨⟨by decide +kernel, by decide +kernel⟩, List.mem_of_getElem? (i := 769) (by decide +kernel), List.mem_of_getElem? (i := 934) (by decide +kernel), List.mem_of_getElem? (i := 935) (by decide +kernel)⟩
theorem lw_p26 : lw_okq (⟨"TicketHallModel", "carry", "(I)I"⟩, 51) := ⟨⟨by decide +kernel, by decide +kernel⟩, List.mem_of_getElem? (i := 769) (by decide +kernel), List.mem_of_getElem? (i := 938) (by decide +kernel), List.mem_of_getElem? (i := 939) (by decide +kernel)⟩
theorem lw_p27 : lw_okq (⟨"TicketHallModel", "isCurrency", "(I)Z"⟩, 51) := ⟨⟨by decide +kernel, by decide +kernel⟩, List.mem_of_getElem? (i := 769) (by decide +kernel), List.mem_of_getElem? (i := 954) (by decide +kernel), List.mem_of_getElem? (i := 955) (by decide +kernel)⟩
theorem lw_p28 : lw_okq (⟨"TicketHallModel", "isTicket", "(I)Z"⟩, 51) := ⟨⟨by decide +kernel, by decide +kernel⟩, List.mem_of_getElem? (i := 769) (by decide +kernel), List.mem_of_getElem? (i := 972) (by decide +kernel), List.mem_of_getElem? (i := 973) (by decide +kernel)⟩
theorem lw_p29 : lw_okq (⟨"TicketHallModel", "isClient", "(I)Z"⟩, 51) := ⟨⟨by decide +kernel, by decide +kernel⟩, List.mem_of_getElem? (i := 769) (by decide +kernel), List.mem_of_getElem? (i := 980) (by decide +kernel), List.mem_of_getElem? (i := 981) (by decide +kernel)⟩
theorem lw_p30 : lw_okq (⟨"TicketHallModel", "canBack", "(II)Z"⟩, 51) := ⟨⟨by decide +kernel, by decide +kernel⟩, List.mem_of_getElem? (i := 769) (by decide +kernel), List.mem_of_getElem? (i := 988) (by decide +kernel), List.mem_of_getElem? (i := 989) (by decide +kernel)⟩
theorem lw_p31 : lw_okq (⟨"TicketHallModel", "layHangs", "(I)V"⟩, 51) := ⟨⟨by decide +kernel, by decide +kernel⟩, List.mem_of_getElem? (i := 769) (by decide +kernel), List.mem_of_getElem? (i := 992) (by decide +kernel), List.mem_of_getElem? (i := 993) (by decide +kernel)⟩
def lw_privs_2 : List (MethodName × Nat) := [(⟨"TicketHall", "takeFunds", "()I"⟩, 10), (⟨"TicketHall", "takeFund", "()Z"⟩, 10), (⟨"TicketHall$Dealer", "quantumDrawn", "(I)I"⟩, 5), (⟨"TicketHall$Dealer", "drawnWith", "(I)I"⟩, 5), (⟨"TicketHall$Dealer", "deal", "(I)V"⟩, 5), (⟨"TicketHall", "beginTrial", "()V"⟩, 10), (⟨"TicketHall", "lossOf", "(I)I"⟩, 10), (⟨"TicketHall", "raiseOf", "(II)I"⟩, 10), (⟨"TicketHall", "goOnePlanned", "(II)V"⟩, 10), (⟨"TicketHallModel", "carryAll", "([IZ)V"⟩, 51), (⟨"TicketHallModel", "carry", "(I)I"⟩, 51), (⟨"TicketHallModel", "isCurrency", "(I)Z"⟩, 51), (⟨"TicketHallModel", "isTicket", "(I)Z"⟩, 51), (⟨"TicketHallModel", "isClient", "(I)Z"⟩, 51), (⟨"TicketHallModel", "canBack", "(II)Z"⟩, 51), (⟨"TicketHallModel", "layHangs", "(I)V"⟩, 51)]
theorem lw_r2 : ∀ q ∈ lw_privs_2, lw_okq q := List.forall_mem_cons.mpr ⟨lw_p16, List.forall_mem_cons.mpr ⟨lw_p17, List.forall_mem_cons.mpr ⟨lw_p18, List.forall_mem_cons.mpr ⟨lw_p19, List.forall_mem_cons.mpr ⟨lw_p20, List.forall_mem_cons.mpr ⟨lw_p21, List.forall_mem_cons.mpr ⟨lw_p22, List.forall_mem_cons.mpr ⟨lw_p23, List.forall_mem_cons.mpr ⟨lw_p24, List.forall_mem_cons.mpr ⟨lw_p25, List.forall_mem_cons.mpr ⟨lw_p26, List.forall_mem_cons.mpr ⟨lw_p27, List.forall_mem_cons.mpr ⟨lw_p28, List.forall_mem_cons.mpr ⟨lw_p29, List.forall_mem_cons.mpr ⟨lw_p30, List.forall_mem_cons.mpr ⟨lw_p31, fun _ h => absurd h List.not_mem_nil⟩⟩⟩⟩⟩⟩⟩⟩⟩⟩⟩⟩⟩⟩⟩⟩
theorem lw_p32 : lw_okq (⟨"TicketHallModel", "layShares", "()V"⟩, 51) := ⟨⟨by decide +kernel, by decide +kernel⟩, List.mem_of_getElem? (i := 769) (by decide +kernel), List.mem_of_getElem? (i := 1013) (by decide +kernel), List.mem_of_getElem? (i := 1014) (by decide +kernel)⟩
theorem lw_p33 : lw_okq (⟨"TicketHallModel", "layValues", "()V"⟩, 51) := ⟨⟨by decide +kernel, by decide +kernel⟩, List.mem_of_getElem? (i := 769) (by decide +kernel), List.mem_of_getElem? (i := 1017) (by decide +kernel), List.mem_of_getElem? (i := 1018) (by decide +kernel)⟩
theorem lw_p34 : lw_okq (⟨"TicketHallModel", "layIssued", "()V"⟩, 51) := ⟨⟨by decide +kernel, by decide +kernel⟩, List.mem_of_getElem? (i := 769) (by decide +kernel), List.mem_of_getElem? (i := 1021) (by decide +kernel), List.mem_of_getElem? (i := 1022) (by decide +kernel)⟩
theorem lw_p35 : lw_okq (⟨"TicketHallModel", "worthOf", "(I)J"⟩, 51) := ⟨⟨by decide +kernel, by decide +kernel⟩, List.mem_of_getElem? (i := 769) (by decide +kernel), List.mem_of_getElem? (i := 1025) (by decide +kernel), List.mem_of_getElem? (i := 1026) (by decide +kernel)⟩
theorem lw_p36 : lw_okq (⟨"TicketHallModel", "isReady", "(I)Z"⟩, 51) := ⟨⟨by decide +kernel, by decide +kernel⟩, List.mem_of_getElem? (i := 769) (by decide +kernel), List.mem_of_getElem? (i := 1030) (by decide +kernel), List.mem_of_getElem? (i := 1031) (by decide +kernel)⟩
theorem lw_p37 : lw_okq (⟨"TicketHallModel", "isWaitedFor", "(I)Z"⟩, 51) := ⟨⟨by decide +kernel, by decide +kernel⟩, List.mem_of_getElem? (i := 769) (by decide +kernel), List.mem_of_getElem? (i := 1034) (by decide +kernel), List.mem_of_getElem? (i := 1035) (by decide +kernel)⟩
theorem lw_p38 : lw_okq (⟨"TicketHallModel", "weightOf", "(I)J"⟩, 51) := ⟨⟨by decide +kernel, by decide +kernel⟩, List.mem_of_getElem? (i := 769) (by decide +kernel), List.mem_of_getElem? (i := 1038) (by decide +kernel), List.mem_of_getElem? (i := 1039) (by decide +kernel)⟩
theorem lw_p39 : lw_okq (⟨"TicketHallModel", "partsOf", "(I)I"⟩, 51) := ⟨⟨by decide +kernel, by decide +kernel⟩, List.mem_of_getElem? (i := 769) (by decide +kernel), List.mem_of_getElem? (i := 1043) (by decide +kernel), List.mem_of_getElem? (i := 1044) (by decide +kernel)⟩
theorem lw_p40 : lw_okq (⟨"TicketHallModel", "strideOf", "(I)I"⟩, 51) := ⟨⟨by decide +kernel, by decide +kernel⟩, List.mem_of_getElem? (i := 769) (by decide +kernel), List.mem_of_getElem? (i := 1050) (by decide +kernel), List.mem_of_getElem? (i := 1051) (by decide +kernel)⟩
theorem lw_p41 : lw_okq (⟨"TicketHallModel", "total", "()J"⟩, 51) := ⟨⟨by decide +kernel, by decide +kernel⟩, List.mem_of_getElem? (i := 769) (by decide +kernel), List.mem_of_getElem? (i := 1065) (by decide +kernel), List.mem_of_getElem? (i := 1066) (by decide +kernel)⟩
theorem lw_p42 : lw_okq (⟨"TicketHallModel", "readFunds", "()Z"⟩, 51) := ⟨⟨by decide +kernel, by decide +kernel⟩, List.mem_of_getElem? (i := 769) (by decide +kernel), List.mem_of_getElem? (i := 1086) (by decide +kernel), List.mem_of_getElem? (i := 1087) (by decide +kernel)⟩
theorem lw_p43 : lw_okq (⟨"TicketHallModel", "readClause", "()V"⟩, 51) := ⟨⟨by decide +kernel, by decide +kernel⟩, List.mem_of_getElem? (i := 769) (by decide +kernel), List.mem_of_getElem? (i := 1090) (by decide +kernel), List.mem_of_getElem? (i := 1091) (by decide +kernel)⟩
theorem lw_p44 : lw_okq (⟨"TicketHallModel", "here", "()I"⟩, 51) := ⟨⟨by decide +kernel, by decide +kernel⟩, List.mem_of_getElem? (i := 769) (by decide +kernel), List.mem_of_getElem? (i := 1094) (by decide +kernel), List.mem_of_getElem? (i := 1095) (by decide +kernel)⟩
theorem lw_p45 : lw_okq (⟨"TicketHallModel", "mustBe", "(Z)V"⟩, 51) := ⟨⟨by decide +kernel, by decide +kernel⟩, List.mem_of_getElem? (i := 769) (by decide +kernel), List.mem_of_getElem? (i := 1098) (by decide +kernel), List.mem_of_getElem? (i := 1099) (by decide +kernel)⟩
theorem lw_p46 : lw_okq (⟨"TicketHallModel", "digitRead", "()I"⟩, 51) := ⟨⟨by decide +kernel, by decide +kernel⟩, List.mem_of_getElem? (i := 769) (by decide +kernel), List.mem_of_getElem? (i := 1102) (by decide +kernel), List.mem_of_getElem? (i := 1103) (by decide +kernel)⟩
theorem lw_p47 : lw_okq (⟨"TicketHallModel", "readFund", "(I)V"⟩, 51) := ⟨⟨by decide +kernel, by decide +kernel⟩, List.mem_of_getElem? (i := 769) (by decide +kernel), List.mem_of_getElem? (i := 1108) (by decide +kernel), List.mem_of_getElem? (i := 1109) (by decide +kernel)⟩
def lw_privs_3 : List (MethodName × Nat) := [(⟨"TicketHallModel", "layShares", "()V"⟩, 51), (⟨"TicketHallModel", "layValues", "()V"⟩, 51), (⟨"TicketHallModel", "layIssued", "()V"⟩, 51), (⟨"TicketHallModel", "worthOf", "(I)J"⟩, 51), (⟨"TicketHallModel", "isReady", "(I)Z"⟩, 51), (⟨"TicketHallModel", "isWaitedFor", "(I)Z"⟩, 51), (⟨"TicketHallModel", "weightOf", "(I)J"⟩, 51), (⟨"TicketHallModel", "partsOf", "(I)I"⟩, 51), (⟨"TicketHallModel", "strideOf", "(I)I"⟩, 51), (⟨"TicketHallModel", "total", "()J"⟩, 51), (⟨"TicketHallModel", "readFunds", "()Z"⟩, 51), (⟨"TicketHallModel", "readClause", "()V"⟩, 51), (⟨"TicketHallModel", "here", "()I"⟩, 51), (⟨"TicketHallModel", "mustBe", "(Z)V"⟩, 51), (⟨"TicketHallModel", "digitRead", "()I"⟩, 51), (⟨"TicketHallModel", "readFund", "(I)V"⟩, 51)]
theorem lw_r3 : ∀ q ∈ lw_privs_3, lw_okq q := List.forall_mem_cons.mpr ⟨lw_p32, List.forall_mem_cons.mpr ⟨lw_p33, List.forall_mem_cons.mpr ⟨lw_p34, List.forall_mem_cons.mpr ⟨lw_p35, List.forall_mem_cons.mpr ⟨lw_p36, List.forall_mem_cons.mpr ⟨lw_p37, List.forall_mem_cons.mpr ⟨lw_p38, List.forall_mem_cons.mpr ⟨lw_p39, List.forall_mem_cons.mpr ⟨lw_p40, List.forall_mem_cons.mpr ⟨lw_p41, List.forall_mem_cons.mpr ⟨lw_p42, List.forall_mem_cons.mpr ⟨lw_p43, List.forall_mem_cons.mpr ⟨lw_p44, List.forall_mem_cons.mpr ⟨lw_p45, List.forall_mem_cons.mpr ⟨lw_p46, List.forall_mem_cons.mpr ⟨lw_p47, fun _ h => absurd h List.not_mem_nil⟩⟩⟩⟩⟩⟩⟩⟩⟩⟩⟩⟩⟩⟩⟩⟩
theorem lw_p48 : lw_okq (⟨"TicketHallModel", "fundComes", "(I)Z"⟩, 51) := ⟨⟨by decide +kernel, by decide +kernel⟩, List.mem_of_getElem? (i := 769) (by decide +kernel), List.mem_of_getElem? (i := 1112) (by decide +kernel), List.mem_of_getElem? (i := 1113) (by decide +kernel)⟩
theorem lw_p49 : lw_okq (⟨"TicketHallModel", "wrongQuanta", "(I)I"⟩, 51) := ⟨⟨by decide +kernel, by decide +kernel⟩, List.mem_of_getElem? (i := 769) (by decide +kernel), List.mem_of_getElem? (i := 1120) (by decide +kernel), List.mem_of_getElem? (i := 1121) (by decide +kernel)⟩
theorem lw_p50 : lw_okq (⟨"TicketHallModel", "goDrawn", "(II)I"⟩, 51) := ⟨⟨by decide +kernel, by decide +kernel⟩, List.mem_of_getElem? (i := 769) (by decide +kernel), List.mem_of_getElem? (i := 1126) (by decide +kernel), List.mem_of_getElem? (i := 1127) (by decide +kernel)⟩
theorem lw_p51 : lw_okq (⟨"TicketHallModel", "drawOn", "()I"⟩, 51) := ⟨⟨by decide +kernel, by decide +kernel⟩, List.mem_of_getElem? (i := 769) (by decide +kernel), List.mem_of_getElem? (i := 1130) (by decide +kernel), List.mem_of_getElem? (i := 1131) (by decide +kernel)⟩
theorem lw_p52 : lw_okq (⟨"TicketHallModel", "quantumOf", "(I)V"⟩, 51) := ⟨⟨by decide +kernel, by decide +kernel⟩, List.mem_of_getElem? (i := 769) (by decide +kernel), List.mem_of_getElem? (i := 1135) (by decide +kernel), List.mem_of_getElem? (i := 1136) (by decide +kernel)⟩
theorem lw_p53 : lw_okq (⟨"TicketHallModel", "goByPasses", "(I)I"⟩, 51) := ⟨⟨by decide +kernel, by decide +kernel⟩, List.mem_of_getElem? (i := 769) (by decide +kernel), List.mem_of_getElem? (i := 1143) (by decide +kernel), List.mem_of_getElem? (i := 1144) (by decide +kernel)⟩
theorem lw_p54 : lw_okq (⟨"TicketHallModel", "passOn", "()I"⟩, 51) := ⟨⟨by decide +kernel, by decide +kernel⟩, List.mem_of_getElem? (i := 769) (by decide +kernel), List.mem_of_getElem? (i := 1147) (by decide +kernel), List.mem_of_getElem? (i := 1148) (by decide +kernel)⟩
theorem lw_p55 : lw_okq (⟨"TicketHallModel", "nextOf", "()I"⟩, 51) := ⟨⟨by decide +kernel, by decide +kernel⟩, List.mem_of_getElem? (i := 769) (by decide +kernel), List.mem_of_getElem? (i := 1151) (by decide +kernel), List.mem_of_getElem? (i := 1152) (by decide +kernel)⟩
theorem lw_p56 : lw_okq (⟨"TicketHallModel", "lower", "(I)V"⟩, 51) := ⟨⟨by decide +kernel, by decide +kernel⟩, List.mem_of_getElem? (i := 769) (by decide +kernel), List.mem_of_getElem? (i := 1156) (by decide +kernel), List.mem_of_getElem? (i := 1157) (by decide +kernel)⟩
theorem lw_p57 : lw_okq (⟨"TicketHallModel", "readyBits", "()I"⟩, 51) := ⟨⟨by decide +kernel, by decide +kernel⟩, List.mem_of_getElem? (i := 769) (by decide +kernel), List.mem_of_getElem? (i := 1164) (by decide +kernel), List.mem_of_getElem? (i := 1165) (by decide +kernel)⟩
theorem lw_p58 : lw_okq (⟨"TicketHallModel", "open", "()V"⟩, 51) := ⟨⟨by decide +kernel, by decide +kernel⟩, List.mem_of_getElem? (i := 769) (by decide +kernel), List.mem_of_getElem? (i := 1172) (by decide +kernel), List.mem_of_getElem? (i := 1173) (by decide +kernel)⟩
theorem lw_p59 : lw_okq (⟨"TicketHallModel", "again", "()V"⟩, 51) := ⟨⟨by decide +kernel, by decide +kernel⟩, List.mem_of_getElem? (i := 769) (by decide +kernel), List.mem_of_getElem? (i := 1176) (by decide +kernel), List.mem_of_getElem? (i := 1177) (by decide +kernel)⟩
theorem lw_p60 : lw_okq (⟨"TicketHallModel", "lossOf", "(I)I"⟩, 51) := ⟨⟨by decide +kernel, by decide +kernel⟩, List.mem_of_getElem? (i := 769) (by decide +kernel), List.mem_of_getElem? (i := 1198) (by decide +kernel), List.mem_of_getElem? (i := 1199) (by decide +kernel)⟩
theorem lw_p61 : lw_okq (⟨"TicketHallModel", "raiseOf", "(II)I"⟩, 51) := ⟨⟨by decide +kernel, by decide +kernel⟩, List.mem_of_getElem? (i := 769) (by decide +kernel), List.mem_of_getElem? (i := 1202) (by decide +kernel), List.mem_of_getElem? (i := 1203) (by decide +kernel)⟩
theorem lw_p62 : lw_okq (⟨"TicketHallModel", "allSeen", "(I)Z"⟩, 51) := ⟨⟨by decide +kernel, by decide +kernel⟩, List.mem_of_getElem? (i := 769) (by decide +kernel), List.mem_of_getElem? (i := 1215) (by decide +kernel), List.mem_of_getElem? (i := 1216) (by decide +kernel)⟩
theorem lw_p63 : lw_okq (⟨"TicketHallModel", "isSeen", "(II)Z"⟩, 51) := ⟨⟨by decide +kernel, by decide +kernel⟩, List.mem_of_getElem? (i := 769) (by decide +kernel), List.mem_of_getElem? (i := 1219) (by decide +kernel), List.mem_of_getElem? (i := 1220) (by decide +kernel)⟩
def lw_privs_4 : List (MethodName × Nat) := [(⟨"TicketHallModel", "fundComes", "(I)Z"⟩, 51), (⟨"TicketHallModel", "wrongQuanta", "(I)I"⟩, 51), (⟨"TicketHallModel", "goDrawn", "(II)I"⟩, 51), (⟨"TicketHallModel", "drawOn", "()I"⟩, 51), (⟨"TicketHallModel", "quantumOf", "(I)V"⟩, 51), (⟨"TicketHallModel", "goByPasses", "(I)I"⟩, 51), (⟨"TicketHallModel", "passOn", "()I"⟩, 51), (⟨"TicketHallModel", "nextOf", "()I"⟩, 51), (⟨"TicketHallModel", "lower", "(I)V"⟩, 51), (⟨"TicketHallModel", "readyBits", "()I"⟩, 51), (⟨"TicketHallModel", "open", "()V"⟩, 51), (⟨"TicketHallModel", "again", "()V"⟩, 51), (⟨"TicketHallModel", "lossOf", "(I)I"⟩, 51), (⟨"TicketHallModel", "raiseOf", "(II)I"⟩, 51), (⟨"TicketHallModel", "allSeen", "(I)Z"⟩, 51), (⟨"TicketHallModel", "isSeen", "(II)Z"⟩, 51)]
theorem lw_r4 : ∀ q ∈ lw_privs_4, lw_okq q := List.forall_mem_cons.mpr ⟨lw_p48, List.forall_mem_cons.mpr ⟨lw_p49, List.forall_mem_cons.mpr ⟨lw_p50, List.forall_mem_cons.mpr ⟨lw_p51, List.forall_mem_cons.mpr ⟨lw_p52, List.forall_mem_cons.mpr ⟨lw_p53, List.forall_mem_cons.mpr ⟨lw_p54, List.forall_mem_cons.mpr ⟨lw_p55, List.forall_mem_cons.mpr ⟨lw_p56, List.forall_mem_cons.mpr ⟨lw_p57, List.forall_mem_cons.mpr ⟨lw_p58, List.forall_mem_cons.mpr ⟨lw_p59, List.forall_mem_cons.mpr ⟨lw_p60, List.forall_mem_cons.mpr ⟨lw_p61, List.forall_mem_cons.mpr ⟨lw_p62, List.forall_mem_cons.mpr ⟨lw_p63, fun _ h => absurd h List.not_mem_nil⟩⟩⟩⟩⟩⟩⟩⟩⟩⟩⟩⟩⟩⟩⟩⟩
theorem lw_p64 : lw_okq (⟨"TicketHallModel", "ranAll", "()J"⟩, 51) := ⟨⟨by decide +kernel, by decide +kernel⟩, List.mem_of_getElem? (i := 769) (by decide +kernel), List.mem_of_getElem? (i := 1235) (by decide +kernel), List.mem_of_getElem? (i := 1236) (by decide +kernel)⟩
theorem lw_p65 : lw_okq (⟨"TicketHallModel", "planned", "(I)V"⟩, 51) := ⟨⟨by decide +kernel, by decide +kernel⟩, List.mem_of_getElem? (i := 769) (by decide +kernel), List.mem_of_getElem? (i := 1247) (by decide +kernel), List.mem_of_getElem? (i := 1248) (by decide +kernel)⟩
theorem lw_p66 : lw_okq (⟨"TicketHallModel", "isTape", "(I)Z"⟩, 51) := ⟨⟨by decide +kernel, by decide +kernel⟩, List.mem_of_getElem? (i := 769) (by decide +kernel), List.mem_of_getElem? (i := 1274) (by decide +kernel), List.mem_of_getElem? (i := 1275) (by decide +kernel)⟩
def lw_privs_5 : List (MethodName × Nat) := [(⟨"TicketHallModel", "ranAll", "()J"⟩, 51), (⟨"TicketHallModel", "planned", "(I)V"⟩, 51), (⟨"TicketHallModel", "isTape", "(I)Z"⟩, 51)]
theorem lw_r5 : ∀ q ∈ lw_privs_5, lw_okq q := List.forall_mem_cons.mpr ⟨lw_p64, List.forall_mem_cons.mpr ⟨lw_p65, List.forall_mem_cons.mpr ⟨lw_p66, fun _ h => absurd h List.not_mem_nil⟩⟩⟩
def lw_privs : List (MethodName × Nat) := lw_privs_1 ++ (lw_privs_2 ++ (lw_privs_3 ++ (lw_privs_4 ++ (lw_privs_5))))
def lw_tbl : List Cond := k2_sels lw_privs ++ tables_1
theorem lw_privs_ok : ∀ q ∈ lw_privs, lw_okq q := by
  show ∀ q ∈ lw_privs_1 ++ (lw_privs_2 ++ (lw_privs_3 ++ (lw_privs_4 ++ (lw_privs_5)))), lw_okq q
  exact List.forall_mem_append.mpr ⟨lw_r1, List.forall_mem_append.mpr ⟨lw_r2, List.forall_mem_append.mpr ⟨lw_r3, List.forall_mem_append.mpr ⟨lw_r4, lw_r5⟩⟩⟩⟩
end
section
-- began as the claim's printed names; the places of the words by wip/whole/gen_names.py
def tk_tbl : List Cond := lw_tbl.filter goodWord
theorem tk_at {w : Cond} (i : Nat) (h : lw_tbl[i]? = some w) (hg : goodWord w = true) : w ∈ tk_tbl := List.mem_filter.mpr ⟨List.mem_of_getElem? h, hg⟩
theorem tk_sub {ws : List Cond} (ps : List Nat) (h : ws = ps.filterMap (fun i => lw_tbl[i]?)) (hg : ws.all goodWord = true) : ∀ w ∈ ws, w ∈ tk_tbl := by
  intro w hw
  have h1 := List.all_eq_true.mp hg w hw
  rw [h] at hw
  obtain ⟨i, -, hi⟩ := List.mem_filterMap.mp hw
  exact tk_at i hi h1
theorem tk_goodIn {ws Ts : List Cond} (h : ∀ w ∈ ws, w ∈ Ts) (hg : ∀ w ∈ ws, goodWord w = true) : GoodIn Ts ws := fun w hw => ⟨h w hw, good_of_word (hg w hw)⟩
theorem tk_tbl_good : ∀ w ∈ tk_tbl, goodWord w = true := fun _ h => (List.mem_filter.mp h).2
/-- the links to nest mates -/
def tk_isN (w : Cond) : Bool := match w with
  | .fieldLinkNest .. => true
  | .methodLinkNest .. => true
  | _ => false
def tk_nw : List Cond := lw_tbl.filter tk_isN
theorem tk_atn {w : Cond} (i : Nat) (h : lw_tbl[i]? = some w) (hg : tk_isN w = true) : w ∈ tk_nw := List.mem_filter.mpr ⟨List.mem_of_getElem? h, hg⟩
theorem tk_nw_warm {s U : State} (hW : s.WarmedH U.vm) : ∀ w ∈ tk_nw, va_Nw w s → va_Nw w U := by
  intro w hw h
  have hn := (List.mem_filter.mp hw).2
  cases w <;> first | (simp [tk_isN] at hn; done) | exact va_Nw.warmF hW h | exact va_Nw.warmM hW h
theorem tk_nw_same {u U : State} (hv : u.vm = U.vm) : ∀ w ∈ tk_nw, va_Nw w u → va_Nw w U := by
  intro w hw h
  have hn := (List.mem_filter.mp hw).2
  cases w <;> first | (simp [tk_isN] at hn; done) | exact va_Nw.same rfl hv h
theorem tk_nw_use {A : Array Value} {U : State} {w : Cond} (hw : w ∈ tk_nw) (h : va_Nw w U) : w.before A U = true := by
  have hn := (List.mem_filter.mp hw).2
  cases w <;> first | (simp [tk_isN] at hn; done) | exact va_Nw.use rfl h
def RX0 : String := "TicketHall$Dealer"
def TX0 : u_T := fun k => match k with
  | 0 => ("TicketHall$Dealer", "hall", "LTicketHall$Hall;", true)
  | 1 => ("TicketHall$Dealer", "worths", "LTicketHall$Worths;", true)
  | 2 => ("TicketHall$Dealer", "weights", "[J", true)
  | 3 => ("TicketHall$Dealer", "ready", "I", false)
  | _ => ("TicketHall$Dealer", "total", "J", false)
def tyX0 : Nat → FieldType := fun k => match k with
  | 0 => .object "TicketHall$Hall"
  | 1 => .object "TicketHall$Worths"
  | 2 => .array .long
  | 3 => .int
  | _ => .long
abbrev wsX00 : List Cond := u_ws RX0 TX0 5
theorem nmX0 : ∀ a, a < 5 → ∀ b, b < 5 → a ≠ b → (TX0 a).2.1 ≠ (TX0 b).2.1 := by decide +kernel
theorem tyX0_ok : ∀ k, k < 5 → parseFieldDescriptor (TX0 k).2.2.1 = some (tyX0 k) := by decide +kernel
abbrev cX0_init : ByteArray := prog_2_method_1_code
def yX0_init : MethodName := ⟨RX0, "<init>", "(LTicketHall$Hall;)V"⟩
abbrev cX0_refresh : ByteArray := prog_2_method_2_code
def yX0_refresh : MethodName := ⟨RX0, "refresh", "()V"⟩
abbrev cX0_revalue : ByteArray := prog_2_method_3_code
def yX0_revalue : MethodName := ⟨RX0, "revalue", "()V"⟩
abbrev cX0_weigh : ByteArray := prog_2_method_4_code
def yX0_weigh : MethodName := ⟨RX0, "weigh", "()V"⟩
abbrev cX0_mayServe : ByteArray := prog_2_method_5_code
def yX0_mayServe : MethodName := ⟨RX0, "mayServe", "(I)Z"⟩
abbrev cX0_isReady : ByteArray := prog_2_method_6_code
def yX0_isReady : MethodName := ⟨RX0, "isReady", "(I)Z"⟩
abbrev cX0_strideOf : ByteArray := prog_2_method_7_code
def yX0_strideOf : MethodName := ⟨RX0, "strideOf", "(I)I"⟩
abbrev cX0_nextByPasses : ByteArray := prog_2_method_8_code
def yX0_nextByPasses : MethodName := ⟨RX0, "nextByPasses", "()I"⟩
abbrev cX0_quantumByPasses : ByteArray := prog_2_method_9_code
def yX0_quantumByPasses : MethodName := ⟨RX0, "quantumByPasses", "()I"⟩
abbrev cX0_goByPasses : ByteArray := prog_2_method_10_code
def yX0_goByPasses : MethodName := ⟨RX0, "goByPasses", "(I)I"⟩
abbrev cX0_quantumDrawn : ByteArray := prog_2_method_11_code
def yX0_quantumDrawn : MethodName := ⟨RX0, "quantumDrawn", "(I)I"⟩
abbrev cX0_drawnWith : ByteArray := prog_2_method_12_code
def yX0_drawnWith : MethodName := ⟨RX0, "drawnWith", "(I)I"⟩
abbrev cX0_drawFrom : ByteArray := prog_2_method_13_code
def yX0_drawFrom : MethodName := ⟨RX0, "drawFrom", "(II)I"⟩
abbrev cX0_drawsAsSeen : ByteArray := prog_2_method_14_code
def yX0_drawsAsSeen : MethodName := ⟨RX0, "drawsAsSeen", "(I)Z"⟩
abbrev cX0_numberBehind : ByteArray := prog_2_method_15_code
def yX0_numberBehind : MethodName := ⟨RX0, "numberBehind", "(I)I"⟩
abbrev cX0_deal : ByteArray := prog_2_method_16_code
def yX0_deal : MethodName := ⟨RX0, "deal", "(I)V"⟩
def RX1 : String := "TicketHall$FundReader"
def TX1 : u_T := fun k => match k with
  | 0 => ("TicketHall$FundReader", "place", "I", false)
  | 1 => ("TicketHall$FundReader", "clauses", "I", false)
  | 2 => ("TicketHall$FundReader", "digits", "I", false)
  | 3 => ("TicketHall$FundReader", "forClient", "Z", false)
  | 4 => ("TicketHall$FundReader", "who", "I", false)
  | 5 => ("TicketHall$FundReader", "amount", "I", false)
  | _ => ("TicketHall$FundReader", "currency", "I", false)
def tyX1 : Nat → FieldType := fun k => match k with
  | 0 => .int
  | 1 => .int
  | 2 => .int
  | 3 => .boolean
  | 4 => .int
  | 5 => .int
  | _ => .int
abbrev wsX10 : List Cond := u_ws RX1 TX1 7
theorem nmX1 : ∀ a, a < 7 → ∀ b, b < 7 → a ≠ b → (TX1 a).2.1 ≠ (TX1 b).2.1 := by decide +kernel
theorem tyX1_ok : ∀ k, k < 7 → parseFieldDescriptor (TX1 k).2.2.1 = some (tyX1 k) := by decide +kernel
abbrev cX1_init : ByteArray := prog_3_method_1_code
def yX1_init : MethodName := ⟨RX1, "<init>", "()V"⟩
abbrev cX1_begin : ByteArray := prog_3_method_2_code
def yX1_begin : MethodName := ⟨RX1, "begin", "()V"⟩
abbrev cX1_atFundsEnd : ByteArray := prog_3_method_3_code
def yX1_atFundsEnd : MethodName := ⟨RX1, "atFundsEnd", "()Z"⟩
abbrev cX1_takes : ByteArray := prog_3_method_4_code
def yX1_takes : MethodName := ⟨RX1, "takes", "(I)Z"⟩
abbrev cX1_goesOn : ByteArray := prog_3_method_5_code
def yX1_goesOn : MethodName := ⟨RX1, "goesOn", "(ZI)Z"⟩
abbrev cX1_takesWho : ByteArray := prog_3_method_6_code
def yX1_takesWho : MethodName := ⟨RX1, "takesWho", "(I)Z"⟩
abbrev cX1_takesWhoDigit : ByteArray := prog_3_method_7_code
def yX1_takesWhoDigit : MethodName := ⟨RX1, "takesWhoDigit", "(I)Z"⟩
abbrev cX1_takesFirstDigit : ByteArray := prog_3_method_8_code
def yX1_takesFirstDigit : MethodName := ⟨RX1, "takesFirstDigit", "(I)Z"⟩
abbrev cX1_takesDigitOrSign : ByteArray := prog_3_method_9_code
def yX1_takesDigitOrSign : MethodName := ⟨RX1, "takesDigitOrSign", "(I)Z"⟩
abbrev cX1_takesCurrency : ByteArray := prog_3_method_10_code
def yX1_takesCurrency : MethodName := ⟨RX1, "takesCurrency", "(I)Z"⟩
abbrev cX1_takesBehind : ByteArray := prog_3_method_11_code
def yX1_takesBehind : MethodName := ⟨RX1, "takesBehind", "(I)Z"⟩
def RX2 : String := "TicketHall$Hall"
def TX2 : u_T := fun k => match k with
  | 0 => ("TicketHall$Hall", "currencies", "I", false)
  | 1 => ("TicketHall$Hall", "tickets", "I", false)
  | 2 => ("TicketHall$Hall", "clients", "I", false)
  | 3 => ("TicketHall$Hall", "clock", "I", false)
  | 4 => ("TicketHall$Hall", "lowered", "I", false)
  | 5 => ("TicketHall$Hall", "currencyOf", "[I", true)
  | 6 => ("TicketHall$Hall", "amounts", "[I", true)
  | 7 => ("TicketHall$Hall", "owners", "[I", true)
  | 8 => ("TicketHall$Hall", "kinds", "[I", true)
  | 9 => ("TicketHall$Hall", "numbers", "[I", true)
  | 10 => ("TicketHall$Hall", "ran", "[I", true)
  | 11 => ("TicketHall$Hall", "used", "[I", true)
  | 12 => ("TicketHall$Hall", "passes", "[I", true)
  | 13 => ("TicketHall$Hall", "waiting", "[I", true)
  | 14 => ("TicketHall$Hall", "rows", "[I", true)
  | 15 => ("TicketHall$Hall", "seen", "LTicketHall$HandRows;", true)
  | 16 => ("TicketHall$Hall", "plan", "LTicketHall$HandRows;", true)
  | _ => ("TicketHall$Hall", "book", "LTicketHall$HandRows;", true)
def tyX2 : Nat → FieldType := fun k => match k with
  | 0 => .int
  | 1 => .int
  | 2 => .int
  | 3 => .int
  | 4 => .int
  | 5 => .array .int
  | 6 => .array .int
  | 7 => .array .int
  | 8 => .array .int
  | 9 => .array .int
  | 10 => .array .int
  | 11 => .array .int
  | 12 => .array .int
  | 13 => .array .int
  | 14 => .array .int
  | 15 => .object "TicketHall$HandRows"
  | 16 => .object "TicketHall$HandRows"
  | _ => .object "TicketHall$HandRows"
abbrev wsX20 : List Cond := u_ws RX2 TX2 18
theorem nmX2 : ∀ a, a < 18 → ∀ b, b < 18 → a ≠ b → (TX2 a).2.1 ≠ (TX2 b).2.1 := by decide +kernel
theorem tyX2_ok : ∀ k, k < 18 → parseFieldDescriptor (TX2 k).2.2.1 = some (tyX2 k) := by decide +kernel
abbrev cX2_init : ByteArray := prog_4_method_1_code
def yX2_init : MethodName := ⟨RX2, "<init>", "()V"⟩
abbrev cX2_takeFrom : ByteArray := prog_4_method_2_code
def yX2_takeFrom : MethodName := ⟨RX2, "takeFrom", "(LTicketHall$Hall;)V"⟩
abbrev cX2_hasCurrency : ByteArray := prog_4_method_3_code
def yX2_hasCurrency : MethodName := ⟨RX2, "hasCurrency", "(I)Z"⟩
abbrev cX2_hasTicket : ByteArray := prog_4_method_4_code
def yX2_hasTicket : MethodName := ⟨RX2, "hasTicket", "(I)Z"⟩
abbrev cX2_hasClient : ByteArray := prog_4_method_5_code
def yX2_hasClient : MethodName := ⟨RX2, "hasClient", "(I)Z"⟩
abbrev cX2_addTicket : ByteArray := prog_4_method_6_code
def yX2_addTicket : MethodName := ⟨RX2, "addTicket", "(III)I"⟩
abbrev cX2_addClient : ByteArray := prog_4_method_7_code
def yX2_addClient : MethodName := ⟨RX2, "addClient", "(II)I"⟩
abbrev cX2_leastPass : ByteArray := prog_4_method_8_code
def yX2_leastPass : MethodName := ⟨RX2, "leastPass", "()I"⟩
abbrev cX2_ranOfAll : ByteArray := prog_4_method_9_code
def yX2_ranOfAll : MethodName := ⟨RX2, "ranOfAll", "()I"⟩
abbrev cX2_backersOf : ByteArray := prog_4_method_10_code
def yX2_backersOf : MethodName := ⟨RX2, "backersOf", "(II)I"⟩
abbrev cX2_hangsOn : ByteArray := prog_4_method_11_code
def yX2_hangsOn : MethodName := ⟨RX2, "hangsOn", "(II)I"⟩
abbrev cX2_mayBack : ByteArray := prog_4_method_12_code
def yX2_mayBack : MethodName := ⟨RX2, "mayBack", "(III)Z"⟩
abbrev cX2_holdersAbove : ByteArray := prog_4_method_13_code
def yX2_holdersAbove : MethodName := ⟨RX2, "holdersAbove", "(I)I"⟩
abbrev cX2_waitsLeadTo : ByteArray := prog_4_method_14_code
def yX2_waitsLeadTo : MethodName := ⟨RX2, "waitsLeadTo", "(II)Z"⟩
abbrev cX2_isOf : ByteArray := prog_4_method_15_code
def yX2_isOf : MethodName := ⟨RX2, "isOf", "(II)Z"⟩
abbrev cX2_partsOf : ByteArray := prog_4_method_16_code
def yX2_partsOf : MethodName := ⟨RX2, "partsOf", "(I)I"⟩
abbrev cX2_burstParts : ByteArray := prog_4_method_17_code
def yX2_burstParts : MethodName := ⟨RX2, "burstParts", "()I"⟩
abbrev cX2_spend : ByteArray := prog_4_method_18_code
def yX2_spend : MethodName := ⟨RX2, "spend", "(I)V"⟩
abbrev cX2_growPass : ByteArray := prog_4_method_19_code
def yX2_growPass : MethodName := ⟨RX2, "growPass", "(II)V"⟩
abbrev cX2_isSeenSo : ByteArray := prog_4_method_20_code
def yX2_isSeenSo : MethodName := ⟨RX2, "isSeenSo", "(II)Z"⟩
abbrev cX2_lastSeen : ByteArray := prog_4_method_21_code
def yX2_lastSeen : MethodName := ⟨RX2, "lastSeen", "()I"⟩
def RX3 : String := "TicketHall$HandRows"
def TX3 : u_T := fun k => match k with
  | 0 => ("TicketHall$HandRows", "size", "I", false)
  | 1 => ("TicketHall$HandRows", "first", "[I", true)
  | _ => ("TicketHall$HandRows", "second", "[I", true)
def tyX3 : Nat → FieldType := fun k => match k with
  | 0 => .int
  | 1 => .array .int
  | _ => .array .int
abbrev wsX30 : List Cond := u_ws RX3 TX3 3
theorem nmX3 : ∀ a, a < 3 → ∀ b, b < 3 → a ≠ b → (TX3 a).2.1 ≠ (TX3 b).2.1 := by decide +kernel
theorem tyX3_ok : ∀ k, k < 3 → parseFieldDescriptor (TX3 k).2.2.1 = some (tyX3 k) := by decide +kernel
abbrev cX3_init : ByteArray := prog_5_method_1_code
def yX3_init : MethodName := ⟨RX3, "<init>", "(I)V"⟩
abbrev cX3_emptied : ByteArray := prog_5_method_2_code
def yX3_emptied : MethodName := ⟨RX3, "emptied", "()I"⟩
abbrev cX3_added : ByteArray := prog_5_method_3_code
def yX3_added : MethodName := ⟨RX3, "added", "(II)I"⟩
abbrev cX3_copyRows : ByteArray := prog_5_method_4_code
def yX3_copyRows : MethodName := ⟨RX3, "copyRows", "(LTicketHall$HandRows;)V"⟩
def RX4 : String := "TicketHall$Tape"
def TX4 : u_T := fun k => match k with
  | 0 => ("TicketHall$Tape", "sort", "I", false)
  | 1 => ("TicketHall$Tape", "size", "I", false)
  | _ => ("TicketHall$Tape", "items", "[J", true)
def tyX4 : Nat → FieldType := fun k => match k with
  | 0 => .int
  | 1 => .int
  | _ => .array .long
abbrev wsX40 : List Cond := u_ws RX4 TX4 3
theorem nmX4 : ∀ a, a < 3 → ∀ b, b < 3 → a ≠ b → (TX4 a).2.1 ≠ (TX4 b).2.1 := by decide +kernel
theorem tyX4_ok : ∀ k, k < 3 → parseFieldDescriptor (TX4 k).2.2.1 = some (tyX4 k) := by decide +kernel
abbrev cX4_init : ByteArray := prog_6_method_1_code
def yX4_init : MethodName := ⟨RX4, "<init>", "()V"⟩
abbrev cX4_become : ByteArray := prog_6_method_2_code
def yX4_become : MethodName := ⟨RX4, "become", "(II)V"⟩
abbrev cX4_fitted : ByteArray := prog_6_method_3_code
def yX4_fitted : MethodName := ⟨RX4, "fitted", "(J)J"⟩
def RX5 : String := "TicketHall$Worths"
def TX5 : u_T := fun k => match k with
  | 0 => ("TicketHall$Worths", "hall", "LTicketHall$Hall;", true)
  | 1 => ("TicketHall$Worths", "line", "[I", true)
  | 2 => ("TicketHall$Worths", "along", "[I", true)
  | 3 => ("TicketHall$Worths", "issued", "[J", true)
  | 4 => ("TicketHall$Worths", "values", "[J", true)
  | 5 => ("TicketHall$Worths", "worths", "[J", true)
  | 6 => ("TicketHall$Worths", "held", "[J", true)
  | 7 => ("TicketHall$Worths", "shares", "[J", true)
  | _ => ("TicketHall$Worths", "awaited", "I", false)
def tyX5 : Nat → FieldType := fun k => match k with
  | 0 => .object "TicketHall$Hall"
  | 1 => .array .int
  | 2 => .array .int
  | 3 => .array .long
  | 4 => .array .long
  | 5 => .array .long
  | 6 => .array .long
  | 7 => .array .long
  | _ => .int
abbrev wsX50 : List Cond := u_ws RX5 TX5 9
theorem nmX5 : ∀ a, a < 9 → ∀ b, b < 9 → a ≠ b → (TX5 a).2.1 ≠ (TX5 b).2.1 := by decide +kernel
theorem tyX5_ok : ∀ k, k < 9 → parseFieldDescriptor (TX5 k).2.2.1 = some (tyX5 k) := by decide +kernel
abbrev cX5_init : ByteArray := prog_7_method_1_code
def yX5_init : MethodName := ⟨RX5, "<init>", "(LTicketHall$Hall;)V"⟩
abbrev cX5_arrange : ByteArray := prog_7_method_2_code
def yX5_arrange : MethodName := ⟨RX5, "arrange", "()V"⟩
abbrev cX5_firstFree : ByteArray := prog_7_method_3_code
def yX5_firstFree : MethodName := ⟨RX5, "firstFree", "(I)I"⟩
abbrev cX5_reckon : ByteArray := prog_7_method_4_code
def yX5_reckon : MethodName := ⟨RX5, "reckon", "()V"⟩
abbrev cX5_value : ByteArray := prog_7_method_5_code
def yX5_value : MethodName := ⟨RX5, "value", "(I)V"⟩
abbrev cX5_lend : ByteArray := prog_7_method_6_code
def yX5_lend : MethodName := ⟨RX5, "lend", "()V"⟩
def RX6 : String := "TicketHall"
def TX6 : u_T := fun k => match k with
  | 0 => ("TicketHall", "live", "LTicketHall$Hall;", true)
  | 1 => ("TicketHall", "now", "LTicketHall$Dealer;", true)
  | 2 => ("TicketHall", "trial", "LTicketHall$Hall;", true)
  | 3 => ("TicketHall", "then", "LTicketHall$Dealer;", true)
  | 4 => ("TicketHall", "kept", "LTicketHall$Hall;", true)
  | 5 => ("TicketHall", "imaged", "Z", false)
  | 6 => ("TicketHall", "text", "[B", true)
  | 7 => ("TicketHall", "textLength", "I", false)
  | 8 => ("TicketHall", "reader", "LTicketHall$FundReader;", true)
  | _ => ("TicketHall", "tapes", "[LTicketHall$Tape;", true)
def tyX6 : Nat → FieldType := fun k => match k with
  | 0 => .object "TicketHall$Hall"
  | 1 => .object "TicketHall$Dealer"
  | 2 => .object "TicketHall$Hall"
  | 3 => .object "TicketHall$Dealer"
  | 4 => .object "TicketHall$Hall"
  | 5 => .boolean
  | 6 => .array .byte
  | 7 => .int
  | 8 => .object "TicketHall$FundReader"
  | _ => .array (.object "TicketHall$Tape")
abbrev wsX60 : List Cond := u_ws RX6 TX6 10
theorem nmX6 : ∀ a, a < 10 → ∀ b, b < 10 → a ≠ b → (TX6 a).2.1 ≠ (TX6 b).2.1 := by decide +kernel
theorem tyX6_ok : ∀ k, k < 10 → parseFieldDescriptor (TX6 k).2.2.1 = some (tyX6 k) := by decide +kernel
abbrev cX6_init : ByteArray := prog_1_method_1_code
def yX6_init : MethodName := ⟨RX6, "<init>", "()V"⟩
abbrev cX6_currency : ByteArray := prog_1_method_2_code
def yX6_currency : MethodName := ⟨RX6, "currency", "()I"⟩
abbrev cX6_ticket : ByteArray := prog_1_method_3_code
def yX6_ticket : MethodName := ⟨RX6, "ticket", "(II)I"⟩
abbrev cX6_client : ByteArray := prog_1_method_4_code
def yX6_client : MethodName := ⟨RX6, "client", "(II)I"⟩
abbrev cX6_amount : ByteArray := prog_1_method_5_code
def yX6_amount : MethodName := ⟨RX6, "amount", "(II)I"⟩
abbrev cX6_give : ByteArray := prog_1_method_6_code
def yX6_give : MethodName := ⟨RX6, "give", "(II)I"⟩
abbrev cX6_back : ByteArray := prog_1_method_7_code
def yX6_back : MethodName := ⟨RX6, "back", "(II)I"⟩
abbrev cX6_waits : ByteArray := prog_1_method_8_code
def yX6_waits : MethodName := ⟨RX6, "waits", "(II)I"⟩
abbrev cX6_row : ByteArray := prog_1_method_9_code
def yX6_row : MethodName := ⟨RX6, "row", "(III)I"⟩
abbrev cX6_of : ByteArray := prog_1_method_10_code
def yX6_of : MethodName := ⟨RX6, "of", "(II)I"⟩
abbrev cX6_weighedOf : ByteArray := prog_1_method_11_code
def yX6_weighedOf : MethodName := ⟨RX6, "weighedOf", "(II)I"⟩
abbrev cX6_card : ByteArray := prog_1_method_12_code
def yX6_card : MethodName := ⟨RX6, "card", "(II)I"⟩
abbrev cX6_worth : ByteArray := prog_1_method_13_code
def yX6_worth : MethodName := ⟨RX6, "worth", "(II)J"⟩
abbrev cX6_needs : ByteArray := prog_1_method_14_code
def yX6_needs : MethodName := ⟨RX6, "needs", "(II)I"⟩
abbrev cX6_order : ByteArray := prog_1_method_15_code
def yX6_order : MethodName := ⟨RX6, "order", "()I"⟩
abbrev cX6_feed : ByteArray := prog_1_method_16_code
def yX6_feed : MethodName := ⟨RX6, "feed", "(I)I"⟩
abbrev cX6_fund : ByteArray := prog_1_method_17_code
def yX6_fund : MethodName := ⟨RX6, "fund", "()I"⟩
abbrev cX6_faultOfText : ByteArray := prog_1_method_18_code
def yX6_faultOfText : MethodName := ⟨RX6, "faultOfText", "()I"⟩
abbrev cX6_takeFunds : ByteArray := prog_1_method_19_code
def yX6_takeFunds : MethodName := ⟨RX6, "takeFunds", "()I"⟩
abbrev cX6_takeFund : ByteArray := prog_1_method_20_code
def yX6_takeFund : MethodName := ⟨RX6, "takeFund", "()Z"⟩
abbrev cX6_draw : ByteArray := prog_1_method_21_code
def yX6_draw : MethodName := ⟨RX6, "draw", "(II)I"⟩
abbrev cX6_stride : ByteArray := prog_1_method_22_code
def yX6_stride : MethodName := ⟨RX6, "stride", "(I)I"⟩
abbrev cX6_told : ByteArray := prog_1_method_23_code
def yX6_told : MethodName := ⟨RX6, "told", "(I)I"⟩
abbrev cX6_on : ByteArray := prog_1_method_24_code
def yX6_on : MethodName := ⟨RX6, "on", "(III)I"⟩
abbrev cX6_by : ByteArray := prog_1_method_25_code
def yX6_by : MethodName := ⟨RX6, "by", "(II)I"⟩
abbrev cX6_lag : ByteArray := prog_1_method_26_code
def yX6_lag : MethodName := ⟨RX6, "lag", "(III)J"⟩
abbrev cX6_best : ByteArray := prog_1_method_27_code
def yX6_best : MethodName := ⟨RX6, "best", "(II)I"⟩
abbrev cX6_lossOf : ByteArray := prog_1_method_28_code
def yX6_lossOf : MethodName := ⟨RX6, "lossOf", "(I)I"⟩
abbrev cX6_raiseOf : ByteArray := prog_1_method_29_code
def yX6_raiseOf : MethodName := ⟨RX6, "raiseOf", "(II)I"⟩
abbrev cX6_see : ByteArray := prog_1_method_30_code
def yX6_see : MethodName := ⟨RX6, "see", "(II)I"⟩
abbrev cX6_seeds : ByteArray := prog_1_method_31_code
def yX6_seeds : MethodName := ⟨RX6, "seeds", "()I"⟩
abbrev cX6_can : ByteArray := prog_1_method_32_code
def yX6_can : MethodName := ⟨RX6, "can", "(III)I"⟩
abbrev cX6_odds : ByteArray := prog_1_method_33_code
def yX6_odds : MethodName := ⟨RX6, "odds", "(II)J"⟩
abbrev cX6_mean : ByteArray := prog_1_method_34_code
def yX6_mean : MethodName := ⟨RX6, "mean", "(I)J"⟩
abbrev cX6_plan : ByteArray := prog_1_method_35_code
def yX6_plan : MethodName := ⟨RX6, "plan", "(II)I"⟩
abbrev cX6_ends : ByteArray := prog_1_method_36_code
def yX6_ends : MethodName := ⟨RX6, "ends", "(I)I"⟩
abbrev cX6_goOnePlanned : ByteArray := prog_1_method_37_code
def yX6_goOnePlanned : MethodName := ⟨RX6, "goOnePlanned", "(II)V"⟩
abbrev cX6_book : ByteArray := prog_1_method_38_code
def yX6_book : MethodName := ⟨RX6, "book", "(II)I"⟩
abbrev cX6_looked : ByteArray := prog_1_method_39_code
def yX6_looked : MethodName := ⟨RX6, "looked", "()I"⟩
abbrev cX6_judge : ByteArray := prog_1_method_40_code
def yX6_judge : MethodName := ⟨RX6, "judge", "(II)I"⟩
abbrev cX6_image : ByteArray := prog_1_method_41_code
def yX6_image : MethodName := ⟨RX6, "image", "()I"⟩
abbrev cX6_undo : ByteArray := prog_1_method_42_code
def yX6_undo : MethodName := ⟨RX6, "undo", "()I"⟩
abbrev cX6_taken : ByteArray := prog_1_method_43_code
def yX6_taken : MethodName := ⟨RX6, "taken", "(II)I"⟩
abbrev cX6_count : ByteArray := prog_1_method_44_code
def yX6_count : MethodName := ⟨RX6, "count", "(I)I"⟩
abbrev cX6_tape : ByteArray := prog_1_method_45_code
def yX6_tape : MethodName := ⟨RX6, "tape", "(III)I"⟩
abbrev cX6_item : ByteArray := prog_1_method_46_code
def yX6_item : MethodName := ⟨RX6, "item", "(IIJ)I"⟩
abbrev cX6_read : ByteArray := prog_1_method_47_code
def yX6_read : MethodName := ⟨RX6, "read", "(II)J"⟩
abbrev cX6_shift : ByteArray := prog_1_method_48_code
def yX6_shift : MethodName := ⟨RX6, "shift", "(IIIII)I"⟩
abbrev cX6_beginTrial : ByteArray := prog_1_method_49_code
def yX6_beginTrial : MethodName := ⟨RX6, "beginTrial", "()V"⟩
abbrev cX6_isAmount : ByteArray := prog_1_method_50_code
def yX6_isAmount : MethodName := ⟨RX6, "isAmount", "(I)Z"⟩
abbrev cX6_isDigit : ByteArray := prog_1_method_51_code
def yX6_isDigit : MethodName := ⟨RX6, "isDigit", "(I)Z"⟩
abbrev cX6_isKind : ByteArray := prog_1_method_52_code
def yX6_isKind : MethodName := ⟨RX6, "isKind", "(I)Z"⟩
abbrev cX6_isRun : ByteArray := prog_1_method_53_code
def yX6_isRun : MethodName := ⟨RX6, "isRun", "(I)Z"⟩
abbrev cX6_isPart : ByteArray := prog_1_method_54_code
def yX6_isPart : MethodName := ⟨RX6, "isPart", "(I)Z"⟩
abbrev cX6_isTape : ByteArray := prog_1_method_55_code
def yX6_isTape : MethodName := ⟨RX6, "isTape", "(I)Z"⟩
abbrev cX6_cutBy : ByteArray := prog_1_method_56_code
def yX6_cutBy : MethodName := ⟨RX6, "cutBy", "(JJ)J"⟩
abbrev cX6_fraction : ByteArray := prog_1_method_57_code
def yX6_fraction : MethodName := ⟨RX6, "fraction", "(JJI)J"⟩
def RX7 : String := "TicketHallModel"
def TX7 : u_T := fun k => match k with
  | 0 => ("TicketHallModel", "currencies", "I", false)
  | 1 => ("TicketHallModel", "tickets", "I", false)
  | 2 => ("TicketHallModel", "inOf", "[I", true)
  | 3 => ("TicketHallModel", "amounts", "[I", true)
  | 4 => ("TicketHallModel", "hasIt", "[I", true)
  | 5 => ("TicketHallModel", "clients", "I", false)
  | 6 => ("TicketHallModel", "kinds", "[I", true)
  | 7 => ("TicketHallModel", "vs", "[I", true)
  | 8 => ("TicketHallModel", "ran", "[I", true)
  | 9 => ("TicketHallModel", "used", "[I", true)
  | 10 => ("TicketHallModel", "pass", "[I", true)
  | 11 => ("TicketHallModel", "waitsFor", "[I", true)
  | 12 => ("TicketHallModel", "rowOf", "[I", true)
  | 13 => ("TicketHallModel", "clock", "I", false)
  | 14 => ("TicketHallModel", "lowered", "I", false)
  | 15 => ("TicketHallModel", "seenMany", "I", false)
  | 16 => ("TicketHallModel", "seenWho", "[I", true)
  | 17 => ("TicketHallModel", "seenWhen", "[I", true)
  | 18 => ("TicketHallModel", "planMany", "I", false)
  | 19 => ("TicketHallModel", "planWhat", "[I", true)
  | 20 => ("TicketHallModel", "planN", "[I", true)
  | 21 => ("TicketHallModel", "bookMany", "I", false)
  | 22 => ("TicketHallModel", "bookWho", "[I", true)
  | 23 => ("TicketHallModel", "bookRan", "[I", true)
  | 24 => ("TicketHallModel", "thrown", "I", false)
  | 25 => ("TicketHallModel", "kept", "[I", true)
  | 26 => ("TicketHallModel", "imaged", "[I", true)
  | 27 => ("TicketHallModel", "hasImage", "Z", false)
  | 28 => ("TicketHallModel", "place0", "I", false)
  | 29 => ("TicketHallModel", "isTaking", "Z", false)
  | 30 => ("TicketHallModel", "keptIn", "[I", false)
  | 31 => ("TicketHallModel", "hangs", "[I", true)
  | 32 => ("TicketHallModel", "values", "[J", true)
  | 33 => ("TicketHallModel", "issued", "[J", true)
  | 34 => ("TicketHallModel", "sums", "[J", true)
  | 35 => ("TicketHallModel", "shares", "[J", true)
  | 36 => ("TicketHallModel", "held", "[J", true)
  | 37 => ("TicketHallModel", "z", "I", false)
  | 38 => ("TicketHallModel", "text", "[I", true)
  | 39 => ("TicketHallModel", "size", "I", false)
  | 40 => ("TicketHallModel", "place", "I", false)
  | 41 => ("TicketHallModel", "isBad", "Z", false)
  | 42 => ("TicketHallModel", "fundWho", "[I", true)
  | 43 => ("TicketHallModel", "fundAmount", "[I", true)
  | 44 => ("TicketHallModel", "fundIn", "[I", true)
  | 45 => ("TicketHallModel", "funds", "I", false)
  | 46 => ("TicketHallModel", "sortOf", "[I", true)
  | 47 => ("TicketHallModel", "manyOf", "[I", true)
  | 48 => ("TicketHallModel", "items", "[J", true)
  | 49 => ("TicketHallModel", "copies", "[J", true)
  | _ => ("TicketHallModel", "holdsRow", "[Z", true)
def tyX7 : Nat → FieldType := fun k => match k with
  | 0 => .int
  | 1 => .int
  | 2 => .array .int
  | 3 => .array .int
  | 4 => .array .int
  | 5 => .int
  | 6 => .array .int
  | 7 => .array .int
  | 8 => .array .int
  | 9 => .array .int
  | 10 => .array .int
  | 11 => .array .int
  | 12 => .array .int
  | 13 => .int
  | 14 => .int
  | 15 => .int
  | 16 => .array .int
  | 17 => .array .int
  | 18 => .int
  | 19 => .array .int
  | 20 => .array .int
  | 21 => .int
  | 22 => .array .int
  | 23 => .array .int
  | 24 => .int
  | 25 => .array .int
  | 26 => .array .int
  | 27 => .boolean
  | 28 => .int
  | 29 => .boolean
  | 30 => .array .int
  | 31 => .array .int
  | 32 => .array .long
  | 33 => .array .long
  | 34 => .array .long
  | 35 => .array .long
  | 36 => .array .long
  | 37 => .int
  | 38 => .array .int
  | 39 => .int
  | 40 => .int
  | 41 => .boolean
  | 42 => .array .int
  | 43 => .array .int
  | 44 => .array .int
  | 45 => .int
  | 46 => .array .int
  | 47 => .array .int
  | 48 => .array .long
  | 49 => .array .long
  | _ => .array .boolean
abbrev wsX70 : List Cond := u_ws RX7 TX7 51
theorem nmX7 : ∀ a, a < 51 → ∀ b, b < 51 → a ≠ b → (TX7 a).2.1 ≠ (TX7 b).2.1 := by decide +kernel
theorem tyX7_ok : ∀ k, k < 51 → parseFieldDescriptor (TX7 k).2.2.1 = some (tyX7 k) := by decide +kernel
abbrev cX7_init : ByteArray := prog_9_method_1_code
def yX7_init : MethodName := ⟨RX7, "<init>", "()V"⟩
abbrev cX7_in : ByteArray := prog_9_method_3_code
def yX7_in : MethodName := ⟨RX7, "in", "(JJJ)Z"⟩
abbrev cX7_hasBit : ByteArray := prog_9_method_4_code
def yX7_hasBit : MethodName := ⟨RX7, "hasBit", "(II)Z"⟩
abbrev cX7_isClient : ByteArray := prog_9_method_5_code
def yX7_isClient : MethodName := ⟨RX7, "isClient", "(I)Z"⟩
abbrev cX7_isTicket : ByteArray := prog_9_method_6_code
def yX7_isTicket : MethodName := ⟨RX7, "isTicket", "(I)Z"⟩
abbrev cX7_isCurrency : ByteArray := prog_9_method_7_code
def yX7_isCurrency : MethodName := ⟨RX7, "isCurrency", "(I)Z"⟩
abbrev cX7_carry : ByteArray := prog_9_method_8_code
def yX7_carry : MethodName := ⟨RX7, "carry", "(I)I"⟩
abbrev cX7_carryAll : ByteArray := prog_9_method_9_code
def yX7_carryAll : MethodName := ⟨RX7, "carryAll", "([IZ)V"⟩
abbrev cX7_open : ByteArray := prog_9_method_10_code
def yX7_open : MethodName := ⟨RX7, "open", "()V"⟩
abbrev cX7_again : ByteArray := prog_9_method_11_code
def yX7_again : MethodName := ⟨RX7, "again", "()V"⟩
abbrev cX7_image : ByteArray := prog_9_method_12_code
def yX7_image : MethodName := ⟨RX7, "image", "()I"⟩
abbrev cX7_undo : ByteArray := prog_9_method_13_code
def yX7_undo : MethodName := ⟨RX7, "undo", "()I"⟩
abbrev cX7_layHangs : ByteArray := prog_9_method_14_code
def yX7_layHangs : MethodName := ⟨RX7, "layHangs", "(I)V"⟩
abbrev cX7_worthOf : ByteArray := prog_9_method_15_code
def yX7_worthOf : MethodName := ⟨RX7, "worthOf", "(I)J"⟩
abbrev cX7_layIssued : ByteArray := prog_9_method_16_code
def yX7_layIssued : MethodName := ⟨RX7, "layIssued", "()V"⟩
abbrev cX7_layValues : ByteArray := prog_9_method_17_code
def yX7_layValues : MethodName := ⟨RX7, "layValues", "()V"⟩
abbrev cX7_layShares : ByteArray := prog_9_method_18_code
def yX7_layShares : MethodName := ⟨RX7, "layShares", "()V"⟩
abbrev cX7_weightOf : ByteArray := prog_9_method_19_code
def yX7_weightOf : MethodName := ⟨RX7, "weightOf", "(I)J"⟩
abbrev cX7_isWaitedFor : ByteArray := prog_9_method_20_code
def yX7_isWaitedFor : MethodName := ⟨RX7, "isWaitedFor", "(I)Z"⟩
abbrev cX7_isReady : ByteArray := prog_9_method_21_code
def yX7_isReady : MethodName := ⟨RX7, "isReady", "(I)Z"⟩
abbrev cX7_total : ByteArray := prog_9_method_22_code
def yX7_total : MethodName := ⟨RX7, "total", "()J"⟩
abbrev cX7_atLeast : ByteArray := prog_9_method_23_code
def yX7_atLeast : MethodName := ⟨RX7, "atLeast", "(JI)I"⟩
abbrev cX7_strideOf : ByteArray := prog_9_method_24_code
def yX7_strideOf : MethodName := ⟨RX7, "strideOf", "(I)I"⟩
abbrev cX7_partsOf : ByteArray := prog_9_method_25_code
def yX7_partsOf : MethodName := ⟨RX7, "partsOf", "(I)I"⟩
abbrev cX7_quantumOf : ByteArray := prog_9_method_26_code
def yX7_quantumOf : MethodName := ⟨RX7, "quantumOf", "(I)V"⟩
abbrev cX7_drawOn : ByteArray := prog_9_method_27_code
def yX7_drawOn : MethodName := ⟨RX7, "drawOn", "()I"⟩
abbrev cX7_nextOf : ByteArray := prog_9_method_28_code
def yX7_nextOf : MethodName := ⟨RX7, "nextOf", "()I"⟩
abbrev cX7_lower : ByteArray := prog_9_method_29_code
def yX7_lower : MethodName := ⟨RX7, "lower", "(I)V"⟩
abbrev cX7_passOn : ByteArray := prog_9_method_30_code
def yX7_passOn : MethodName := ⟨RX7, "passOn", "()I"⟩
abbrev cX7_goDrawn : ByteArray := prog_9_method_31_code
def yX7_goDrawn : MethodName := ⟨RX7, "goDrawn", "(II)I"⟩
abbrev cX7_goByPasses : ByteArray := prog_9_method_32_code
def yX7_goByPasses : MethodName := ⟨RX7, "goByPasses", "(I)I"⟩
abbrev cX7_currency : ByteArray := prog_9_method_33_code
def yX7_currency : MethodName := ⟨RX7, "currency", "()I"⟩
abbrev cX7_ticket : ByteArray := prog_9_method_34_code
def yX7_ticket : MethodName := ⟨RX7, "ticket", "(II)I"⟩
abbrev cX7_client : ByteArray := prog_9_method_35_code
def yX7_client : MethodName := ⟨RX7, "client", "(II)I"⟩
abbrev cX7_amount : ByteArray := prog_9_method_36_code
def yX7_amount : MethodName := ⟨RX7, "amount", "(II)I"⟩
abbrev cX7_give : ByteArray := prog_9_method_37_code
def yX7_give : MethodName := ⟨RX7, "give", "(II)I"⟩
abbrev cX7_canBack : ByteArray := prog_9_method_38_code
def yX7_canBack : MethodName := ⟨RX7, "canBack", "(II)Z"⟩
abbrev cX7_back : ByteArray := prog_9_method_39_code
def yX7_back : MethodName := ⟨RX7, "back", "(II)I"⟩
abbrev cX7_waits : ByteArray := prog_9_method_40_code
def yX7_waits : MethodName := ⟨RX7, "waits", "(II)I"⟩
abbrev cX7_row : ByteArray := prog_9_method_41_code
def yX7_row : MethodName := ⟨RX7, "row", "(III)I"⟩
abbrev cX7_of : ByteArray := prog_9_method_42_code
def yX7_of : MethodName := ⟨RX7, "of", "(II)I"⟩
abbrev cX7_card : ByteArray := prog_9_method_43_code
def yX7_card : MethodName := ⟨RX7, "card", "(II)I"⟩
abbrev cX7_worth : ByteArray := prog_9_method_44_code
def yX7_worth : MethodName := ⟨RX7, "worth", "(II)J"⟩
abbrev cX7_needs : ByteArray := prog_9_method_45_code
def yX7_needs : MethodName := ⟨RX7, "needs", "(II)I"⟩
abbrev cX7_order : ByteArray := prog_9_method_46_code
def yX7_order : MethodName := ⟨RX7, "order", "()I"⟩
abbrev cX7_feed : ByteArray := prog_9_method_47_code
def yX7_feed : MethodName := ⟨RX7, "feed", "(I)I"⟩
abbrev cX7_here : ByteArray := prog_9_method_48_code
def yX7_here : MethodName := ⟨RX7, "here", "()I"⟩
abbrev cX7_mustBe : ByteArray := prog_9_method_49_code
def yX7_mustBe : MethodName := ⟨RX7, "mustBe", "(Z)V"⟩
abbrev cX7_digitRead : ByteArray := prog_9_method_50_code
def yX7_digitRead : MethodName := ⟨RX7, "digitRead", "()I"⟩
abbrev cX7_readFund : ByteArray := prog_9_method_51_code
def yX7_readFund : MethodName := ⟨RX7, "readFund", "(I)V"⟩
abbrev cX7_readClause : ByteArray := prog_9_method_52_code
def yX7_readClause : MethodName := ⟨RX7, "readClause", "()V"⟩
abbrev cX7_readFunds : ByteArray := prog_9_method_53_code
def yX7_readFunds : MethodName := ⟨RX7, "readFunds", "()Z"⟩
abbrev cX7_fundComes : ByteArray := prog_9_method_54_code
def yX7_fundComes : MethodName := ⟨RX7, "fundComes", "(I)Z"⟩
abbrev cX7_fund : ByteArray := prog_9_method_55_code
def yX7_fund : MethodName := ⟨RX7, "fund", "()I"⟩
abbrev cX7_wrongQuanta : ByteArray := prog_9_method_56_code
def yX7_wrongQuanta : MethodName := ⟨RX7, "wrongQuanta", "(I)I"⟩
abbrev cX7_draw : ByteArray := prog_9_method_57_code
def yX7_draw : MethodName := ⟨RX7, "draw", "(II)I"⟩
abbrev cX7_stride : ByteArray := prog_9_method_58_code
def yX7_stride : MethodName := ⟨RX7, "stride", "(I)I"⟩
abbrev cX7_readyBits : ByteArray := prog_9_method_59_code
def yX7_readyBits : MethodName := ⟨RX7, "readyBits", "()I"⟩
abbrev cX7_told : ByteArray := prog_9_method_60_code
def yX7_told : MethodName := ⟨RX7, "told", "(I)I"⟩
abbrev cX7_on : ByteArray := prog_9_method_61_code
def yX7_on : MethodName := ⟨RX7, "on", "(III)I"⟩
abbrev cX7_by : ByteArray := prog_9_method_62_code
def yX7_by : MethodName := ⟨RX7, "by", "(II)I"⟩
abbrev cX7_divisor : ByteArray := prog_9_method_63_code
def yX7_divisor : MethodName := ⟨RX7, "divisor", "(JJ)J"⟩
abbrev cX7_partOf : ByteArray := prog_9_method_64_code
def yX7_partOf : MethodName := ⟨RX7, "partOf", "(JJI)J"⟩
abbrev cX7_lag : ByteArray := prog_9_method_65_code
def yX7_lag : MethodName := ⟨RX7, "lag", "(III)J"⟩
abbrev cX7_lossOf : ByteArray := prog_9_method_66_code
def yX7_lossOf : MethodName := ⟨RX7, "lossOf", "(I)I"⟩
abbrev cX7_raiseOf : ByteArray := prog_9_method_67_code
def yX7_raiseOf : MethodName := ⟨RX7, "raiseOf", "(II)I"⟩
abbrev cX7_best : ByteArray := prog_9_method_68_code
def yX7_best : MethodName := ⟨RX7, "best", "(II)I"⟩
abbrev cX7_see : ByteArray := prog_9_method_69_code
def yX7_see : MethodName := ⟨RX7, "see", "(II)I"⟩
abbrev cX7_isSeen : ByteArray := prog_9_method_70_code
def yX7_isSeen : MethodName := ⟨RX7, "isSeen", "(II)Z"⟩
abbrev cX7_allSeen : ByteArray := prog_9_method_71_code
def yX7_allSeen : MethodName := ⟨RX7, "allSeen", "(I)Z"⟩
abbrev cX7_seeds : ByteArray := prog_9_method_72_code
def yX7_seeds : MethodName := ⟨RX7, "seeds", "()I"⟩
abbrev cX7_can : ByteArray := prog_9_method_73_code
def yX7_can : MethodName := ⟨RX7, "can", "(III)I"⟩
abbrev cX7_odds : ByteArray := prog_9_method_74_code
def yX7_odds : MethodName := ⟨RX7, "odds", "(II)J"⟩
abbrev cX7_ranAll : ByteArray := prog_9_method_75_code
def yX7_ranAll : MethodName := ⟨RX7, "ranAll", "()J"⟩
abbrev cX7_mean : ByteArray := prog_9_method_76_code
def yX7_mean : MethodName := ⟨RX7, "mean", "(I)J"⟩
abbrev cX7_plan : ByteArray := prog_9_method_77_code
def yX7_plan : MethodName := ⟨RX7, "plan", "(II)I"⟩
abbrev cX7_planned : ByteArray := prog_9_method_78_code
def yX7_planned : MethodName := ⟨RX7, "planned", "(I)V"⟩
abbrev cX7_ends : ByteArray := prog_9_method_79_code
def yX7_ends : MethodName := ⟨RX7, "ends", "(I)I"⟩
abbrev cX7_book : ByteArray := prog_9_method_80_code
def yX7_book : MethodName := ⟨RX7, "book", "(II)I"⟩
abbrev cX7_looked : ByteArray := prog_9_method_81_code
def yX7_looked : MethodName := ⟨RX7, "looked", "()I"⟩
abbrev cX7_aboveOf : ByteArray := prog_9_method_82_code
def yX7_aboveOf : MethodName := ⟨RX7, "aboveOf", "(I)I"⟩
abbrev cX7_taken : ByteArray := prog_9_method_83_code
def yX7_taken : MethodName := ⟨RX7, "taken", "(II)I"⟩
abbrev cX7_count : ByteArray := prog_9_method_84_code
def yX7_count : MethodName := ⟨RX7, "count", "(I)I"⟩
abbrev cX7_isTape : ByteArray := prog_9_method_85_code
def yX7_isTape : MethodName := ⟨RX7, "isTape", "(I)Z"⟩
abbrev cX7_tape : ByteArray := prog_9_method_86_code
def yX7_tape : MethodName := ⟨RX7, "tape", "(III)I"⟩
abbrev cX7_narrowed : ByteArray := prog_9_method_87_code
def yX7_narrowed : MethodName := ⟨RX7, "narrowed", "(JI)J"⟩
abbrev cX7_item : ByteArray := prog_9_method_88_code
def yX7_item : MethodName := ⟨RX7, "item", "(IIJ)I"⟩
abbrev cX7_read : ByteArray := prog_9_method_89_code
def yX7_read : MethodName := ⟨RX7, "read", "(II)J"⟩
abbrev cX7_shift : ByteArray := prog_9_method_90_code
def yX7_shift : MethodName := ⟨RX7, "shift", "(IIIII)I"⟩
abbrev cX7_judge : ByteArray := prog_9_method_91_code
def yX7_judge : MethodName := ⟨RX7, "judge", "(II)I"⟩
abbrev vwCl : List vw_C := [(RX0, TX0, 5), (RX1, TX1, 7), (RX2, TX2, 18), (RX3, TX3, 3), (RX4, TX4, 3), (RX5, TX5, 9), (RX6, TX6, 10), (RX7, TX7, 51)]
theorem tk_inX0 : ∀ w ∈ wsX00, w ∈ tk_tbl := tk_sub [257, 259, 261, 263, 265] (by decide +kernel) (by decide +kernel)
theorem tk_inX1 : ∀ w ∈ wsX10, w ∈ tk_tbl := tk_sub [285, 287, 289, 291, 293, 295, 297] (by decide +kernel) (by decide +kernel)
theorem tk_inX2 : ∀ w ∈ wsX20, w ∈ tk_tbl := tk_sub [163, 165, 167, 169, 171, 173, 175, 177, 179, 181, 183, 185, 187, 189, 191, 193, 195, 197] (by decide +kernel) (by decide +kernel)
theorem tk_inX3 : ∀ w ∈ wsX30, w ∈ tk_tbl := tk_sub [108, 110, 112] (by decide +kernel) (by decide +kernel)
theorem tk_inX4 : ∀ w ∈ wsX40, w ∈ tk_tbl := tk_sub [314, 316, 318] (by decide +kernel) (by decide +kernel)
theorem tk_inX5 : ∀ w ∈ wsX50, w ∈ tk_tbl := tk_sub [228, 230, 232, 234, 236, 238, 240, 242, 244] (by decide +kernel) (by decide +kernel)
theorem tk_inX6 : ∀ w ∈ wsX60, w ∈ tk_tbl := tk_sub [331, 333, 335, 337, 339, 341, 343, 345, 347, 349] (by decide +kernel) (by decide +kernel)
theorem tk_inX7 : ∀ w ∈ wsX70, w ∈ tk_tbl := tk_sub [892, 894, 896, 898, 900, 902, 904, 906, 908, 910, 912, 914, 916, 918, 920, 922, 924, 926, 928, 930, 932, 934, 936, 938, 940, 942, 944, 946, 948, 950, 952, 954, 956, 958, 960, 962, 964, 966, 968, 970, 972, 974, 976, 978, 980, 982, 984, 986, 988, 990, 992] (by decide +kernel) (by decide +kernel)
end
section
/-- what the fields of a class are -/
def tk_ct (ci : Nat) : List Int := match ci with
  | 0 => [980, 1002, 1001, 0, 1]
  | 1 => [0, 0, 0, 4, 0, 0, 0]
  | 2 => [0, 0, 0, 0, 0, 1001, 1002, 1003, 1004, 1005, 1006, 1007, 1008, 1009, 1010, 1011, 1014, 1017]
  | 3 => [0, 1001, 1002]
  | 4 => [0, 0, 1001]
  | 5 => [978, 1001, 1002, 1003, 1004, 1005, 1006, 1007, 0]
  | 6 => [1001, 1021, 1031, 1051, 1061, 4, 1081, 0, 1082, 1083]
  | 7 => [0, 0, 1001, 1002, 1003, 0, 1004, 1005, 1006, 1007, 1008, 1009, 1010, 0, 0, 0, 1011, 1012, 0, 1013, 1014, 0, 1015, 1016, 0, 1017, 1018, 4, 0, 4, 2, 1019, 1020, 1021, 1022, 1023, 1024, 0, 1025, 0, 0, 4, 1026, 1027, 1028, 0, 1029, 1030, 1031, 1032, 1033]
  | _ => []
/-- the cells, in the order in which they come: an object of a class, or an array of a type and a length -/
def tk_lay : List (Nat ⊕ (Nat × Nat)) := [.inl 6, .inl 2, .inr (0, 24), .inr (0, 24), .inr (0, 24), .inr (0, 8), .inr (0, 8), .inr (0, 8), .inr (0, 8), .inr (0, 8), .inr (0, 8), .inr (0, 32), .inl 3, .inr (0, 5), .inr (0, 5), .inl 3, .inr (0, 10), .inr (0, 10), .inl 3, .inr (0, 8), .inr (0, 8), .inl 0, .inr (1, 8), .inl 5, .inr (0, 6), .inr (0, 24), .inr (1, 6), .inr (1, 6), .inr (1, 24), .inr (1, 8), .inr (1, 8), .inl 2, .inr (0, 24), .inr (0, 24), .inr (0, 24), .inr (0, 8), .inr (0, 8), .inr (0, 8), .inr (0, 8), .inr (0, 8), .inr (0, 8), .inr (0, 32), .inl 3, .inr (0, 5), .inr (0, 5), .inl 3, .inr (0, 10), .inr (0, 10), .inl 3, .inr (0, 8), .inr (0, 8), .inl 0, .inr (1, 8), .inl 5, .inr (0, 6), .inr (0, 24), .inr (1, 6), .inr (1, 6), .inr (1, 24), .inr (1, 8), .inr (1, 8), .inl 2, .inr (0, 24), .inr (0, 24), .inr (0, 24), .inr (0, 8), .inr (0, 8), .inr (0, 8), .inr (0, 8), .inr (0, 8), .inr (0, 8), .inr (0, 32), .inl 3, .inr (0, 5), .inr (0, 5), .inl 3, .inr (0, 10), .inr (0, 10), .inl 3, .inr (0, 8), .inr (0, 8), .inr (5, 100), .inl 1, .inr (9, 6), .inl 4, .inr (1, 60), .inl 4, .inr (1, 60), .inl 4, .inr (1, 60), .inl 4, .inr (1, 60), .inl 4, .inr (1, 60), .inl 4, .inr (1, 60), .inl 7, .inr (0, 24), .inr (0, 24), .inr (0, 24), .inr (0, 8), .inr (0, 8), .inr (0, 8), .inr (0, 8), .inr (0, 8), .inr (0, 8), .inr (0, 32), .inr (0, 5), .inr (0, 5), .inr (0, 10), .inr (0, 10), .inr (0, 8), .inr (0, 8), .inr (0, 210), .inr (0, 210), .inr (0, 6), .inr (1, 6), .inr (1, 6), .inr (1, 6), .inr (1, 8), .inr (1, 8), .inr (0, 100), .inr (0, 51), .inr (0, 51), .inr (0, 51), .inr (0, 6), .inr (0, 6), .inr (1, 360), .inr (1, 60), .inr (4, 6)]
def tk_un (j : Nat) : Int := match j with
  | 0 => -1
  | 1 => 0
  | 2 => 0
  | 3 => 0
  | 4 => 1
  | 5 => 2
  | _ => 3
/-- of which class a cell is -/
def tk_isC (ci : Nat) (o : Int) : Prop := match ci with
  | 0 => o = 21 ∨ o = 51
  | 1 => o = 82
  | 2 => o = 1 ∨ o = 31 ∨ o = 61
  | 3 => o = 12 ∨ o = 15 ∨ o = 18 ∨ o = 42 ∨ o = 45 ∨ o = 48 ∨ o = 72 ∨ o = 75 ∨ o = 78
  | 4 => o = 84 ∨ o = 86 ∨ o = 88 ∨ o = 90 ∨ o = 92 ∨ o = 94
  | 5 => o = 23 ∨ o = 53
  | 6 => o = 0
  | 7 => o = 96
  | _ => False
theorem tk_isC_lay {ci : Nat} {o : Int} (h : tk_isC ci o) : 0 ≤ o ∧ tk_lay[o.toNat]? = some (.inl ci) := by
  unfold tk_isC at h
  split at h
  · rcases h with rfl | rfl <;> exact ⟨by decide, by decide +kernel⟩
  · subst h; exact ⟨by decide, by decide +kernel⟩
  · rcases h with rfl | rfl | rfl <;> exact ⟨by decide, by decide +kernel⟩
  · rcases h with rfl | rfl | rfl | rfl | rfl | rfl | rfl | rfl | rfl <;> exact ⟨by decide, by decide +kernel⟩
  · rcases h with rfl | rfl | rfl | rfl | rfl | rfl <;> exact ⟨by decide, by decide +kernel⟩
  · rcases h with rfl | rfl <;> exact ⟨by decide, by decide +kernel⟩
  · subst h; exact ⟨by decide, by decide +kernel⟩
  · subst h; exact ⟨by decide, by decide +kernel⟩
  · exact h.elim
/-- how long an array of a type is; 0 where there is none -/
def tk_al (t : Nat) (o : Int) : Int := if o < 0 then 0 else match tk_lay[o.toNat]? with
  | some (.inr (t', n)) => if t' = t then (n : Int) else 0
  | _ => 0
theorem tk_al_lay {t : Nat} {o i : Int} (h0 : 0 ≤ i) (h : i < tk_al t o) : 0 ≤ o ∧ ∃ n : Nat, tk_al t o = n ∧ tk_lay[o.toNat]? = some (.inr (t, n)) := by
  unfold tk_al at h ⊢
  by_cases ho : o < 0
  · rw [if_pos ho] at h; omega
  · rw [if_neg ho] at h ⊢
    refine ⟨by omega, ?_⟩
    revert h
    cases hk : tk_lay[o.toNat]? with
    | none => intro h; simp at h; omega
    | some k =>
      cases k with
      | inl c => intro h; simp at h; omega
      | inr q =>
        obtain ⟨t', n⟩ := q
        by_cases ht : t' = t
        · subst ht; intro h; exact ⟨n, by simp, rfl⟩
        · intro h; simp [ht] at h; omega
theorem tk_al_2 : tk_al 0 2 = 24 := by decide +kernel
theorem tk_al_3 : tk_al 0 3 = 24 := by decide +kernel
theorem tk_al_4 : tk_al 0 4 = 24 := by decide +kernel
theorem tk_al_5 : tk_al 0 5 = 8 := by decide +kernel
theorem tk_al_6 : tk_al 0 6 = 8 := by decide +kernel
theorem tk_al_7 : tk_al 0 7 = 8 := by decide +kernel
theorem tk_al_8 : tk_al 0 8 = 8 := by decide +kernel
theorem tk_al_9 : tk_al 0 9 = 8 := by decide +kernel
theorem tk_al_10 : tk_al 0 10 = 8 := by decide +kernel
theorem tk_al_11 : tk_al 0 11 = 32 := by decide +kernel
theorem tk_al_13 : tk_al 0 13 = 5 := by decide +kernel
theorem tk_al_14 : tk_al 0 14 = 5 := by decide +kernel
theorem tk_al_16 : tk_al 0 16 = 10 := by decide +kernel
theorem tk_al_17 : tk_al 0 17 = 10 := by decide +kernel
theorem tk_al_19 : tk_al 0 19 = 8 := by decide +kernel
theorem tk_al_20 : tk_al 0 20 = 8 := by decide +kernel
theorem tk_al_22 : tk_al 1 22 = 8 := by decide +kernel
theorem tk_al_24 : tk_al 0 24 = 6 := by decide +kernel
theorem tk_al_25 : tk_al 0 25 = 24 := by decide +kernel
theorem tk_al_26 : tk_al 1 26 = 6 := by decide +kernel
theorem tk_al_27 : tk_al 1 27 = 6 := by decide +kernel
theorem tk_al_28 : tk_al 1 28 = 24 := by decide +kernel
theorem tk_al_29 : tk_al 1 29 = 8 := by decide +kernel
theorem tk_al_30 : tk_al 1 30 = 8 := by decide +kernel
theorem tk_al_32 : tk_al 0 32 = 24 := by decide +kernel
theorem tk_al_33 : tk_al 0 33 = 24 := by decide +kernel
theorem tk_al_34 : tk_al 0 34 = 24 := by decide +kernel
theorem tk_al_35 : tk_al 0 35 = 8 := by decide +kernel
theorem tk_al_36 : tk_al 0 36 = 8 := by decide +kernel
theorem tk_al_37 : tk_al 0 37 = 8 := by decide +kernel
theorem tk_al_38 : tk_al 0 38 = 8 := by decide +kernel
theorem tk_al_39 : tk_al 0 39 = 8 := by decide +kernel
theorem tk_al_40 : tk_al 0 40 = 8 := by decide +kernel
theorem tk_al_41 : tk_al 0 41 = 32 := by decide +kernel
theorem tk_al_43 : tk_al 0 43 = 5 := by decide +kernel
theorem tk_al_44 : tk_al 0 44 = 5 := by decide +kernel
theorem tk_al_46 : tk_al 0 46 = 10 := by decide +kernel
theorem tk_al_47 : tk_al 0 47 = 10 := by decide +kernel
theorem tk_al_49 : tk_al 0 49 = 8 := by decide +kernel
theorem tk_al_50 : tk_al 0 50 = 8 := by decide +kernel
theorem tk_al_52 : tk_al 1 52 = 8 := by decide +kernel
theorem tk_al_54 : tk_al 0 54 = 6 := by decide +kernel
theorem tk_al_55 : tk_al 0 55 = 24 := by decide +kernel
theorem tk_al_56 : tk_al 1 56 = 6 := by decide +kernel
theorem tk_al_57 : tk_al 1 57 = 6 := by decide +kernel
theorem tk_al_58 : tk_al 1 58 = 24 := by decide +kernel
theorem tk_al_59 : tk_al 1 59 = 8 := by decide +kernel
theorem tk_al_60 : tk_al 1 60 = 8 := by decide +kernel
theorem tk_al_62 : tk_al 0 62 = 24 := by decide +kernel
theorem tk_al_63 : tk_al 0 63 = 24 := by decide +kernel
theorem tk_al_64 : tk_al 0 64 = 24 := by decide +kernel
theorem tk_al_65 : tk_al 0 65 = 8 := by decide +kernel
theorem tk_al_66 : tk_al 0 66 = 8 := by decide +kernel
theorem tk_al_67 : tk_al 0 67 = 8 := by decide +kernel
theorem tk_al_68 : tk_al 0 68 = 8 := by decide +kernel
theorem tk_al_69 : tk_al 0 69 = 8 := by decide +kernel
theorem tk_al_70 : tk_al 0 70 = 8 := by decide +kernel
theorem tk_al_71 : tk_al 0 71 = 32 := by decide +kernel
theorem tk_al_73 : tk_al 0 73 = 5 := by decide +kernel
theorem tk_al_74 : tk_al 0 74 = 5 := by decide +kernel
theorem tk_al_76 : tk_al 0 76 = 10 := by decide +kernel
theorem tk_al_77 : tk_al 0 77 = 10 := by decide +kernel
theorem tk_al_79 : tk_al 0 79 = 8 := by decide +kernel
theorem tk_al_80 : tk_al 0 80 = 8 := by decide +kernel
theorem tk_al_81 : tk_al 5 81 = 100 := by decide +kernel
theorem tk_al_83 : tk_al 9 83 = 6 := by decide +kernel
theorem tk_al_85 : tk_al 1 85 = 60 := by decide +kernel
theorem tk_al_87 : tk_al 1 87 = 60 := by decide +kernel
theorem tk_al_89 : tk_al 1 89 = 60 := by decide +kernel
theorem tk_al_91 : tk_al 1 91 = 60 := by decide +kernel
theorem tk_al_93 : tk_al 1 93 = 60 := by decide +kernel
theorem tk_al_95 : tk_al 1 95 = 60 := by decide +kernel
theorem tk_al_97 : tk_al 0 97 = 24 := by decide +kernel
theorem tk_al_98 : tk_al 0 98 = 24 := by decide +kernel
theorem tk_al_99 : tk_al 0 99 = 24 := by decide +kernel
theorem tk_al_100 : tk_al 0 100 = 8 := by decide +kernel
theorem tk_al_101 : tk_al 0 101 = 8 := by decide +kernel
theorem tk_al_102 : tk_al 0 102 = 8 := by decide +kernel
theorem tk_al_103 : tk_al 0 103 = 8 := by decide +kernel
theorem tk_al_104 : tk_al 0 104 = 8 := by decide +kernel
theorem tk_al_105 : tk_al 0 105 = 8 := by decide +kernel
theorem tk_al_106 : tk_al 0 106 = 32 := by decide +kernel
theorem tk_al_107 : tk_al 0 107 = 5 := by decide +kernel
theorem tk_al_108 : tk_al 0 108 = 5 := by decide +kernel
theorem tk_al_109 : tk_al 0 109 = 10 := by decide +kernel
theorem tk_al_110 : tk_al 0 110 = 10 := by decide +kernel
theorem tk_al_111 : tk_al 0 111 = 8 := by decide +kernel
theorem tk_al_112 : tk_al 0 112 = 8 := by decide +kernel
theorem tk_al_113 : tk_al 0 113 = 210 := by decide +kernel
theorem tk_al_114 : tk_al 0 114 = 210 := by decide +kernel
theorem tk_al_115 : tk_al 0 115 = 6 := by decide +kernel
theorem tk_al_116 : tk_al 1 116 = 6 := by decide +kernel
theorem tk_al_117 : tk_al 1 117 = 6 := by decide +kernel
theorem tk_al_118 : tk_al 1 118 = 6 := by decide +kernel
theorem tk_al_119 : tk_al 1 119 = 8 := by decide +kernel
theorem tk_al_120 : tk_al 1 120 = 8 := by decide +kernel
theorem tk_al_121 : tk_al 0 121 = 100 := by decide +kernel
theorem tk_al_122 : tk_al 0 122 = 51 := by decide +kernel
theorem tk_al_123 : tk_al 0 123 = 51 := by decide +kernel
theorem tk_al_124 : tk_al 0 124 = 51 := by decide +kernel
theorem tk_al_125 : tk_al 0 125 = 6 := by decide +kernel
theorem tk_al_126 : tk_al 0 126 = 6 := by decide +kernel
theorem tk_al_127 : tk_al 1 127 = 360 := by decide +kernel
theorem tk_al_128 : tk_al 1 128 = 60 := by decide +kernel
theorem tk_al_129 : tk_al 4 129 = 6 := by decide +kernel
/-! ===== the abstract machine: a memory of ints by (object, slot), locals by number; what a piece of code does is a predicate transformer ===== -/
abbrev tk_M : Type := Int → Int → Int
abbrev tk_L : Type := Nat → Int
/-- the world's cells: base, the script's cell, the cell of UNDER, the script's length, the script, the tables' numbers, the arrays' classes -/
abbrev tk_O : Type := Nat × Nat × Nat × Nat × (Nat → Int32) × va_G × (Nat → ClassId)
abbrev tk_bs (ω : tk_O) : Nat := ω.1
abbrev tk_sc (ω : tk_O) : Nat := ω.2.1
abbrev tk_tU (ω : tk_O) : Nat := ω.2.2.1
abbrev tk_Ls (ω : tk_O) : Nat := ω.2.2.2.1
abbrev tk_xs (ω : tk_O) : Nat → Int32 := ω.2.2.2.2.1
abbrev tk_D (ω : tk_O) : va_G := ω.2.2.2.2.2.1
abbrev tk_cA (ω : tk_O) : Nat → ClassId := ω.2.2.2.2.2.2
abbrev tk_A (ω : tk_O) : Nat → Prop := fun q => tk_bs ω ≤ q
def tk_up (ρ : tk_L) (k : Nat) (v : Int) : tk_L := fun j => if j = k then v else ρ j
def tk_set (μ : tk_M) (o j v : Int) : tk_M := fun o' j' => if o' = o ∧ j' = j then v else μ o' j'
/-- a value of a type: 0 an int, 1 a long, 2 a cell of the world (below 0: null), 3 the script -/
def tk_v (ω : tk_O) (t : Nat) (v : Int) : Value := match t with
  | 0 => .int (Int32.ofInt v)
  | 1 => .long (Int64.ofInt v)
  | 2 => if v < 0 then .null else .ref (tk_bs ω + v.toNat)
  | _ => .ref (tk_sc ω)
def tk_r (t : Nat) (v : Int) : Prop := match t with
  | 0 => -2147483648 ≤ v ∧ v ≤ 2147483647
  | 1 => -9223372036854775808 ≤ v ∧ v ≤ 9223372036854775807
  | 2 => 0 ≤ v
  | _ => True
/-- what a field or an item may be: 0 an int, 1 a long, 2 a cell or null, 4 a boolean, 5 a byte; from 500 on: the cell so many (less 1000) behind its object -/
def tk_fr (t : Int) (v : Int) : Prop := if t = 1 then tk_r 1 v else if t = 4 then 0 ≤ v ∧ v ≤ 1 else if t = 5 then -128 ≤ v ∧ v ≤ 127 else if t = 0 then tk_r 0 v else True
def tk_fv (ω : tk_O) (μ : tk_M) (o j : Nat) (t : Int) : Value :=
  if 500 ≤ t then .ref (tk_bs ω + ((o : Int) + (t - 1000)).toNat) else if t = 1 then .long (Int64.ofInt (μ o j)) else if t = 2 then tk_v ω 2 (μ o j) else .int (Int32.ofInt (μ o j))
def tk_ce (ω : tk_O) (μ : tk_M) (o : Nat) (k : Nat ⊕ (Nat × Nat)) : va_E := match k with
  | .inl ci => .inr (ci, (tk_ct ci).mapIdx (fun j t => tk_fv ω μ o j t))
  | .inr (t, n) => if t = 9 then .inl (tk_cA ω 4, n, .inr (.inr (.inr (.inr (fun j => some (tk_bs ω + (o + 1 + 2 * j)))))))
    else if t = 1 then .inl (tk_cA ω 3, n, .inr (.inl (fun j => Int64.ofInt (μ o j))))
    else .inl (tk_cA ω (if t = 5 then 1 else if t = 4 then 2 else 0), n, .inl (fun j => Int32.ofInt (μ o j)))
def tk_ws (ω : tk_O) (μ : tk_M) : va_W := tk_lay.mapIdx (fun o k => (tk_bs ω + o, tk_ce ω μ o k))
def tk_ty (ω : tk_O) : List (ClassId × FieldType) := [(tk_cA ω 0, .int), (tk_cA ω 1, .byte), (tk_cA ω 2, .boolean), (tk_cA ω 3, .long), (tk_cA ω 4, .object "TicketHall$Tape")]
def tk_ok (μ : tk_M) (o : Nat) (k : Nat ⊕ (Nat × Nat)) : Prop := match k with
  | .inl ci => ∀ (j : Nat) (t : Int), (tk_ct ci)[j]? = some t → tk_fr t (μ o j)
  | .inr (t, n) => ∀ j : Nat, j < n → tk_fr t (μ o j)
def tk_in (μ : tk_M) : Prop := ∀ (o : Nat) (k : Nat ⊕ (Nat × Nat)), tk_lay[o]? = some k → tk_ok μ o k
def tk_P (ω : tk_O) (μ : tk_M) (H : Heap) : Prop := va_P (tk_D ω) vwCl (tk_ws ω μ) H ∧ tk_in μ
/-- what stays: the tables, UNDER, the script -/
def tk_S (ω : tk_O) (U : State) : Prop := va_K (tk_D ω) vwCl (tk_ty ω) U ∧ va_Z "TicketHall" "UNDER" "[I" (.ref (tk_tU ω)) (tk_A ω) U U.heap ∧ va_T .int (tk_tU ω) 7 (fun j => .int (Int32.ofInt (tk_un j))) (tk_A ω) U U.heap ∧ va_X (tk_sc ω) (tk_Ls ω) (tk_xs ω) U U.heap ∧ ¬ tk_A ω (tk_sc ω) ∧ ∀ w ∈ tk_nw, va_Nw w U
theorem tk_S.to {ω : tk_O} {u U : State} (h : tk_S ω u) (hvm : u.vm.Alike U.vm) (hnw : ∀ w ∈ tk_nw, va_Nw w u → va_Nw w U) (hq : ∀ a : Nat, a < u.heap.size → ¬ tk_A ω a → U.heap[a]? = u.heap[a]?) : tk_S ω U := by
  obtain ⟨h1, h2, h3, h4, h5, h6⟩ := h
  have hs : tk_sc ω < u.heap.size := by
    obtain ⟨scr, g1, -⟩ := h4
    exact (Array.getElem?_eq_some_iff.mp g1).1
  exact ⟨h1.moved hvm, (h2.kept hq).moved hvm, (h3.kept hq).moved hvm, (h4.kept (hq _ hs h5)).moved hvm, h5, fun w hw => hnw w hw (h6 w hw)⟩
theorem tk_ws_at {ω : tk_O} {μ : tk_M} {o : Nat} {k : Nat ⊕ (Nat × Nat)} (h : tk_lay[o]? = some k) : (tk_ws ω μ)[o]? = some (tk_bs ω + o, tk_ce ω μ o k) := by
  unfold tk_ws
  rw [List.getElem?_mapIdx, h]
  rfl
theorem tk_ws_of {ω : tk_O} {μ : tk_M} {o : Nat} {q : Nat × va_E} (h : (tk_ws ω μ)[o]? = some q) : ∃ k, tk_lay[o]? = some k ∧ q = (tk_bs ω + o, tk_ce ω μ o k) := by
  unfold tk_ws at h
  rw [List.getElem?_mapIdx] at h
  cases hk : tk_lay[o]? with
  | none => rw [hk] at h; cases h
  | some k => rw [hk] at h; exact ⟨k, rfl, (Option.some.inj h).symm⟩
theorem tk_wD {ω : tk_O} {μ : tk_M} : va_D (tk_A ω) (tk_ws ω μ) := by
  refine ⟨fun i j p q hi hj hpq => ?_, fun k q hk => ?_⟩
  · obtain ⟨_, -, rfl⟩ := tk_ws_of hi
    obtain ⟨_, -, rfl⟩ := tk_ws_of hj
    have h2 : tk_bs ω + i = tk_bs ω + j := hpq
    omega
  · obtain ⟨_, -, rfl⟩ := tk_ws_of hk
    exact Nat.le_add_right _ _
/-- a world in which one cell was set is the world of the new memory -/
theorem tk_ws_put {ω : tk_O} {μ μ' : tk_M} {o : Nat} {k : Nat ⊕ (Nat × Nat)} {e : va_E} (h : tk_lay[o]? = some k) (he : e = tk_ce ω μ' o k) (hne : ∀ o' : Nat, o' ≠ o → ∀ j, μ' o' j = μ o' j) : (tk_ws ω μ).set o (tk_bs ω + o, e) = tk_ws ω μ' := by
  apply List.ext_getElem?
  intro i
  have hl := (List.getElem?_eq_some_iff.mp (tk_ws_at (ω := ω) (μ := μ) h)).1
  by_cases hi : i = o
  · subst hi
    rw [List.getElem?_set_self hl, tk_ws_at h, he]
  · rw [List.getElem?_set_ne (Ne.symm hi)]
    unfold tk_ws
    rw [List.getElem?_mapIdx, List.getElem?_mapIdx]
    cases tk_lay[i]? with
    | none => rfl
    | some k' =>
      have h3 : ∀ j, μ' (i : Int) j = μ i j := hne i hi
      have h4 : tk_ce ω μ i k' = tk_ce ω μ' i k' := by
        cases k' with
        | inl ci => simp only [tk_ce, tk_fv, h3]
        | inr q => obtain ⟨t, n⟩ := q; simp only [tk_ce, h3]
      simp only [Option.map_some, h4]
theorem tk_in_put {μ μ' : tk_M} {o : Nat} {k : Nat ⊕ (Nat × Nat)} (hin : tk_in μ) (h : tk_lay[o]? = some k) (hk : tk_ok μ' o k) (hne : ∀ o' : Nat, o' ≠ o → ∀ j, μ' o' j = μ o' j) : tk_in μ' := by
  intro o' k' h'
  by_cases ho : o' = o
  · subst ho
    rw [h] at h'
    cases h'
    exact hk
  · have h3 : ∀ j, μ' (o' : Int) j = μ o' j := hne o' ho
    have h0 := hin o' k' h'
    cases k' with
    | inl ci => intro j t hj; rw [h3]; exact h0 j t hj
    | inr q => obtain ⟨t, n⟩ := q; intro j hj; rw [h3]; exact h0 j hj
end
section
/-! ===== the context of a walk, and what it is that a piece of code does ===== -/
abbrev tk_K : Type := Program × Launch × Env × State × MethodId × Array Value × List Frame × Method × Code × Nat × Nat × (State → Prop) × tk_O
abbrev tk_N : Type := ByteArray × String × Nat × Room × Option (Nat × (Nat → Int32))
abbrev tk_s (κ : tk_K) : State := κ.2.2.2.1
abbrev tk_m (κ : tk_K) : MethodId := κ.2.2.2.2.1
abbrev tk_ar (κ : tk_K) : Array Value := κ.2.2.2.2.2.1
abbrev tk_be (κ : tk_K) : List Frame := κ.2.2.2.2.2.2.1
abbrev tk_me (κ : tk_K) : Method := κ.2.2.2.2.2.2.2.1
abbrev tk_c (κ : tk_K) : Code := κ.2.2.2.2.2.2.2.2.1
abbrev tk_ce1 (κ : tk_K) : Nat := κ.2.2.2.2.2.2.2.2.2.1
abbrev tk_sl (κ : tk_K) : Nat := κ.2.2.2.2.2.2.2.2.2.2.1
abbrev tk_Z (κ : tk_K) : State → Prop := κ.2.2.2.2.2.2.2.2.2.2.2.1
abbrev tk_ω (κ : tk_K) : tk_O := κ.2.2.2.2.2.2.2.2.2.2.2.2
abbrev tk_W (κ : tk_K) (ν : tk_N) (H : Heap) (locs : List Loc) (pc : Nat) (ls : Array Slot) (st : List Value) : Prop :=
  W κ.1 κ.2.1 κ.2.2.1 ν.2.2.2.1 (tk_s κ) (tk_m κ) (tk_ar κ) (tk_be κ) (tk_me κ) (tk_c κ) H locs (tk_ce1 κ) (tk_sl κ) (tk_Z κ) (F0 (tk_m κ) pc ls st)
def tk_X (κ : tk_K) (ν : tk_N) : Prop := κ.1.tables.exec = Jvm.exec ∧ (tk_c κ).code = ν.1 ∧ (tk_c κ).maxLocals = ν.2.2.1 ∧ (tk_s κ).vm.findClass ν.2.1 = some (tk_m κ).cls ∧ (∀ w ∈ tk_tbl, w.before (tk_ar κ) (tk_s κ) = true) ∧ tk_S (tk_ω κ) (tk_s κ) ∧ tk_ce1 κ ≤ ν.2.2.2.1.cells ∧ tk_sl κ ≤ ν.2.2.2.1.slots ∧ ∀ q, ν.2.2.2.2 = some q → tk_Ls (tk_ω κ) = q.1 ∧ tk_xs (tk_ω κ) = q.2
def tk_lv (ω : tk_O) (Γ : List (Nat × Nat)) (ρ : tk_L) : List (Nat × Value) := Γ.map (fun q => (q.1, tk_v ω q.2 (ρ q.1)))
def tk_rs (Γ : List (Nat × Nat)) (ρ : tk_L) : Prop := ∀ q ∈ Γ, tk_r q.2 (ρ q.1)
def tk_G (κ : tk_K) (ν : tk_N) (Γ : List (Nat × Nat)) (ρ : tk_L) (pc : Nat) (μ : tk_M) (st : List Value) : Prop :=
  ∀ (H : Heap) (ls : Array Slot) (locs : List Loc), tk_P (tk_ω κ) μ H → va_S (tk_A (tk_ω κ)) (tk_s κ).heap H locs → lv_has ls ν.2.2.1 (tk_lv (tk_ω κ) Γ ρ) → tk_W κ ν H locs pc ls st
abbrev tk_sum (st : List Value) : Nat := (st.map fun v => v.category).sum
abbrev tk_Ex : Type := (Int → tk_M → Prop) → tk_L → tk_M → Prop
abbrev tk_Cn : Type := (tk_M → Prop) → (tk_M → Prop) → tk_L → tk_M → Prop
abbrev tk_Sm : Type := (tk_L → tk_M → Prop) → (Int → tk_M → Prop) → tk_L → tk_M → Prop
/-- the code from pc on puts the expression's value on the stack and comes to p1 -/
def tk_E (ν : tk_N) (Γ : List (Nat × Nat)) (d : Nat) (e : tk_Ex) (t pc p1 : Nat) : Prop :=
  ∀ (κ : tk_K), tk_X κ ν → ∀ (st : List Value), tk_sum st ≤ d → ∀ (ρ : tk_L) (μ : tk_M) (Q : Int → tk_M → Prop), tk_rs Γ ρ → e Q ρ μ →
    (∀ v μ', Q v μ' → tk_r t v → tk_G κ ν Γ ρ p1 μ' (tk_v (tk_ω κ) t v :: st)) → tk_G κ ν Γ ρ pc μ st
/-- the code from pc on comes to T where the condition holds, to F where not -/
def tk_Ck (ν : tk_N) (Γ : List (Nat × Nat)) (d : Nat) (C : tk_Cn) (pc T F : Nat) : Prop :=
  ∀ (κ : tk_K), tk_X κ ν → ∀ (st : List Value), tk_sum st ≤ d → ∀ (ρ : tk_L) (μ : tk_M) (Qt Qf : tk_M → Prop), tk_rs Γ ρ → C Qt Qf ρ μ →
    (∀ μ', Qt μ' → tk_G κ ν Γ ρ T μ' st) → (∀ μ', Qf μ' → tk_G κ ν Γ ρ F μ' st) → tk_G κ ν Γ ρ pc μ st
def tk_rt (t : Nat) (v : Int) : Prop := match t with
  | 0 => tk_r 0 v
  | 1 => tk_r 1 v
  | 4 => v = 0 ∨ v = 1
  | _ => True
def tk_ov (ω : tk_O) (t : Nat) (v : Int) : Option Value := match t with
  | 9 => none
  | 1 => some (tk_v ω 1 v)
  | _ => some (tk_v ω 0 v)
def tk_rv (ω : tk_O) (t : Nat) (v : Int) : List Value := (tk_ov ω t v).toList
theorem tk_Xn {κ : tk_K} {ν : tk_N} (X : tk_X κ ν) {w : Cond} (h : w ∈ tk_nw) : w.before (tk_ar κ) (tk_s κ) = true := tk_nw_use h (X.2.2.2.2.2.1.2.2.2.2.2 w h)
def tk_ri (t : Nat) : Instr := match t with
  | 9 => .return_
  | 1 => .lreturn
  | _ => .ireturn
def tk_Rt (κ : tk_K) (ν : tk_N) (t : Nat) (Q : Int → tk_M → Prop) : Prop :=
  ∀ (v : Int) (μ : tk_M) (H : Heap) (ls : Array Slot) (locs : List Loc) (pc : Nat), Q v μ → tk_rt t v → tk_P (tk_ω κ) μ H → va_S (tk_A (tk_ω κ)) (tk_s κ).heap H locs → decode ν.1 pc = .ok (tk_ri t, 1) → tk_W κ ν H locs pc ls (tk_rv (tk_ω κ) t v)
/-- the code from pc on does the statement and comes to L, or returns -/
def tk_St (ν : tk_N) (t : Nat) (Γ Γ' : List (Nat × Nat)) (S : tk_Sm) (pc L : Nat) : Prop :=
  ∀ (κ : tk_K), tk_X κ ν → ∀ (ρ : tk_L) (μ : tk_M) (Qn : tk_L → tk_M → Prop) (Qr : Int → tk_M → Prop), tk_rs Γ ρ → S Qn Qr ρ μ →
    (∀ ρ' μ', Qn ρ' μ' → tk_rs Γ' ρ' → tk_G κ ν Γ' ρ' L μ' []) → tk_Rt κ ν t Qr → tk_G κ ν Γ ρ pc μ []
theorem tk_toI (x : Int32) : Int32.ofInt x.toInt = x := by simp
theorem tk_toL (x : Int64) : Int64.ofInt x.toInt = x := by simp
theorem tk_ofI {x : Int} (h : tk_r 0 x) : (Int32.ofInt x).toInt = x := by
  obtain ⟨h1, h2⟩ := h
  exact Int32.toInt_ofInt_of_le (by simpa using h1) (by show x < 2147483648; omega)
theorem tk_ofL {x : Int} (h : tk_r 1 x) : (Int64.ofInt x).toInt = x := by
  obtain ⟨h1, h2⟩ := h
  exact Int64.toInt_ofInt_of_le (by simpa using h1) (by show x < 9223372036854775808; omega)
theorem tk_r0 (x : Int32) : tk_r 0 x.toInt := by
  have h1 := Int32.le_toInt x
  have h2 := Int32.toInt_lt x
  constructor <;> omega
theorem tk_r1 (x : Int64) : tk_r 1 x.toInt := by
  have h1 := Int64.le_toInt x
  have h2 := Int64.toInt_lt x
  constructor <;> omega
theorem tk_v0 {ω : tk_O} (x : Int32) : tk_v ω 0 x.toInt = .int x := by simp [tk_v]
theorem tk_v1 {ω : tk_O} (x : Int64) : tk_v ω 1 x.toInt = .long x := by simp [tk_v]
theorem tk_sum0 {ω : tk_O} {v : Int} {st : List Value} {d : Nat} (h : tk_sum st ≤ d) : tk_sum (tk_v ω 0 v :: st) ≤ d + 1 := by
  simp only [tk_sum, List.map_cons, List.sum_cons, tk_v, Value.category] at h ⊢
  omega
theorem tk_sum1 {ω : tk_O} {v : Int} {st : List Value} {d : Nat} (h : tk_sum st ≤ d) : tk_sum (tk_v ω 1 v :: st) ≤ d + 2 := by
  simp only [tk_sum, List.map_cons, List.sum_cons, tk_v, Value.category] at h ⊢
  omega
theorem tk_cat {ω : tk_O} {t : Nat} {v : Int} : (tk_v ω t v).category = if t = 1 then 2 else 1 := by
  unfold tk_v
  split
  · rfl
  · rfl
  · split <;> rfl
  · rename_i h1 _
    rw [if_neg (fun z => h1 z)]
    rfl
theorem tk_sumg {ω : tk_O} {t : Nat} {v : Int} {st : List Value} {d : Nat} (h : tk_sum st ≤ d) : tk_sum (tk_v ω t v :: st) ≤ d + (if t = 1 then 2 else 1) := by
  unfold tk_sum at h ⊢
  rw [List.map_cons, List.sum_cons, tk_cat]
  omega
theorem tk_sum2 {ω : tk_O} {v : Int} {st : List Value} {d : Nat} (h : tk_sum st ≤ d) : tk_sum (tk_v ω 2 v :: st) ≤ d + 1 := tk_sumg (t := 2) h
/-! ===== expressions ===== -/
def tk_lit (n : Int) : tk_Ex := fun Q _ μ => Q n μ
def tk_loc (k : Nat) : tk_Ex := fun Q ρ μ => Q (ρ k) μ
def tk_u1 (f : Int → Int) (a : tk_Ex) : tk_Ex := fun Q ρ μ => a (fun x μ1 => Q (f x) μ1) ρ μ
def tk_bin (f : Int → Int → Int) (a b : tk_Ex) : tk_Ex := fun Q ρ μ => a (fun x μ1 => b (fun y μ2 => Q (f x y) μ2) ρ μ1) ρ μ
/-- a division: not by 0 -/
def tk_dv (f : Int → Int → Int) (a b : tk_Ex) : tk_Ex := fun Q ρ μ => a (fun x μ1 => b (fun y μ2 => ¬ y = 0 ∧ Q (f x y) μ2) ρ μ1) ρ μ
def tk_gf (ci : Nat) (j : Int) (a : tk_Ex) : tk_Ex := fun Q ρ μ => a (fun x μ1 => tk_isC ci x ∧ Q (μ1 x j) μ1) ρ μ
def tk_gr (ci : Nat) (dl : Int) (a : tk_Ex) : tk_Ex := fun Q ρ μ => a (fun x μ1 => tk_isC ci x ∧ Q (x + dl) μ1) ρ μ
/-- a field that holds a cell or null: a cell must be there -/
def tk_gn (ci : Nat) (j : Int) (a : tk_Ex) : tk_Ex := fun Q ρ μ => a (fun x μ1 => tk_isC ci x ∧ 0 ≤ μ1 x j ∧ Q (μ1 x j) μ1) ρ μ
def tk_ald (t : Nat) (a b : tk_Ex) : tk_Ex := fun Q ρ μ => a (fun x μ1 => b (fun i μ2 => (0 ≤ i ∧ i < tk_al t x) ∧ Q (μ2 x i) μ2) ρ μ1) ρ μ
def tk_aldq (a b : tk_Ex) : tk_Ex := fun Q ρ μ => a (fun x μ1 => b (fun i μ2 => (0 ≤ i ∧ i < tk_al 9 x) ∧ Q (x + 1 + 2 * i) μ2) ρ μ1) ρ μ
def tk_aln (t : Nat) (a : tk_Ex) : tk_Ex := fun Q ρ μ => a (fun x μ1 => 0 < tk_al t x ∧ Q (tk_al t x) μ1) ρ μ
def tk_unl : tk_Ex := fun Q _ μ => Q 7 μ
def tk_una (a : tk_Ex) : tk_Ex := fun Q ρ μ => a (fun i μ1 => (0 ≤ i ∧ i < 7) ∧ Q (tk_un i.toNat) μ1) ρ μ
def tk_ter (C : tk_Cn) (a b : tk_Ex) : tk_Ex := fun Q ρ μ => C (fun μ1 => a Q ρ μ1) (fun μ1 => b Q ρ μ1) ρ μ
def tk_args : List tk_Ex → (List Int → tk_M → Prop) → tk_L → tk_M → Prop
  | [], Q, _, μ => Q [] μ
  | e :: es, Q, ρ, μ => e (fun v μ1 => tk_args es (fun vs μ2 => Q (v :: vs) μ2) ρ μ1) ρ μ
abbrev tk_F : Type := List Int → (Int → tk_M → Prop) → tk_M → Prop
def tk_cs (F : tk_F) (es : List tk_Ex) : tk_Ex := fun Q ρ μ => tk_args es (fun vs μ1 => F vs Q μ1) ρ μ
def tk_cv (ci : Nat) (F : tk_F) (es : List tk_Ex) : tk_Ex := fun Q ρ μ => tk_args es (fun vs μ1 => tk_isC ci (vs.headD 0) ∧ F vs Q μ1) ρ μ

def tk_iadd (x y : Int) : Int := ((Int32.ofInt x) + (Int32.ofInt y)).toInt
theorem tk_ok_iadd {ν : tk_N} {Γ : List (Nat × Nat)} {d pc p1 p2 : Nat} {a b : tk_Ex} (ha : tk_E ν Γ d a 0 pc p1) (hb : tk_E ν Γ (d + 1) b 0 p1 p2) (hd : decode ν.1 p2 = .ok (.iadd, 1)) : tk_E ν Γ d (tk_bin tk_iadd a b) 0 pc (p2 + 1) := by
  intro κ X st hst ρ μ Q hr h k
  refine ha κ X st hst ρ μ _ hr h (fun x μ1 h1 _ => ?_)
  refine hb κ X _ (tk_sum0 hst) ρ μ1 _ hr h1 (fun y μ2 h2 _ H ls locs hP hS hl => ?_)
  have h3 := k _ μ2 h2 (tk_r0 _) H ls locs hP hS hl
  rw [tk_iadd, tk_v0] at h3
  exact lv_iadd X.1 X.2.1 hd h3
def tk_isub (x y : Int) : Int := ((Int32.ofInt x) - (Int32.ofInt y)).toInt
theorem tk_ok_isub {ν : tk_N} {Γ : List (Nat × Nat)} {d pc p1 p2 : Nat} {a b : tk_Ex} (ha : tk_E ν Γ d a 0 pc p1) (hb : tk_E ν Γ (d + 1) b 0 p1 p2) (hd : decode ν.1 p2 = .ok (.isub, 1)) : tk_E ν Γ d (tk_bin tk_isub a b) 0 pc (p2 + 1) := by
  intro κ X st hst ρ μ Q hr h k
  refine ha κ X st hst ρ μ _ hr h (fun x μ1 h1 _ => ?_)
  refine hb κ X _ (tk_sum0 hst) ρ μ1 _ hr h1 (fun y μ2 h2 _ H ls locs hP hS hl => ?_)
  have h3 := k _ μ2 h2 (tk_r0 _) H ls locs hP hS hl
  rw [tk_isub, tk_v0] at h3
  exact lv_isub X.1 X.2.1 hd h3
def tk_imul (x y : Int) : Int := ((Int32.ofInt x) * (Int32.ofInt y)).toInt
theorem tk_ok_imul {ν : tk_N} {Γ : List (Nat × Nat)} {d pc p1 p2 : Nat} {a b : tk_Ex} (ha : tk_E ν Γ d a 0 pc p1) (hb : tk_E ν Γ (d + 1) b 0 p1 p2) (hd : decode ν.1 p2 = .ok (.imul, 1)) : tk_E ν Γ d (tk_bin tk_imul a b) 0 pc (p2 + 1) := by
  intro κ X st hst ρ μ Q hr h k
  refine ha κ X st hst ρ μ _ hr h (fun x μ1 h1 _ => ?_)
  refine hb κ X _ (tk_sum0 hst) ρ μ1 _ hr h1 (fun y μ2 h2 _ H ls locs hP hS hl => ?_)
  have h3 := k _ μ2 h2 (tk_r0 _) H ls locs hP hS hl
  rw [tk_imul, tk_v0] at h3
  exact lv_imul X.1 X.2.1 hd h3
def tk_iand (x y : Int) : Int := ((Int32.ofInt x) &&& (Int32.ofInt y)).toInt
theorem tk_ok_iand {ν : tk_N} {Γ : List (Nat × Nat)} {d pc p1 p2 : Nat} {a b : tk_Ex} (ha : tk_E ν Γ d a 0 pc p1) (hb : tk_E ν Γ (d + 1) b 0 p1 p2) (hd : decode ν.1 p2 = .ok (.iand, 1)) : tk_E ν Γ d (tk_bin tk_iand a b) 0 pc (p2 + 1) := by
  intro κ X st hst ρ μ Q hr h k
  refine ha κ X st hst ρ μ _ hr h (fun x μ1 h1 _ => ?_)
  refine hb κ X _ (tk_sum0 hst) ρ μ1 _ hr h1 (fun y μ2 h2 _ H ls locs hP hS hl => ?_)
  have h3 := k _ μ2 h2 (tk_r0 _) H ls locs hP hS hl
  rw [tk_iand, tk_v0] at h3
  exact lv_iand X.1 X.2.1 hd h3
def tk_ior (x y : Int) : Int := ((Int32.ofInt x) ||| (Int32.ofInt y)).toInt
theorem tk_ok_ior {ν : tk_N} {Γ : List (Nat × Nat)} {d pc p1 p2 : Nat} {a b : tk_Ex} (ha : tk_E ν Γ d a 0 pc p1) (hb : tk_E ν Γ (d + 1) b 0 p1 p2) (hd : decode ν.1 p2 = .ok (.ior, 1)) : tk_E ν Γ d (tk_bin tk_ior a b) 0 pc (p2 + 1) := by
  intro κ X st hst ρ μ Q hr h k
  refine ha κ X st hst ρ μ _ hr h (fun x μ1 h1 _ => ?_)
  refine hb κ X _ (tk_sum0 hst) ρ μ1 _ hr h1 (fun y μ2 h2 _ H ls locs hP hS hl => ?_)
  have h3 := k _ μ2 h2 (tk_r0 _) H ls locs hP hS hl
  rw [tk_ior, tk_v0] at h3
  exact lv_ior X.1 X.2.1 hd h3
def tk_ixor (x y : Int) : Int := ((Int32.ofInt x) ^^^ (Int32.ofInt y)).toInt
theorem tk_ok_ixor {ν : tk_N} {Γ : List (Nat × Nat)} {d pc p1 p2 : Nat} {a b : tk_Ex} (ha : tk_E ν Γ d a 0 pc p1) (hb : tk_E ν Γ (d + 1) b 0 p1 p2) (hd : decode ν.1 p2 = .ok (.ixor, 1)) : tk_E ν Γ d (tk_bin tk_ixor a b) 0 pc (p2 + 1) := by
  intro κ X st hst ρ μ Q hr h k
  refine ha κ X st hst ρ μ _ hr h (fun x μ1 h1 _ => ?_)
  refine hb κ X _ (tk_sum0 hst) ρ μ1 _ hr h1 (fun y μ2 h2 _ H ls locs hP hS hl => ?_)
  have h3 := k _ μ2 h2 (tk_r0 _) H ls locs hP hS hl
  rw [tk_ixor, tk_v0] at h3
  exact lv_ixor X.1 X.2.1 hd h3
def tk_ishl (x y : Int) : Int := ((Int32.ofInt x) <<< ((Int32.ofInt y) &&& 31)).toInt
theorem tk_ok_ishl {ν : tk_N} {Γ : List (Nat × Nat)} {d pc p1 p2 : Nat} {a b : tk_Ex} (ha : tk_E ν Γ d a 0 pc p1) (hb : tk_E ν Γ (d + 1) b 0 p1 p2) (hd : decode ν.1 p2 = .ok (.ishl, 1)) : tk_E ν Γ d (tk_bin tk_ishl a b) 0 pc (p2 + 1) := by
  intro κ X st hst ρ μ Q hr h k
  refine ha κ X st hst ρ μ _ hr h (fun x μ1 h1 _ => ?_)
  refine hb κ X _ (tk_sum0 hst) ρ μ1 _ hr h1 (fun y μ2 h2 _ H ls locs hP hS hl => ?_)
  have h3 := k _ μ2 h2 (tk_r0 _) H ls locs hP hS hl
  rw [tk_ishl, tk_v0] at h3
  exact lv_ishl X.1 X.2.1 hd h3
def tk_ishr (x y : Int) : Int := ((Int32.ofInt x) >>> ((Int32.ofInt y) &&& 31)).toInt
theorem tk_ok_ishr {ν : tk_N} {Γ : List (Nat × Nat)} {d pc p1 p2 : Nat} {a b : tk_Ex} (ha : tk_E ν Γ d a 0 pc p1) (hb : tk_E ν Γ (d + 1) b 0 p1 p2) (hd : decode ν.1 p2 = .ok (.ishr, 1)) : tk_E ν Γ d (tk_bin tk_ishr a b) 0 pc (p2 + 1) := by
  intro κ X st hst ρ μ Q hr h k
  refine ha κ X st hst ρ μ _ hr h (fun x μ1 h1 _ => ?_)
  refine hb κ X _ (tk_sum0 hst) ρ μ1 _ hr h1 (fun y μ2 h2 _ H ls locs hP hS hl => ?_)
  have h3 := k _ μ2 h2 (tk_r0 _) H ls locs hP hS hl
  rw [tk_ishr, tk_v0] at h3
  exact lv_ishr X.1 X.2.1 hd h3
def tk_iushr (x y : Int) : Int := (((Int32.ofInt x).toUInt32 >>> ((Int32.ofInt y).toUInt32 &&& Int32.toUInt32 31)).toInt32).toInt
theorem tk_ok_iushr {ν : tk_N} {Γ : List (Nat × Nat)} {d pc p1 p2 : Nat} {a b : tk_Ex} (ha : tk_E ν Γ d a 0 pc p1) (hb : tk_E ν Γ (d + 1) b 0 p1 p2) (hd : decode ν.1 p2 = .ok (.iushr, 1)) : tk_E ν Γ d (tk_bin tk_iushr a b) 0 pc (p2 + 1) := by
  intro κ X st hst ρ μ Q hr h k
  refine ha κ X st hst ρ μ _ hr h (fun x μ1 h1 _ => ?_)
  refine hb κ X _ (tk_sum0 hst) ρ μ1 _ hr h1 (fun y μ2 h2 _ H ls locs hP hS hl => ?_)
  have h3 := k _ μ2 h2 (tk_r0 _) H ls locs hP hS hl
  rw [tk_iushr, tk_v0] at h3
  exact lv_iushr X.1 X.2.1 hd rfl h3
def tk_ladd (x y : Int) : Int := ((Int64.ofInt x) + (Int64.ofInt y)).toInt
theorem tk_ok_ladd {ν : tk_N} {Γ : List (Nat × Nat)} {d pc p1 p2 : Nat} {a b : tk_Ex} (ha : tk_E ν Γ d a 1 pc p1) (hb : tk_E ν Γ (d + 2) b 1 p1 p2) (hd : decode ν.1 p2 = .ok (.ladd, 1)) : tk_E ν Γ d (tk_bin tk_ladd a b) 1 pc (p2 + 1) := by
  intro κ X st hst ρ μ Q hr h k
  refine ha κ X st hst ρ μ _ hr h (fun x μ1 h1 _ => ?_)
  refine hb κ X _ (tk_sum1 hst) ρ μ1 _ hr h1 (fun y μ2 h2 _ H ls locs hP hS hl => ?_)
  have h3 := k _ μ2 h2 (tk_r1 _) H ls locs hP hS hl
  rw [tk_ladd, tk_v1] at h3
  exact lv_ladd X.1 X.2.1 hd h3
def tk_lsub (x y : Int) : Int := ((Int64.ofInt x) - (Int64.ofInt y)).toInt
theorem tk_ok_lsub {ν : tk_N} {Γ : List (Nat × Nat)} {d pc p1 p2 : Nat} {a b : tk_Ex} (ha : tk_E ν Γ d a 1 pc p1) (hb : tk_E ν Γ (d + 2) b 1 p1 p2) (hd : decode ν.1 p2 = .ok (.lsub, 1)) : tk_E ν Γ d (tk_bin tk_lsub a b) 1 pc (p2 + 1) := by
  intro κ X st hst ρ μ Q hr h k
  refine ha κ X st hst ρ μ _ hr h (fun x μ1 h1 _ => ?_)
  refine hb κ X _ (tk_sum1 hst) ρ μ1 _ hr h1 (fun y μ2 h2 _ H ls locs hP hS hl => ?_)
  have h3 := k _ μ2 h2 (tk_r1 _) H ls locs hP hS hl
  rw [tk_lsub, tk_v1] at h3
  exact lv_lsub X.1 X.2.1 hd h3
def tk_lmul (x y : Int) : Int := ((Int64.ofInt x) * (Int64.ofInt y)).toInt
theorem tk_ok_lmul {ν : tk_N} {Γ : List (Nat × Nat)} {d pc p1 p2 : Nat} {a b : tk_Ex} (ha : tk_E ν Γ d a 1 pc p1) (hb : tk_E ν Γ (d + 2) b 1 p1 p2) (hd : decode ν.1 p2 = .ok (.lmul, 1)) : tk_E ν Γ d (tk_bin tk_lmul a b) 1 pc (p2 + 1) := by
  intro κ X st hst ρ μ Q hr h k
  refine ha κ X st hst ρ μ _ hr h (fun x μ1 h1 _ => ?_)
  refine hb κ X _ (tk_sum1 hst) ρ μ1 _ hr h1 (fun y μ2 h2 _ H ls locs hP hS hl => ?_)
  have h3 := k _ μ2 h2 (tk_r1 _) H ls locs hP hS hl
  rw [tk_lmul, tk_v1] at h3
  exact lv_lmul X.1 X.2.1 hd h3
def tk_land (x y : Int) : Int := ((Int64.ofInt x) &&& (Int64.ofInt y)).toInt
theorem tk_ok_land {ν : tk_N} {Γ : List (Nat × Nat)} {d pc p1 p2 : Nat} {a b : tk_Ex} (ha : tk_E ν Γ d a 1 pc p1) (hb : tk_E ν Γ (d + 2) b 1 p1 p2) (hd : decode ν.1 p2 = .ok (.land, 1)) : tk_E ν Γ d (tk_bin tk_land a b) 1 pc (p2 + 1) := by
  intro κ X st hst ρ μ Q hr h k
  refine ha κ X st hst ρ μ _ hr h (fun x μ1 h1 _ => ?_)
  refine hb κ X _ (tk_sum1 hst) ρ μ1 _ hr h1 (fun y μ2 h2 _ H ls locs hP hS hl => ?_)
  have h3 := k _ μ2 h2 (tk_r1 _) H ls locs hP hS hl
  rw [tk_land, tk_v1] at h3
  exact lv_land X.1 X.2.1 hd h3
def tk_lor (x y : Int) : Int := ((Int64.ofInt x) ||| (Int64.ofInt y)).toInt
theorem tk_ok_lor {ν : tk_N} {Γ : List (Nat × Nat)} {d pc p1 p2 : Nat} {a b : tk_Ex} (ha : tk_E ν Γ d a 1 pc p1) (hb : tk_E ν Γ (d + 2) b 1 p1 p2) (hd : decode ν.1 p2 = .ok (.lor, 1)) : tk_E ν Γ d (tk_bin tk_lor a b) 1 pc (p2 + 1) := by
  intro κ X st hst ρ μ Q hr h k
  refine ha κ X st hst ρ μ _ hr h (fun x μ1 h1 _ => ?_)
  refine hb κ X _ (tk_sum1 hst) ρ μ1 _ hr h1 (fun y μ2 h2 _ H ls locs hP hS hl => ?_)
  have h3 := k _ μ2 h2 (tk_r1 _) H ls locs hP hS hl
  rw [tk_lor, tk_v1] at h3
  exact lv_lor X.1 X.2.1 hd h3
def tk_lshl (x y : Int) : Int := ((Int64.ofInt x) <<< ((Int32.ofInt y).toInt64 &&& 63)).toInt
theorem tk_ok_lshl {ν : tk_N} {Γ : List (Nat × Nat)} {d pc p1 p2 : Nat} {a b : tk_Ex} (ha : tk_E ν Γ d a 1 pc p1) (hb : tk_E ν Γ (d + 2) b 0 p1 p2) (hd : decode ν.1 p2 = .ok (.lshl, 1)) : tk_E ν Γ d (tk_bin tk_lshl a b) 1 pc (p2 + 1) := by
  intro κ X st hst ρ μ Q hr h k
  refine ha κ X st hst ρ μ _ hr h (fun x μ1 h1 _ => ?_)
  refine hb κ X _ (tk_sum1 hst) ρ μ1 _ hr h1 (fun y μ2 h2 _ H ls locs hP hS hl => ?_)
  have h3 := k _ μ2 h2 (tk_r1 _) H ls locs hP hS hl
  rw [tk_lshl, tk_v1] at h3
  exact lv_lshl X.1 X.2.1 hd rfl h3
def tk_idiv (x y : Int) : Int := ((Int32.ofInt x) / (Int32.ofInt y)).toInt
theorem tk_ok_idiv {ν : tk_N} {Γ : List (Nat × Nat)} {d pc p1 p2 : Nat} {a b : tk_Ex} (ha : tk_E ν Γ d a 0 pc p1) (hb : tk_E ν Γ (d + 1) b 0 p1 p2) (hd : decode ν.1 p2 = .ok (.idiv, 1)) : tk_E ν Γ d (tk_dv tk_idiv a b) 0 pc (p2 + 1) := by
  intro κ X st hst ρ μ Q hr h k
  refine ha κ X st hst ρ μ _ hr h (fun x μ1 h1 _ => ?_)
  refine hb κ X _ (tk_sum0 hst) ρ μ1 _ hr h1 (fun y μ2 h2 hy H ls locs hP hS hl => ?_)
  have h3 := k _ μ2 h2.2 (tk_r0 _) H ls locs hP hS hl
  rw [tk_idiv, tk_v0] at h3
  refine lv_idiv X.1 X.2.1 hd (fun z => h2.1 ?_) h3
  have h4 := tk_ofI hy
  rw [z] at h4
  rw [← h4]
  rfl
def tk_irem (x y : Int) : Int := ((Int32.ofInt x) - (Int32.ofInt x) / (Int32.ofInt y) * (Int32.ofInt y)).toInt
theorem tk_ok_irem {ν : tk_N} {Γ : List (Nat × Nat)} {d pc p1 p2 : Nat} {a b : tk_Ex} (ha : tk_E ν Γ d a 0 pc p1) (hb : tk_E ν Γ (d + 1) b 0 p1 p2) (hd : decode ν.1 p2 = .ok (.irem, 1)) : tk_E ν Γ d (tk_dv tk_irem a b) 0 pc (p2 + 1) := by
  intro κ X st hst ρ μ Q hr h k
  refine ha κ X st hst ρ μ _ hr h (fun x μ1 h1 _ => ?_)
  refine hb κ X _ (tk_sum0 hst) ρ μ1 _ hr h1 (fun y μ2 h2 hy H ls locs hP hS hl => ?_)
  have h3 := k _ μ2 h2.2 (tk_r0 _) H ls locs hP hS hl
  rw [tk_irem, tk_v0] at h3
  refine lv_irem X.1 X.2.1 hd (fun z => h2.1 ?_) h3
  have h4 := tk_ofI hy
  rw [z] at h4
  rw [← h4]
  rfl
def tk_ldiv (x y : Int) : Int := ((Int64.ofInt x) / (Int64.ofInt y)).toInt
theorem tk_ok_ldiv {ν : tk_N} {Γ : List (Nat × Nat)} {d pc p1 p2 : Nat} {a b : tk_Ex} (ha : tk_E ν Γ d a 1 pc p1) (hb : tk_E ν Γ (d + 2) b 1 p1 p2) (hd : decode ν.1 p2 = .ok (.ldiv, 1)) : tk_E ν Γ d (tk_dv tk_ldiv a b) 1 pc (p2 + 1) := by
  intro κ X st hst ρ μ Q hr h k
  refine ha κ X st hst ρ μ _ hr h (fun x μ1 h1 _ => ?_)
  refine hb κ X _ (tk_sum1 hst) ρ μ1 _ hr h1 (fun y μ2 h2 hy H ls locs hP hS hl => ?_)
  have h3 := k _ μ2 h2.2 (tk_r1 _) H ls locs hP hS hl
  rw [tk_ldiv, tk_v1] at h3
  refine lv_ldiv X.1 X.2.1 hd (fun z => h2.1 ?_) h3
  have h4 := tk_ofL hy
  rw [z] at h4
  rw [← h4]
  rfl
def tk_lrem (x y : Int) : Int := ((Int64.ofInt x) - (Int64.ofInt x) / (Int64.ofInt y) * (Int64.ofInt y)).toInt
theorem tk_ok_lrem {ν : tk_N} {Γ : List (Nat × Nat)} {d pc p1 p2 : Nat} {a b : tk_Ex} (ha : tk_E ν Γ d a 1 pc p1) (hb : tk_E ν Γ (d + 2) b 1 p1 p2) (hd : decode ν.1 p2 = .ok (.lrem, 1)) : tk_E ν Γ d (tk_dv tk_lrem a b) 1 pc (p2 + 1) := by
  intro κ X st hst ρ μ Q hr h k
  refine ha κ X st hst ρ μ _ hr h (fun x μ1 h1 _ => ?_)
  refine hb κ X _ (tk_sum1 hst) ρ μ1 _ hr h1 (fun y μ2 h2 hy H ls locs hP hS hl => ?_)
  have h3 := k _ μ2 h2.2 (tk_r1 _) H ls locs hP hS hl
  rw [tk_lrem, tk_v1] at h3
  refine lv_lrem X.1 X.2.1 hd (fun z => h2.1 ?_) h3
  have h4 := tk_ofL hy
  rw [z] at h4
  rw [← h4]
  rfl
def tk_ineg (x : Int) : Int := (-(Int32.ofInt x)).toInt
theorem tk_ok_ineg {ν : tk_N} {Γ : List (Nat × Nat)} {d pc p1 : Nat} {a : tk_Ex} (ha : tk_E ν Γ d a 0 pc p1) (hd : decode ν.1 p1 = .ok (.ineg, 1)) : tk_E ν Γ d (tk_u1 tk_ineg a) 0 pc (p1 + 1) := by
  intro κ X st hst ρ μ Q hr h k
  refine ha κ X st hst ρ μ _ hr h (fun x μ1 h1 _ H ls locs hP hS hl => ?_)
  have h3 := k _ μ1 h1 (tk_r0 _) H ls locs hP hS hl
  rw [tk_ineg, tk_v0] at h3
  exact lv_ineg X.1 X.2.1 hd h3
def tk_lneg (x : Int) : Int := (-(Int64.ofInt x)).toInt
theorem tk_ok_lneg {ν : tk_N} {Γ : List (Nat × Nat)} {d pc p1 : Nat} {a : tk_Ex} (ha : tk_E ν Γ d a 1 pc p1) (hd : decode ν.1 p1 = .ok (.lneg, 1)) : tk_E ν Γ d (tk_u1 tk_lneg a) 1 pc (p1 + 1) := by
  intro κ X st hst ρ μ Q hr h k
  refine ha κ X st hst ρ μ _ hr h (fun x μ1 h1 _ H ls locs hP hS hl => ?_)
  have h3 := k _ μ1 h1 (tk_r1 _) H ls locs hP hS hl
  rw [tk_lneg, tk_v1] at h3
  exact lv_lneg X.1 X.2.1 hd h3
def tk_i2b (x : Int) : Int := ((Int32.ofInt x).toInt8.toInt32).toInt
theorem tk_ok_i2b {ν : tk_N} {Γ : List (Nat × Nat)} {d pc p1 : Nat} {a : tk_Ex} (ha : tk_E ν Γ d a 0 pc p1) (hd : decode ν.1 p1 = .ok (.i2b, 1)) : tk_E ν Γ d (tk_u1 tk_i2b a) 0 pc (p1 + 1) := by
  intro κ X st hst ρ μ Q hr h k
  refine ha κ X st hst ρ μ _ hr h (fun x μ1 h1 _ H ls locs hP hS hl => ?_)
  have h3 := k _ μ1 h1 (tk_r0 _) H ls locs hP hS hl
  rw [tk_i2b, tk_v0] at h3
  exact lv_i2b X.1 X.2.1 hd rfl h3
def tk_i2s (x : Int) : Int := ((Int32.ofInt x).toInt16.toInt32).toInt
theorem tk_ok_i2s {ν : tk_N} {Γ : List (Nat × Nat)} {d pc p1 : Nat} {a : tk_Ex} (ha : tk_E ν Γ d a 0 pc p1) (hd : decode ν.1 p1 = .ok (.i2s, 1)) : tk_E ν Γ d (tk_u1 tk_i2s a) 0 pc (p1 + 1) := by
  intro κ X st hst ρ μ Q hr h k
  refine ha κ X st hst ρ μ _ hr h (fun x μ1 h1 _ H ls locs hP hS hl => ?_)
  have h3 := k _ μ1 h1 (tk_r0 _) H ls locs hP hS hl
  rw [tk_i2s, tk_v0] at h3
  exact lv_i2s X.1 X.2.1 hd rfl h3
def tk_l2i (x : Int) : Int := ((Int64.ofInt x).toInt32).toInt
theorem tk_ok_l2i {ν : tk_N} {Γ : List (Nat × Nat)} {d pc p1 : Nat} {a : tk_Ex} (ha : tk_E ν Γ d a 1 pc p1) (hd : decode ν.1 p1 = .ok (.l2i, 1)) : tk_E ν Γ d (tk_u1 tk_l2i a) 0 pc (p1 + 1) := by
  intro κ X st hst ρ μ Q hr h k
  refine ha κ X st hst ρ μ _ hr h (fun x μ1 h1 _ H ls locs hP hS hl => ?_)
  have h3 := k _ μ1 h1 (tk_r0 _) H ls locs hP hS hl
  rw [tk_l2i, tk_v0] at h3
  exact lv_l2i X.1 X.2.1 hd rfl h3
theorem tk_i64 {x : Int} (h : tk_r 0 x) : (Int32.ofInt x).toInt64 = Int64.ofInt x := by
  apply Int64.toInt_inj.mp
  rw [Int32.toInt_toInt64, tk_ofI h, tk_ofL (by obtain ⟨h1, h2⟩ := h; exact ⟨by omega, by omega⟩)]
theorem tk_ok_i2l {ν : tk_N} {Γ : List (Nat × Nat)} {d pc p1 : Nat} {a : tk_Ex} (ha : tk_E ν Γ d a 0 pc p1) (hd : decode ν.1 p1 = .ok (.i2l, 1)) : tk_E ν Γ d a 1 pc (p1 + 1) := by
  intro κ X st hst ρ μ Q hr h k
  refine ha κ X st hst ρ μ _ hr h (fun x μ1 h1 hx H ls locs hP hS hl => ?_)
  have h3 := k _ μ1 h1 (by obtain ⟨h1, h2⟩ := hx; exact ⟨by omega, by omega⟩) H ls locs hP hS hl
  exact lv_i2l X.1 X.2.1 hd (tk_i64 hx) h3
theorem tk_ok_iconst {ν : tk_N} {Γ : List (Nat × Nat)} {d pc : Nat} (n : Int) (hd : decode ν.1 pc = .ok (.iconst n, 1)) (hv : Int32.ofInt n = Int32.ofInt n) (hr : (Int32.ofInt n).toInt = n) : tk_E ν Γ d (tk_lit n) 0 pc (pc + 1) := by
  intro κ X st hst ρ μ Q _ h k H ls locs hP hS hl
  exact lv_iconst X.1 X.2.1 hd hv (k _ μ h (by rw [← hr]; exact tk_r0 _) H ls locs hP hS hl)
theorem tk_ok_bipush {ν : tk_N} {Γ : List (Nat × Nat)} {d pc : Nat} (n : Int) (hd : decode ν.1 pc = .ok (.bipush n, 2)) (hv : (Int8.ofInt n).toInt32 = Int32.ofInt n) (hr : (Int32.ofInt n).toInt = n) : tk_E ν Γ d (tk_lit n) 0 pc (pc + 2) := by
  intro κ X st hst ρ μ Q _ h k H ls locs hP hS hl
  exact lv_bipush X.1 X.2.1 hd hv (k _ μ h (by rw [← hr]; exact tk_r0 _) H ls locs hP hS hl)
theorem tk_ok_sipush {ν : tk_N} {Γ : List (Nat × Nat)} {d pc : Nat} (n : Int) (hd : decode ν.1 pc = .ok (.sipush n, 3)) (hv : (Int16.ofInt n).toInt32 = Int32.ofInt n) (hr : (Int32.ofInt n).toInt = n) : tk_E ν Γ d (tk_lit n) 0 pc (pc + 3) := by
  intro κ X st hst ρ μ Q _ h k H ls locs hP hS hl
  exact lv_sipush X.1 X.2.1 hd hv (k _ μ h (by rw [← hr]; exact tk_r0 _) H ls locs hP hS hl)
theorem tk_ok_lconst {ν : tk_N} {Γ : List (Nat × Nat)} {d pc : Nat} (n : Fin 2) (m : Int) (hd : decode ν.1 pc = .ok (.lconst n, 1)) (hv : Int64.ofNat (n : Nat) = Int64.ofInt m) (hr : (Int64.ofInt m).toInt = m) : tk_E ν Γ d (tk_lit m) 1 pc (pc + 1) := by
  intro κ X st hst ρ μ Q _ h k H ls locs hP hS hl
  exact lv_lconst X.1 X.2.1 hd hv (k _ μ h (by rw [← hr]; exact tk_r1 _) H ls locs hP hS hl)
theorem tk_ok_ldc {ν : tk_N} {Γ : List (Nat × Nat)} {d pc : Nat} (n : Int) (ix : Nat) (hd : decode ν.1 pc = .ok (.ldc ix, 2)) (hw : Cond.constant ν.2.1 ix (Int32.ofInt n) ∈ tk_tbl) (hr : (Int32.ofInt n).toInt = n) : tk_E ν Γ d (tk_lit n) 0 pc (pc + 2) := by
  intro κ X st hst ρ μ Q _ h k H ls locs hP hS hl
  exact lv_ldc X.1 X.2.1 X.2.2.2.1 (X.2.2.2.2.1 _ hw) hd (k _ μ h (by rw [← hr]; exact tk_r0 _) H ls locs hP hS hl)
theorem tk_ok_ldcw {ν : tk_N} {Γ : List (Nat × Nat)} {d pc : Nat} (n : Int) (ix : Nat) (hd : decode ν.1 pc = .ok (.ldc_w ix, 3)) (hw : Cond.constant ν.2.1 ix (Int32.ofInt n) ∈ tk_tbl) (hr : (Int32.ofInt n).toInt = n) : tk_E ν Γ d (tk_lit n) 0 pc (pc + 3) := by
  intro κ X st hst ρ μ Q _ h k H ls locs hP hS hl
  exact lv_ldcw X.1 X.2.1 X.2.2.2.1 (X.2.2.2.2.1 _ hw) hd (k _ μ h (by rw [← hr]; exact tk_r0 _) H ls locs hP hS hl)
theorem tk_ok_ldc2 {ν : tk_N} {Γ : List (Nat × Nat)} {d pc : Nat} (n : Int) (ix : Nat) (hd : decode ν.1 pc = .ok (.ldc2_w ix, 3)) (hw : Cond.constantLong ν.2.1 ix (Int64.ofInt n) ∈ tk_tbl) (hr : (Int64.ofInt n).toInt = n) : tk_E ν Γ d (tk_lit n) 1 pc (pc + 3) := by
  intro κ X st hst ρ μ Q _ h k H ls locs hP hS hl
  exact lv_ldc2 X.1 X.2.1 X.2.2.2.1 (X.2.2.2.2.1 _ hw) hd (k _ μ h (by rw [← hr]; exact tk_r1 _) H ls locs hP hS hl)
theorem tk_lv_at {ω : tk_O} {ls : Array Slot} {nL k t : Nat} {Γ : List (Nat × Nat)} {ρ : tk_L} (h : lv_has ls nL (tk_lv ω Γ ρ)) (hk : (k, t) ∈ Γ) : ls[k]? = some (.val (tk_v ω t (ρ k))) := h.2.2 (k, tk_v ω t (ρ k)) (List.mem_map.mpr ⟨(k, t), hk, rfl⟩)
theorem tk_ok_iload_n {ν : tk_N} {Γ : List (Nat × Nat)} {d pc : Nat} (i : Fin 4) (k : Nat) (hd : decode ν.1 pc = .ok (.iload_n i, 1)) (hi : (i : Nat) = k) (hk : (k, 0) ∈ Γ) : tk_E ν Γ d (tk_loc k) 0 pc (pc + 1) := by
  intro κ X st hst ρ μ Q hr h kk H ls locs hP hS hl
  exact lv_iload_n X.1 X.2.1 hd hi (tk_lv_at hl hk) (kk _ μ h (hr _ hk) H ls locs hP hS hl)
theorem tk_ok_iload {ν : tk_N} {Γ : List (Nat × Nat)} {d pc : Nat} (k : Nat) (hd : decode ν.1 pc = .ok (.iload k, 2)) (hk : (k, 0) ∈ Γ) : tk_E ν Γ d (tk_loc k) 0 pc (pc + 2) := by
  intro κ X st hst ρ μ Q hr h kk H ls locs hP hS hl
  exact lv_iload X.1 X.2.1 hd (tk_lv_at hl hk) (kk _ μ h (hr _ hk) H ls locs hP hS hl)
theorem tk_ok_lload_n {ν : tk_N} {Γ : List (Nat × Nat)} {d pc : Nat} (i : Fin 4) (k : Nat) (hd : decode ν.1 pc = .ok (.lload_n i, 1)) (hi : (i : Nat) = k) (hk : (k, 1) ∈ Γ) : tk_E ν Γ d (tk_loc k) 1 pc (pc + 1) := by
  intro κ X st hst ρ μ Q hr h kk H ls locs hP hS hl
  exact lv_lload_n X.1 X.2.1 hd hi (tk_lv_at hl hk) (kk _ μ h (hr _ hk) H ls locs hP hS hl)
theorem tk_ok_lload {ν : tk_N} {Γ : List (Nat × Nat)} {d pc : Nat} (k : Nat) (hd : decode ν.1 pc = .ok (.lload k, 2)) (hk : (k, 1) ∈ Γ) : tk_E ν Γ d (tk_loc k) 1 pc (pc + 2) := by
  intro κ X st hst ρ μ Q hr h kk H ls locs hP hS hl
  exact lv_lload X.1 X.2.1 hd (tk_lv_at hl hk) (kk _ μ h (hr _ hk) H ls locs hP hS hl)
theorem tk_v2 {ω : tk_O} {v : Int} (h : 0 ≤ v) : tk_v ω 2 v = .ref (tk_bs ω + v.toNat) := by
  simp only [tk_v]
  rw [if_neg (by omega)]
theorem tk_ok_aload_n2 {ν : tk_N} {Γ : List (Nat × Nat)} {d pc : Nat} (i : Fin 4) (k : Nat) (hd : decode ν.1 pc = .ok (.aload_n i, 1)) (hi : (i : Nat) = k) (hk : (k, 2) ∈ Γ) : tk_E ν Γ d (tk_loc k) 2 pc (pc + 1) := by
  intro κ X st hst ρ μ Q hr h kk H ls locs hP hS hl
  have h1 := tk_lv_at hl hk
  have h2 := kk _ μ h (hr _ hk) H ls locs hP hS hl
  rw [tk_v2 (hr _ hk)] at h1 h2
  exact lv_aload_n X.1 X.2.1 hd hi h1 h2
theorem tk_ok_aload2 {ν : tk_N} {Γ : List (Nat × Nat)} {d pc : Nat} (k : Nat) (hd : decode ν.1 pc = .ok (.aload k, 2)) (hk : (k, 2) ∈ Γ) : tk_E ν Γ d (tk_loc k) 2 pc (pc + 2) := by
  intro κ X st hst ρ μ Q hr h kk H ls locs hP hS hl
  have h1 := tk_lv_at hl hk
  have h2 := kk _ μ h (hr _ hk) H ls locs hP hS hl
  rw [tk_v2 (hr _ hk)] at h1 h2
  exact lv_aload X.1 X.2.1 hd h1 h2
theorem tk_ok_aload_n3 {ν : tk_N} {Γ : List (Nat × Nat)} {d pc : Nat} (i : Fin 4) (k : Nat) (hd : decode ν.1 pc = .ok (.aload_n i, 1)) (hi : (i : Nat) = k) (hk : (k, 3) ∈ Γ) : tk_E ν Γ d (tk_loc k) 3 pc (pc + 1) := by
  intro κ X st hst ρ μ Q hr h kk H ls locs hP hS hl
  have h1 := tk_lv_at hl hk
  have h2 := kk _ μ h (hr _ hk) H ls locs hP hS hl
  exact lv_aload_n X.1 X.2.1 hd hi h1 h2
theorem tk_ok_aload3 {ν : tk_N} {Γ : List (Nat × Nat)} {d pc : Nat} (k : Nat) (hd : decode ν.1 pc = .ok (.aload k, 2)) (hk : (k, 3) ∈ Γ) : tk_E ν Γ d (tk_loc k) 3 pc (pc + 2) := by
  intro κ X st hst ρ μ Q hr h kk H ls locs hP hS hl
  have h1 := tk_lv_at hl hk
  have h2 := kk _ μ h (hr _ hk) H ls locs hP hS hl
  exact lv_aload X.1 X.2.1 hd h1 h2
end
section
/-- what the tables say of a class -/
def tk_Cl (ci : Nat) (C : String) (T : u_T) (N : Nat) (ty : Nat → FieldType) : Prop := vwCl[ci]? = some (C, T, N) ∧ (∀ w ∈ u_ws C T N, w ∈ tk_tbl) ∧ (∀ k, k < N → parseFieldDescriptor (T k).2.2.1 = some (ty k)) ∧ (∀ a, a < N → ∀ b, b < N → a ≠ b → (T a).2.1 ≠ (T b).2.1) ∧ (tk_ct ci).length = N
theorem tk_C0 : tk_Cl 0 RX0 TX0 5 tyX0 := ⟨rfl, tk_inX0, tyX0_ok, nmX0, by decide +kernel⟩
theorem tk_C1 : tk_Cl 1 RX1 TX1 7 tyX1 := ⟨rfl, tk_inX1, tyX1_ok, nmX1, by decide +kernel⟩
theorem tk_C2 : tk_Cl 2 RX2 TX2 18 tyX2 := ⟨rfl, tk_inX2, tyX2_ok, nmX2, by decide +kernel⟩
theorem tk_C3 : tk_Cl 3 RX3 TX3 3 tyX3 := ⟨rfl, tk_inX3, tyX3_ok, nmX3, by decide +kernel⟩
theorem tk_C4 : tk_Cl 4 RX4 TX4 3 tyX4 := ⟨rfl, tk_inX4, tyX4_ok, nmX4, by decide +kernel⟩
theorem tk_C5 : tk_Cl 5 RX5 TX5 9 tyX5 := ⟨rfl, tk_inX5, tyX5_ok, nmX5, by decide +kernel⟩
theorem tk_C6 : tk_Cl 6 RX6 TX6 10 tyX6 := ⟨rfl, tk_inX6, tyX6_ok, nmX6, by decide +kernel⟩
theorem tk_C7 : tk_Cl 7 RX7 TX7 51 tyX7 := ⟨rfl, tk_inX7, tyX7_ok, nmX7, by decide +kernel⟩
theorem tk_nat {o : Int} (h : 0 ≤ o) : ((o.toNat : Nat) : Int) = o := Int.toNat_of_nonneg h
/-- a field's link: of the class itself, or of a nest mate -/
def tk_lk (own : String) (ix : Nat) (T : u_T) (j : Nat) : Prop := Cond.fieldLink own ix (T j).1 (T j).2.1 (T j).2.2.1 ∈ tk_tbl ∨ Cond.fieldLinkNest own ix (T j).1 (T j).2.1 (T j).2.2.1 "TicketHall" ∈ tk_nw
theorem tk_get {κ : tk_K} {ν : tk_N} {H : Heap} {locs : List Loc} {ls : Array Slot} {pc : Nat} {st : List Value} {μ : tk_M} {ci j ix N : Nat} {C : String} {T : u_T} {ty : Nat → FieldType} {tc : Int} {x : Int} (X : tk_X κ ν) (hP : tk_P (tk_ω κ) μ H) (hC : tk_Cl ci C T N ty) (hj : j < N) (hl : tk_lk ν.2.1 ix T j) (ht : (tk_ct ci)[j]? = some tc) (hx : tk_isC ci x) (hd : decode ν.1 pc = .ok (.getfield ix, 3))
    (kk : tk_W κ ν H locs (pc + 3) ls (tk_fv (tk_ω κ) μ x.toNat j tc :: st)) : tk_W κ ν H locs pc ls (tk_v (tk_ω κ) 2 x :: st) := by
  obtain ⟨h0, hlay⟩ := tk_isC_lay hx
  have he := tk_ws_at (ω := tk_ω κ) (μ := μ) hlay
  have hv : ((tk_ct ci).mapIdx (fun i t => tk_fv (tk_ω κ) μ x.toNat i t))[j]? = some (tk_fv (tk_ω κ) μ x.toNat j tc) := by
    rw [List.getElem?_mapIdx, ht]; rfl
  rw [tk_v2 h0]
  rcases hl with hl | hl
  · exact va_get X.1 X.2.1 X.2.2.2.2.1 hC.2.1 X.2.2.2.1 X.2.2.2.2.2.1.1 hP.1 x.toNat he hC.1 j hj (X.2.2.2.2.1 _ hl) (fun _ h => h) hv hd kk
  · exact va_getN X.1 X.2.1 X.2.2.2.2.1 hC.2.1 X.2.2.2.1 X.2.2.2.2.2.1.1 hP.1 x.toNat he hC.1 j hj (tk_Xn X hl) (fun _ h => h) hv hd kk
theorem tk_in_f {μ : tk_M} {ci j : Nat} {tc x : Int} (h : tk_in μ) (ht : (tk_ct ci)[j]? = some tc) (hx : tk_isC ci x) : tk_fr tc (μ x j) := by
  obtain ⟨h0, hlay⟩ := tk_isC_lay hx
  have h1 := h _ _ hlay j tc ht
  rwa [tk_nat h0] at h1
theorem tk_in_a {μ : tk_M} {t : Nat} {x i : Int} (h : tk_in μ) (hi : 0 ≤ i ∧ i < tk_al t x) : tk_fr t (μ x i) := by
  obtain ⟨h0, n, hn, hlay⟩ := tk_al_lay hi.1 hi.2
  have h1 := h _ _ hlay i.toNat (by have := hi.2; omega)
  rwa [tk_nat h0, tk_nat hi.1] at h1
theorem tk_tl {κ : tk_K} {ν : tk_N} (X : tk_X κ ν) {w : Cond} (h : w ∈ tk_tbl) : w.before (tk_ar κ) (tk_s κ) = true := X.2.2.2.2.1 _ h
theorem tk_ok_gi {ν : tk_N} {Γ : List (Nat × Nat)} {d pc p1 : Nat} {a : tk_Ex} {ci j ix N : Nat} {C : String} {T : u_T} {ty : Nat → FieldType} (ha : tk_E ν Γ d a 2 pc p1) (hC : tk_Cl ci C T N ty) (hd : decode ν.1 p1 = .ok (.getfield ix, 3)) (hj : j < N) (hl : tk_lk ν.2.1 ix T j) (ht : (tk_ct ci)[j]? = some 0) : tk_E ν Γ d (tk_gf ci j a) 0 pc (p1 + 3) := by
  intro κ X st hst ρ μ Q hr h k
  refine ha κ X st hst ρ μ _ hr h (fun x μ1 h1 _ H ls locs hP hS hl' => ?_)
  have hf := tk_in_f hP.2 ht h1.1
  simp only [tk_fr] at hf
  have h3 := k _ μ1 h1.2 (by simpa using hf) H ls locs hP hS hl'
  refine tk_get X hP hC hj hl ht h1.1 hd ?_
  have h4 : tk_fv (tk_ω κ) μ1 x.toNat j 0 = tk_v (tk_ω κ) 0 (μ1 x j) := by simp [tk_fv, tk_v, tk_nat (tk_isC_lay h1.1).1]
  rw [h4]
  exact h3
theorem tk_ok_gz {ν : tk_N} {Γ : List (Nat × Nat)} {d pc p1 : Nat} {a : tk_Ex} {ci j ix N : Nat} {C : String} {T : u_T} {ty : Nat → FieldType} (ha : tk_E ν Γ d a 2 pc p1) (hC : tk_Cl ci C T N ty) (hd : decode ν.1 p1 = .ok (.getfield ix, 3)) (hj : j < N) (hl : tk_lk ν.2.1 ix T j) (ht : (tk_ct ci)[j]? = some 4) : tk_E ν Γ d (tk_gf ci j a) 0 pc (p1 + 3) := by
  intro κ X st hst ρ μ Q hr h k
  refine ha κ X st hst ρ μ _ hr h (fun x μ1 h1 _ H ls locs hP hS hl' => ?_)
  have hf := tk_in_f hP.2 ht h1.1
  simp only [tk_fr] at hf
  have h3 := k _ μ1 h1.2 (by simp at hf; exact ⟨by omega, by omega⟩) H ls locs hP hS hl'
  refine tk_get X hP hC hj hl ht h1.1 hd ?_
  have h4 : tk_fv (tk_ω κ) μ1 x.toNat j 4 = tk_v (tk_ω κ) 0 (μ1 x j) := by simp [tk_fv, tk_v, tk_nat (tk_isC_lay h1.1).1]
  rw [h4]
  exact h3
theorem tk_ok_gl {ν : tk_N} {Γ : List (Nat × Nat)} {d pc p1 : Nat} {a : tk_Ex} {ci j ix N : Nat} {C : String} {T : u_T} {ty : Nat → FieldType} (ha : tk_E ν Γ d a 2 pc p1) (hC : tk_Cl ci C T N ty) (hd : decode ν.1 p1 = .ok (.getfield ix, 3)) (hj : j < N) (hl : tk_lk ν.2.1 ix T j) (ht : (tk_ct ci)[j]? = some 1) : tk_E ν Γ d (tk_gf ci j a) 1 pc (p1 + 3) := by
  intro κ X st hst ρ μ Q hr h k
  refine ha κ X st hst ρ μ _ hr h (fun x μ1 h1 _ H ls locs hP hS hl' => ?_)
  have hf := tk_in_f hP.2 ht h1.1
  simp only [tk_fr] at hf
  have h3 := k _ μ1 h1.2 (by simpa using hf) H ls locs hP hS hl'
  refine tk_get X hP hC hj hl ht h1.1 hd ?_
  have h4 : tk_fv (tk_ω κ) μ1 x.toNat j 1 = tk_v (tk_ω κ) 1 (μ1 x j) := by simp [tk_fv, tk_v, tk_nat (tk_isC_lay h1.1).1]
  rw [h4]
  exact h3
theorem tk_ok_gr {ν : tk_N} {Γ : List (Nat × Nat)} {d pc p1 : Nat} {a : tk_Ex} {ci j ix N : Nat} {C : String} {T : u_T} {ty : Nat → FieldType} {dl : Int} (ha : tk_E ν Γ d a 2 pc p1) (hC : tk_Cl ci C T N ty) (hd : decode ν.1 p1 = .ok (.getfield ix, 3)) (hj : j < N) (hl : tk_lk ν.2.1 ix T j) (ht : (tk_ct ci)[j]? = some (1000 + dl)) (hb : -500 ≤ dl) (hn : ∀ o : Int, tk_isC ci o → 0 ≤ o + dl) : tk_E ν Γ d (tk_gr ci dl a) 2 pc (p1 + 3) := by
  intro κ X st hst ρ μ Q hr h k
  refine ha κ X st hst ρ μ _ hr h (fun x μ1 h1 _ H ls locs hP hS hl' => ?_)
  have h0 := (tk_isC_lay h1.1).1
  have h3 := k _ μ1 h1.2 (hn x h1.1) H ls locs hP hS hl'
  refine tk_get X hP hC hj hl ht h1.1 hd ?_
  have h4 : tk_fv (tk_ω κ) μ1 x.toNat j (1000 + dl) = tk_v (tk_ω κ) 2 (x + dl) := by
    rw [tk_v2 (hn x h1.1)]
    unfold tk_fv
    rw [if_pos (by omega), tk_nat h0]
    congr 3
    omega
  rw [h4]
  exact h3
theorem tk_ok_gn {ν : tk_N} {Γ : List (Nat × Nat)} {d pc p1 : Nat} {a : tk_Ex} {ci j ix N : Nat} {C : String} {T : u_T} {ty : Nat → FieldType} (ha : tk_E ν Γ d a 2 pc p1) (hC : tk_Cl ci C T N ty) (hd : decode ν.1 p1 = .ok (.getfield ix, 3)) (hj : j < N) (hl : tk_lk ν.2.1 ix T j) (ht : (tk_ct ci)[j]? = some 2) : tk_E ν Γ d (tk_gn ci j a) 2 pc (p1 + 3) := by
  intro κ X st hst ρ μ Q hr h k
  refine ha κ X st hst ρ μ _ hr h (fun x μ1 h1 _ H ls locs hP hS hl' => ?_)
  have h3 := k _ μ1 h1.2.2 h1.2.1 H ls locs hP hS hl'
  refine tk_get X hP hC hj hl ht h1.1 hd ?_
  have h4 : tk_fv (tk_ω κ) μ1 x.toNat j 2 = tk_v (tk_ω κ) 2 (μ1 x j) := by simp [tk_fv, tk_nat (tk_isC_lay h1.1).1]
  rw [h4]
  exact h3
theorem tk_vin {i : Int} {n : Nat} (hr : tk_r 0 i) (h0 : 0 ≤ i) (h : i < n) : vp_in (Int32.ofInt i) n := vp_in_iff.mpr ⟨by rw [tk_ofI hr]; exact h0, by rw [tk_ofI hr]; exact h⟩
theorem tk_ncn {i : Int} (hr : tk_r 0 i) : (Int32.ofInt i).toNatClampNeg = i.toNat := by
  show (Int32.ofInt i).toInt.toNat = i.toNat
  rw [tk_ofI hr]
theorem tk_ok_iald {ν : tk_N} {Γ : List (Nat × Nat)} {d pc p1 p2 : Nat} {a b : tk_Ex} (ha : tk_E ν Γ d a 2 pc p1) (hb : tk_E ν Γ (d + 1) b 0 p1 p2) (hd : decode ν.1 p2 = .ok (.iaload, 1)) : tk_E ν Γ d (tk_ald 0 a b) 0 pc (p2 + 1) := by
  intro κ X st hst ρ μ Q hr h k
  refine ha κ X st hst ρ μ _ hr h (fun x μ1 h1 hx => ?_)
  refine hb κ X _ (tk_sum2 hst) ρ μ1 _ hr h1 (fun i μ2 h2 hi H ls locs hP hS hl => ?_)
  have hf := tk_in_a hP.2 h2.1
  have h3 := k _ μ2 h2.2 (by simpa [tk_fr] using hf) H ls locs hP hS hl
  obtain ⟨h0, n, hn, hlay⟩ := tk_al_lay h2.1.1 h2.1.2
  have he := tk_ws_at (ω := tk_ω κ) (μ := μ2) hlay
  rw [tk_v2 hx]
  refine va_iald X.1 X.2.1 X.2.2.2.2.2.1.1 hP.1 x.toNat 0 (n := n) (f := fun j => Int32.ofInt (μ2 x.toNat j)) he rfl (tk_vin hi h2.1.1 (by have := h2.1.2; omega)) hd ?_
  rw [tk_ncn hi]
  simp only [tk_nat h0, tk_nat h2.1.1]
  exact h3
theorem tk_ok_bald {ν : tk_N} {Γ : List (Nat × Nat)} {d pc p1 p2 : Nat} {a b : tk_Ex} (ha : tk_E ν Γ d a 2 pc p1) (hb : tk_E ν Γ (d + 1) b 0 p1 p2) (hd : decode ν.1 p2 = .ok (.baload, 1)) : tk_E ν Γ d (tk_ald 5 a b) 0 pc (p2 + 1) := by
  intro κ X st hst ρ μ Q hr h k
  refine ha κ X st hst ρ μ _ hr h (fun x μ1 h1 hx => ?_)
  refine hb κ X _ (tk_sum2 hst) ρ μ1 _ hr h1 (fun i μ2 h2 hi H ls locs hP hS hl => ?_)
  have hf := tk_in_a hP.2 h2.1
  have h3 := k _ μ2 h2.2 (by simp [tk_fr] at hf; exact ⟨by omega, by omega⟩) H ls locs hP hS hl
  obtain ⟨h0, n, hn, hlay⟩ := tk_al_lay h2.1.1 h2.1.2
  have he := tk_ws_at (ω := tk_ω κ) (μ := μ2) hlay
  rw [tk_v2 hx]
  refine va_bald X.1 X.2.1 X.2.2.2.2.2.1.1 hP.1 x.toNat 1 (n := n) (f := fun j => Int32.ofInt (μ2 x.toNat j)) he rfl (tk_vin hi h2.1.1 (by have := h2.1.2; omega)) hd ?_
  rw [tk_ncn hi]
  simp only [tk_nat h0, tk_nat h2.1.1]
  exact h3
theorem tk_ok_zald {ν : tk_N} {Γ : List (Nat × Nat)} {d pc p1 p2 : Nat} {a b : tk_Ex} (ha : tk_E ν Γ d a 2 pc p1) (hb : tk_E ν Γ (d + 1) b 0 p1 p2) (hd : decode ν.1 p2 = .ok (.baload, 1)) : tk_E ν Γ d (tk_ald 4 a b) 0 pc (p2 + 1) := by
  intro κ X st hst ρ μ Q hr h k
  refine ha κ X st hst ρ μ _ hr h (fun x μ1 h1 hx => ?_)
  refine hb κ X _ (tk_sum2 hst) ρ μ1 _ hr h1 (fun i μ2 h2 hi H ls locs hP hS hl => ?_)
  have hf := tk_in_a hP.2 h2.1
  have h3 := k _ μ2 h2.2 (by simp [tk_fr] at hf; exact ⟨by omega, by omega⟩) H ls locs hP hS hl
  obtain ⟨h0, n, hn, hlay⟩ := tk_al_lay h2.1.1 h2.1.2
  have he := tk_ws_at (ω := tk_ω κ) (μ := μ2) hlay
  rw [tk_v2 hx]
  refine va_zald X.1 X.2.1 X.2.2.2.2.2.1.1 hP.1 x.toNat 2 (n := n) (f := fun j => Int32.ofInt (μ2 x.toNat j)) he rfl (tk_vin hi h2.1.1 (by have := h2.1.2; omega)) hd ?_
  rw [tk_ncn hi]
  simp only [tk_nat h0, tk_nat h2.1.1]
  exact h3
theorem tk_ok_lald {ν : tk_N} {Γ : List (Nat × Nat)} {d pc p1 p2 : Nat} {a b : tk_Ex} (ha : tk_E ν Γ d a 2 pc p1) (hb : tk_E ν Γ (d + 1) b 0 p1 p2) (hd : decode ν.1 p2 = .ok (.laload, 1)) : tk_E ν Γ d (tk_ald 1 a b) 1 pc (p2 + 1) := by
  intro κ X st hst ρ μ Q hr h k
  refine ha κ X st hst ρ μ _ hr h (fun x μ1 h1 hx => ?_)
  refine hb κ X _ (tk_sum2 hst) ρ μ1 _ hr h1 (fun i μ2 h2 hi H ls locs hP hS hl => ?_)
  have hf := tk_in_a hP.2 h2.1
  have h3 := k _ μ2 h2.2 (by simpa [tk_fr] using hf) H ls locs hP hS hl
  obtain ⟨h0, n, hn, hlay⟩ := tk_al_lay h2.1.1 h2.1.2
  have he := tk_ws_at (ω := tk_ω κ) (μ := μ2) hlay
  rw [tk_v2 hx]
  refine va_lald X.1 X.2.1 X.2.2.2.2.2.1.1 hP.1 x.toNat 3 (n := n) (f := fun j => Int64.ofInt (μ2 x.toNat j)) he rfl (tk_vin hi h2.1.1 (by have := h2.1.2; omega)) hd ?_
  rw [tk_ncn hi]
  simp only [tk_nat h0, tk_nat h2.1.1]
  exact h3
theorem tk_ok_aldq {ν : tk_N} {Γ : List (Nat × Nat)} {d pc p1 p2 : Nat} {a b : tk_Ex} (ha : tk_E ν Γ d a 2 pc p1) (hb : tk_E ν Γ (d + 1) b 0 p1 p2) (hd : decode ν.1 p2 = .ok (.aaload, 1)) : tk_E ν Γ d (tk_aldq a b) 2 pc (p2 + 1) := by
  intro κ X st hst ρ μ Q hr h k
  refine ha κ X st hst ρ μ _ hr h (fun x μ1 h1 hx => ?_)
  refine hb κ X _ (tk_sum2 hst) ρ μ1 _ hr h1 (fun i μ2 h2 hi H ls locs hP hS hl => ?_)
  obtain ⟨h0, n, hn, hlay⟩ := tk_al_lay h2.1.1 h2.1.2
  have hp : 0 ≤ x + 1 + 2 * i := by have := h2.1.1; omega
  have h3 := k _ μ2 h2.2 hp H ls locs hP hS hl
  have he := tk_ws_at (ω := tk_ω κ) (μ := μ2) hlay
  rw [tk_v2 hx]
  refine va_aldq X.1 X.2.1 X.2.2.2.2.2.1.1 hP.1 x.toNat 4 (n := n) (f := fun j => some (tk_bs (tk_ω κ) + (x.toNat + 1 + 2 * j))) he rfl (tk_vin hi h2.1.1 (by have := h2.1.2; omega)) hd ?_
  rw [tk_ncn hi]
  rw [tk_v2 hp] at h3
  have h5 : (x + 1 + 2 * i).toNat = x.toNat + 1 + 2 * i.toNat := by have := h2.1.1; omega
  rw [h5] at h3
  exact h3
theorem tk_ok_aln {ν : tk_N} {Γ : List (Nat × Nat)} {d pc p1 : Nat} {a : tk_Ex} (t : Nat) (ht : t = 0 ∨ t = 1) (ha : tk_E ν Γ d a 2 pc p1) (hd : decode ν.1 p1 = .ok (.arraylength, 1)) : tk_E ν Γ d (tk_aln t a) 0 pc (p1 + 1) := by
  intro κ X st hst ρ μ Q hr h k
  refine ha κ X st hst ρ μ _ hr h (fun x μ1 h1 hx H ls locs hP hS hl => ?_)
  obtain ⟨h0, n, hn, hlay⟩ := tk_al_lay (Int.le_refl 0) h1.1
  have hm : n ≤ 360 := by
    have h9 : ∀ q ∈ tk_lay, (match q with | .inl _ => true | .inr (_, m) => decide (m ≤ 360)) = true := by decide +kernel
    have := h9 _ (List.mem_of_getElem? hlay)
    simpa using this
  have h3 := k _ μ1 h1.2 (by rw [hn]; exact ⟨by omega, by omega⟩) H ls locs hP hS hl
  have he := tk_ws_at (ω := tk_ω κ) (μ := μ1) hlay
  rw [tk_v2 hx]
  rw [hn] at h3
  rcases ht with rfl | rfl
  · exact va_alen X.1 X.2.1 X.2.2.2.2.2.1.1 hP.1 x.toNat 0 (x := (n, .inl (fun j => Int32.ofInt (μ1 x.toNat j)))) he rfl (Int32.toInt_inj.mp (by rw [Int32.toInt_ofNat_small (by omega), tk_ofI ⟨by omega, by omega⟩])) hd h3
  · exact va_alen X.1 X.2.1 X.2.2.2.2.2.1.1 hP.1 x.toNat 3 (x := (n, .inr (.inl (fun j => Int64.ofInt (μ1 x.toNat j))))) he rfl (Int32.toInt_inj.mp (by rw [Int32.toInt_ofNat_small (by omega), tk_ofI ⟨by omega, by omega⟩])) hd h3
theorem tk_ok_unl {ν : tk_N} {Γ : List (Nat × Nat)} {d pc ix : Nat} (hd : decode ν.1 pc = .ok (.getstatic ix, 3)) (hl : Cond.fieldLink ν.2.1 ix "TicketHall" "UNDER" "[I" ∈ tk_tbl ∨ Cond.fieldLinkNest ν.2.1 ix "TicketHall" "UNDER" "[I" "TicketHall" ∈ tk_nw) (hd2 : decode ν.1 (pc + 3) = .ok (.arraylength, 1)) : tk_E ν Γ d tk_unl 0 pc (pc + 4) := by
  intro κ X st hst ρ μ Q hr h k H ls locs hP hS hl'
  have h3 := k _ μ h ⟨by omega, by omega⟩ H ls locs hP hS hl'
  obtain ⟨-, hZ, hT, -⟩ := X.2.2.2.2.2.1
  obtain ⟨cell, t1, t2, t3, t4, t5, t6, t7⟩ := hT
  have g : tk_W κ ν H locs (pc + 3) ls (.ref (tk_tU (tk_ω κ)) :: st) := W.alen (n := Int32.ofNat 7) X.1 X.2.1 (by rw [hS.2.1 _ (Array.getElem?_eq_some_iff.mp t1).1 t7]; exact t1) t2 t5 rfl rfl hd2 h3
  rcases hl with hl | hl
  · exact va_gets X.1 X.2.1 hZ hS X.2.2.2.1 (tk_tl X hl) (fun _ h => h) hd g
  · exact va_getsN X.1 X.2.1 hZ hS X.2.2.2.1 (tk_Xn X hl) (fun _ h => h) hd g
theorem tk_ok_una {ν : tk_N} {Γ : List (Nat × Nat)} {d pc ix p1 : Nat} {a : tk_Ex} (hd : decode ν.1 pc = .ok (.getstatic ix, 3)) (hl : Cond.fieldLink ν.2.1 ix "TicketHall" "UNDER" "[I" ∈ tk_tbl ∨ Cond.fieldLinkNest ν.2.1 ix "TicketHall" "UNDER" "[I" "TicketHall" ∈ tk_nw) (ha : tk_E ν Γ (d + 1) a 0 (pc + 3) p1) (hd2 : decode ν.1 p1 = .ok (.iaload, 1)) : tk_E ν Γ d (tk_una a) 0 pc (p1 + 1) := by
  intro κ X st hst ρ μ Q hr h k
  have hc : tk_sum (.ref (tk_tU (tk_ω κ)) :: st) ≤ d + 1 := by
    simp only [tk_sum, List.map_cons, List.sum_cons, Value.category] at hst ⊢
    omega
  have g : tk_G κ ν Γ ρ (pc + 3) μ (.ref (tk_tU (tk_ω κ)) :: st) := by
    refine ha κ X _ hc ρ μ _ hr h (fun i μ1 h1 hi H ls locs hP hS hl' => ?_)
    have h3 := k _ μ1 h1.2 (by unfold tk_un; split <;> exact ⟨by omega, by omega⟩) H ls locs hP hS hl'
    obtain ⟨-, hZ, hT, -⟩ := X.2.2.2.2.2.1
    exact va_ti X.1 X.2.1 hT hS (tk_vin hi h1.1.1 h1.1.2) (by rw [tk_ncn hi]; rfl) hd2 h3
  intro H ls locs hP hS hl'
  obtain ⟨-, hZ, hT, -⟩ := X.2.2.2.2.2.1
  rcases hl with hl | hl
  · exact va_gets X.1 X.2.1 hZ hS X.2.2.2.1 (tk_tl X hl) (fun _ h => h) hd (g H ls locs hP hS hl')
  · exact va_getsN X.1 X.2.1 hZ hS X.2.2.2.1 (tk_Xn X hl) (fun _ h => h) hd (g H ls locs hP hS hl')
theorem tk_ok_ter {ν : tk_N} {Γ : List (Nat × Nat)} {d t pc T F L : Nat} {C : tk_Cn} {a b : tk_Ex} (hc : tk_Ck ν Γ d C pc T F) (ha : tk_E ν Γ d a t T L) (hb : tk_E ν Γ d b t F L) : tk_E ν Γ d (tk_ter C a b) t pc L := by
  intro κ X st hst ρ μ Q hr h k
  exact hc κ X st hst ρ μ _ _ hr h (fun μ1 h1 => ha κ X st hst ρ μ1 Q hr h1 k) (fun μ1 h1 => hb κ X st hst ρ μ1 Q hr h1 k)
theorem tk_go {κ : tk_K} {ν : tk_N} {Γ : List (Nat × Nat)} {ρ : tk_L} {μ : tk_M} {st : List Value} {pc L : Nat} {off : Int} (X : tk_X κ ν) (hd : decode ν.1 pc = .ok (.goto off, 3)) (ht : (pc : Int) + off = (L : Int)) (h : tk_G κ ν Γ ρ L μ st) : tk_G κ ν Γ ρ pc μ st := fun H ls locs hP hS hl => lv_goto X.1 X.2.1 hd ht (h H ls locs hP hS hl)
theorem tk_ok_ego {ν : tk_N} {Γ : List (Nat × Nat)} {d t pc p1 L : Nat} {off : Int} {a : tk_Ex} (ha : tk_E ν Γ d a t pc p1) (hd : decode ν.1 p1 = .ok (.goto off, 3)) (ht : (p1 : Int) + off = (L : Int)) : tk_E ν Γ d a t pc L := by
  intro κ X st hst ρ μ Q hr h k
  exact ha κ X st hst ρ μ Q hr h (fun v μ1 h1 hv => tk_go X hd ht (k v μ1 h1 hv))
end
section
/-! ===== conditions ===== -/
def tk_ceq (a b : tk_Ex) : tk_Cn := fun Qt Qf ρ μ => a (fun x μ1 => b (fun y μ2 => if x = y then Qt μ2 else Qf μ2) ρ μ1) ρ μ
def tk_zeq (a : tk_Ex) : tk_Cn := fun Qt Qf ρ μ => a (fun x μ1 => if x = 0 then Qt μ1 else Qf μ1) ρ μ
def tk_cne (a b : tk_Ex) : tk_Cn := fun Qt Qf ρ μ => a (fun x μ1 => b (fun y μ2 => if ¬ x = y then Qt μ2 else Qf μ2) ρ μ1) ρ μ
def tk_zne (a : tk_Ex) : tk_Cn := fun Qt Qf ρ μ => a (fun x μ1 => if ¬ x = 0 then Qt μ1 else Qf μ1) ρ μ
def tk_clt (a b : tk_Ex) : tk_Cn := fun Qt Qf ρ μ => a (fun x μ1 => b (fun y μ2 => if x < y then Qt μ2 else Qf μ2) ρ μ1) ρ μ
def tk_zlt (a : tk_Ex) : tk_Cn := fun Qt Qf ρ μ => a (fun x μ1 => if x < 0 then Qt μ1 else Qf μ1) ρ μ
def tk_cge (a b : tk_Ex) : tk_Cn := fun Qt Qf ρ μ => a (fun x μ1 => b (fun y μ2 => if y ≤ x then Qt μ2 else Qf μ2) ρ μ1) ρ μ
def tk_zge (a : tk_Ex) : tk_Cn := fun Qt Qf ρ μ => a (fun x μ1 => if 0 ≤ x then Qt μ1 else Qf μ1) ρ μ
def tk_cgt (a b : tk_Ex) : tk_Cn := fun Qt Qf ρ μ => a (fun x μ1 => b (fun y μ2 => if y < x then Qt μ2 else Qf μ2) ρ μ1) ρ μ
def tk_zgt (a : tk_Ex) : tk_Cn := fun Qt Qf ρ μ => a (fun x μ1 => if 0 < x then Qt μ1 else Qf μ1) ρ μ
def tk_cle (a b : tk_Ex) : tk_Cn := fun Qt Qf ρ μ => a (fun x μ1 => b (fun y μ2 => if x ≤ y then Qt μ2 else Qf μ2) ρ μ1) ρ μ
def tk_zle (a : tk_Ex) : tk_Cn := fun Qt Qf ρ μ => a (fun x μ1 => if x ≤ 0 then Qt μ1 else Qf μ1) ρ μ
def tk_and (A B : tk_Cn) : tk_Cn := fun Qt Qf ρ μ => A (fun μ1 => B Qt Qf ρ μ1) Qf ρ μ
def tk_or (A B : tk_Cn) : tk_Cn := fun Qt Qf ρ μ => A Qt (fun μ1 => B Qt Qf ρ μ1) ρ μ
def tk_not (A : tk_Cn) : tk_Cn := fun Qt Qf ρ μ => A Qf Qt ρ μ
theorem tk_ok_and {ν : tk_N} {Γ : List (Nat × Nat)} {d pc p1 T F : Nat} {A B : tk_Cn} (ha : tk_Ck ν Γ d A pc p1 F) (hb : tk_Ck ν Γ d B p1 T F) : tk_Ck ν Γ d (tk_and A B) pc T F := by
  intro κ X st hst ρ μ Qt Qf hr h kt kf
  exact ha κ X st hst ρ μ _ _ hr h (fun μ1 h1 => hb κ X st hst ρ μ1 _ _ hr h1 kt kf) kf
theorem tk_ok_or {ν : tk_N} {Γ : List (Nat × Nat)} {d pc p1 T F : Nat} {A B : tk_Cn} (ha : tk_Ck ν Γ d A pc T p1) (hb : tk_Ck ν Γ d B p1 T F) : tk_Ck ν Γ d (tk_or A B) pc T F := by
  intro κ X st hst ρ μ Qt Qf hr h kt kf
  exact ha κ X st hst ρ μ _ _ hr h kt (fun μ1 h1 => hb κ X st hst ρ μ1 _ _ hr h1 kt kf)
theorem tk_ok_not {ν : tk_N} {Γ : List (Nat × Nat)} {d pc T F : Nat} {A : tk_Cn} (ha : tk_Ck ν Γ d A pc F T) : tk_Ck ν Γ d (tk_not A) pc T F := by
  intro κ X st hst ρ μ Qt Qf hr h kt kf
  exact ha κ X st hst ρ μ _ _ hr h kf kt
theorem tk_eqI {x y : Int} (hx : tk_r 0 x) (hy : tk_r 0 y) : (Int32.ofInt x = Int32.ofInt y) ↔ x = y := ⟨fun h => by rw [← tk_ofI hx, ← tk_ofI hy, h], fun h => by rw [h]⟩
theorem tk_ltI {x y : Int} (hx : tk_r 0 x) (hy : tk_r 0 y) : (Int32.ofInt x < Int32.ofInt y) ↔ x < y := by rw [Int32.lt_iff_toInt_lt, tk_ofI hx, tk_ofI hy]
theorem tk_leI {x y : Int} (hx : tk_r 0 x) (hy : tk_r 0 y) : (Int32.ofInt x ≤ Int32.ofInt y) ↔ x ≤ y := by rw [Int32.le_iff_toInt_le, tk_ofI hx, tk_ofI hy]
theorem tk_eqL {x y : Int} (hx : tk_r 1 x) (hy : tk_r 1 y) : (Int64.ofInt x = Int64.ofInt y) ↔ x = y := ⟨fun h => by rw [← tk_ofL hx, ← tk_ofL hy, h], fun h => by rw [h]⟩
theorem tk_ltL {x y : Int} (hx : tk_r 1 x) (hy : tk_r 1 y) : (Int64.ofInt x < Int64.ofInt y) ↔ x < y := by rw [Int64.lt_iff_toInt_lt, tk_ofL hx, tk_ofL hy]
theorem tk_cmp {x y : Int} (hx : tk_r 1 x) (hy : tk_r 1 y) : lg_cmp (Int64.ofInt x) (Int64.ofInt y) = Int32.ofInt (if y < x then 1 else if x = y then 0 else -1) := by
  have e1 : (Int64.ofInt x > Int64.ofInt y) ↔ y < x := tk_ltL hy hx
  have e2 := tk_eqL hx hy
  unfold lg_cmp
  by_cases h1 : y < x
  · rw [if_pos (e1.mpr h1), if_pos h1]; rfl
  · rw [if_neg (fun z => h1 (e1.mp z)), if_neg h1]
    by_cases h2 : x = y
    · rw [if_pos (e2.mpr h2), if_pos h2]; rfl
    · rw [if_neg (fun z => h2 (e2.mp z)), if_neg h2]; rfl
/-- the six jumps on two ints, in ints -/
def tk_rl (r : Nat) (x y : Int) : Prop := match r with
  | 0 => x = y
  | 1 => ¬ x = y
  | 2 => x < y
  | 3 => y ≤ x
  | 4 => y < x
  | _ => x ≤ y
theorem tk_j2eq {κ : tk_K} {ν : tk_N} {H : Heap} {locs : List Loc} {ls : Array Slot} {pc tgt : Nat} {st : List Value} {off : Int} (X : tk_X κ ν) {x y : Int} (hx : tk_r 0 x) (hy : tk_r 0 y) (hd : decode ν.1 pc = .ok (.if_icmp .eq off, 3)) (ht : (pc : Int) + off = (tgt : Int)) (kt : x = y → tk_W κ ν H locs tgt ls st) (kf : ¬ (x = y) → tk_W κ ν H locs (pc + 3) ls st) : tk_W κ ν H locs pc ls (.int (Int32.ofInt y) :: .int (Int32.ofInt x) :: st) := by
  refine lv_icmp_eq X.1 X.2.1 hd ht (fun z => kt ?_) (fun z => kf ?_)
  · first | exact (tk_eqI hx hy).mp z
  · first | exact fun w => z ((tk_eqI hx hy).mpr w)
theorem tk_j1eq {κ : tk_K} {ν : tk_N} {H : Heap} {locs : List Loc} {ls : Array Slot} {pc tgt : Nat} {st : List Value} {off : Int} (X : tk_X κ ν) {x : Int} (hx : tk_r 0 x) (hd : decode ν.1 pc = .ok (.ifCond .eq off, 3)) (ht : (pc : Int) + off = (tgt : Int)) (kt : x = 0 → tk_W κ ν H locs tgt ls st) (kf : ¬ (x = 0) → tk_W κ ν H locs (pc + 3) ls st) : tk_W κ ν H locs pc ls (.int (Int32.ofInt x) :: st) := by
  have hy : tk_r 0 0 := ⟨by omega, by omega⟩
  refine lv_if_eq X.1 X.2.1 hd ht (fun z => kt ?_) (fun z => kf ?_)
  · first | exact (tk_eqI hx hy).mp z
  · first | exact fun w => z ((tk_eqI hx hy).mpr w)
theorem tk_j2ne {κ : tk_K} {ν : tk_N} {H : Heap} {locs : List Loc} {ls : Array Slot} {pc tgt : Nat} {st : List Value} {off : Int} (X : tk_X κ ν) {x y : Int} (hx : tk_r 0 x) (hy : tk_r 0 y) (hd : decode ν.1 pc = .ok (.if_icmp .ne off, 3)) (ht : (pc : Int) + off = (tgt : Int)) (kt : ¬ x = y → tk_W κ ν H locs tgt ls st) (kf : ¬ (¬ x = y) → tk_W κ ν H locs (pc + 3) ls st) : tk_W κ ν H locs pc ls (.int (Int32.ofInt y) :: .int (Int32.ofInt x) :: st) := by
  refine lv_icmp_ne X.1 X.2.1 hd ht (fun z => kt ?_) (fun z => kf ?_)
  · first | exact fun w => z ((tk_eqI hx hy).mpr w)
  · first | exact fun w => w ((tk_eqI hx hy).mp z)
theorem tk_j1ne {κ : tk_K} {ν : tk_N} {H : Heap} {locs : List Loc} {ls : Array Slot} {pc tgt : Nat} {st : List Value} {off : Int} (X : tk_X κ ν) {x : Int} (hx : tk_r 0 x) (hd : decode ν.1 pc = .ok (.ifCond .ne off, 3)) (ht : (pc : Int) + off = (tgt : Int)) (kt : ¬ x = 0 → tk_W κ ν H locs tgt ls st) (kf : ¬ (¬ x = 0) → tk_W κ ν H locs (pc + 3) ls st) : tk_W κ ν H locs pc ls (.int (Int32.ofInt x) :: st) := by
  have hy : tk_r 0 0 := ⟨by omega, by omega⟩
  refine lv_if_ne X.1 X.2.1 hd ht (fun z => kt ?_) (fun z => kf ?_)
  · first | exact fun w => z ((tk_eqI hx hy).mpr w)
  · first | exact fun w => w ((tk_eqI hx hy).mp z)
theorem tk_j2lt {κ : tk_K} {ν : tk_N} {H : Heap} {locs : List Loc} {ls : Array Slot} {pc tgt : Nat} {st : List Value} {off : Int} (X : tk_X κ ν) {x y : Int} (hx : tk_r 0 x) (hy : tk_r 0 y) (hd : decode ν.1 pc = .ok (.if_icmp .lt off, 3)) (ht : (pc : Int) + off = (tgt : Int)) (kt : x < y → tk_W κ ν H locs tgt ls st) (kf : ¬ (x < y) → tk_W κ ν H locs (pc + 3) ls st) : tk_W κ ν H locs pc ls (.int (Int32.ofInt y) :: .int (Int32.ofInt x) :: st) := by
  refine lv_icmp_lt X.1 X.2.1 hd ht (fun z => kt ?_) (fun z => kf ?_)
  · first | exact (tk_ltI hx hy).mp z | exact Int.not_le.mp fun w => absurd ((tk_leI hy hx).mpr w) (by simpa using z)
  · first | exact fun w => z ((tk_ltI hx hy).mpr w) | exact fun w => absurd ((tk_ltI hx hy).mpr w) (by simpa using z)
theorem tk_j1lt {κ : tk_K} {ν : tk_N} {H : Heap} {locs : List Loc} {ls : Array Slot} {pc tgt : Nat} {st : List Value} {off : Int} (X : tk_X κ ν) {x : Int} (hx : tk_r 0 x) (hd : decode ν.1 pc = .ok (.ifCond .lt off, 3)) (ht : (pc : Int) + off = (tgt : Int)) (kt : x < 0 → tk_W κ ν H locs tgt ls st) (kf : ¬ (x < 0) → tk_W κ ν H locs (pc + 3) ls st) : tk_W κ ν H locs pc ls (.int (Int32.ofInt x) :: st) := by
  have hy : tk_r 0 0 := ⟨by omega, by omega⟩
  refine lv_if_lt X.1 X.2.1 hd ht (fun z => kt ?_) (fun z => kf ?_)
  · first | exact (tk_ltI hx hy).mp z | exact Int.not_le.mp fun w => absurd ((tk_leI hy hx).mpr w) (by simpa using z)
  · first | exact fun w => z ((tk_ltI hx hy).mpr w) | exact fun w => absurd ((tk_ltI hx hy).mpr w) (by simpa using z)
theorem tk_j2ge {κ : tk_K} {ν : tk_N} {H : Heap} {locs : List Loc} {ls : Array Slot} {pc tgt : Nat} {st : List Value} {off : Int} (X : tk_X κ ν) {x y : Int} (hx : tk_r 0 x) (hy : tk_r 0 y) (hd : decode ν.1 pc = .ok (.if_icmp .ge off, 3)) (ht : (pc : Int) + off = (tgt : Int)) (kt : y ≤ x → tk_W κ ν H locs tgt ls st) (kf : ¬ (y ≤ x) → tk_W κ ν H locs (pc + 3) ls st) : tk_W κ ν H locs pc ls (.int (Int32.ofInt y) :: .int (Int32.ofInt x) :: st) := by
  refine lv_icmp_ge X.1 X.2.1 hd ht (fun z => kt ?_) (fun z => kf ?_)
  · first | exact (tk_leI hy hx).mp z | exact (tk_leI hy hx).mp (by simpa using z)
  · first | exact fun w => z ((tk_leI hy hx).mpr w) | exact fun w => absurd ((tk_leI hy hx).mpr w) (by simpa using z)
theorem tk_j1ge {κ : tk_K} {ν : tk_N} {H : Heap} {locs : List Loc} {ls : Array Slot} {pc tgt : Nat} {st : List Value} {off : Int} (X : tk_X κ ν) {x : Int} (hx : tk_r 0 x) (hd : decode ν.1 pc = .ok (.ifCond .ge off, 3)) (ht : (pc : Int) + off = (tgt : Int)) (kt : 0 ≤ x → tk_W κ ν H locs tgt ls st) (kf : ¬ (0 ≤ x) → tk_W κ ν H locs (pc + 3) ls st) : tk_W κ ν H locs pc ls (.int (Int32.ofInt x) :: st) := by
  have hy : tk_r 0 0 := ⟨by omega, by omega⟩
  refine lv_if_ge X.1 X.2.1 hd ht (fun z => kt ?_) (fun z => kf ?_)
  · first | exact (tk_leI hy hx).mp z | exact (tk_leI hy hx).mp (by simpa using z)
  · first | exact fun w => z ((tk_leI hy hx).mpr w) | exact fun w => absurd ((tk_leI hy hx).mpr w) (by simpa using z)
theorem tk_j2gt {κ : tk_K} {ν : tk_N} {H : Heap} {locs : List Loc} {ls : Array Slot} {pc tgt : Nat} {st : List Value} {off : Int} (X : tk_X κ ν) {x y : Int} (hx : tk_r 0 x) (hy : tk_r 0 y) (hd : decode ν.1 pc = .ok (.if_icmp .gt off, 3)) (ht : (pc : Int) + off = (tgt : Int)) (kt : y < x → tk_W κ ν H locs tgt ls st) (kf : ¬ (y < x) → tk_W κ ν H locs (pc + 3) ls st) : tk_W κ ν H locs pc ls (.int (Int32.ofInt y) :: .int (Int32.ofInt x) :: st) := by
  refine lv_icmp_gt X.1 X.2.1 hd ht (fun z => kt ?_) (fun z => kf ?_)
  · first | exact (tk_ltI hy hx).mp z | exact (tk_ltI hy hx).mp (by simpa using z)
  · first | exact fun w => z ((tk_ltI hy hx).mpr w) | exact fun w => absurd ((tk_ltI hy hx).mpr w) (by simpa using z)
theorem tk_j1gt {κ : tk_K} {ν : tk_N} {H : Heap} {locs : List Loc} {ls : Array Slot} {pc tgt : Nat} {st : List Value} {off : Int} (X : tk_X κ ν) {x : Int} (hx : tk_r 0 x) (hd : decode ν.1 pc = .ok (.ifCond .gt off, 3)) (ht : (pc : Int) + off = (tgt : Int)) (kt : 0 < x → tk_W κ ν H locs tgt ls st) (kf : ¬ (0 < x) → tk_W κ ν H locs (pc + 3) ls st) : tk_W κ ν H locs pc ls (.int (Int32.ofInt x) :: st) := by
  have hy : tk_r 0 0 := ⟨by omega, by omega⟩
  refine lv_if_gt X.1 X.2.1 hd ht (fun z => kt ?_) (fun z => kf ?_)
  · first | exact (tk_ltI hy hx).mp z | exact (tk_ltI hy hx).mp (by simpa using z)
  · first | exact fun w => z ((tk_ltI hy hx).mpr w) | exact fun w => absurd ((tk_ltI hy hx).mpr w) (by simpa using z)
theorem tk_j2le {κ : tk_K} {ν : tk_N} {H : Heap} {locs : List Loc} {ls : Array Slot} {pc tgt : Nat} {st : List Value} {off : Int} (X : tk_X κ ν) {x y : Int} (hx : tk_r 0 x) (hy : tk_r 0 y) (hd : decode ν.1 pc = .ok (.if_icmp .le off, 3)) (ht : (pc : Int) + off = (tgt : Int)) (kt : x ≤ y → tk_W κ ν H locs tgt ls st) (kf : ¬ (x ≤ y) → tk_W κ ν H locs (pc + 3) ls st) : tk_W κ ν H locs pc ls (.int (Int32.ofInt y) :: .int (Int32.ofInt x) :: st) := by
  refine lv_icmp_le X.1 X.2.1 hd ht (fun z => kt ?_) (fun z => kf ?_)
  · first | exact (tk_leI hx hy).mp z | exact (tk_leI hx hy).mp (by simpa using z)
  · first | exact fun w => z ((tk_leI hx hy).mpr w) | exact fun w => absurd ((tk_leI hx hy).mpr w) (by simpa using z)
theorem tk_j1le {κ : tk_K} {ν : tk_N} {H : Heap} {locs : List Loc} {ls : Array Slot} {pc tgt : Nat} {st : List Value} {off : Int} (X : tk_X κ ν) {x : Int} (hx : tk_r 0 x) (hd : decode ν.1 pc = .ok (.ifCond .le off, 3)) (ht : (pc : Int) + off = (tgt : Int)) (kt : x ≤ 0 → tk_W κ ν H locs tgt ls st) (kf : ¬ (x ≤ 0) → tk_W κ ν H locs (pc + 3) ls st) : tk_W κ ν H locs pc ls (.int (Int32.ofInt x) :: st) := by
  have hy : tk_r 0 0 := ⟨by omega, by omega⟩
  refine lv_if_le X.1 X.2.1 hd ht (fun z => kt ?_) (fun z => kf ?_)
  · first | exact (tk_leI hx hy).mp z | exact (tk_leI hx hy).mp (by simpa using z)
  · first | exact fun w => z ((tk_leI hx hy).mpr w) | exact fun w => absurd ((tk_leI hx hy).mpr w) (by simpa using z)
theorem tk_ok_ceqT {ν : tk_N} {Γ : List (Nat × Nat)} {d pc p1 p2 tgt : Nat} {off : Int} {a b : tk_Ex} (ha : tk_E ν Γ d a 0 pc p1) (hb : tk_E ν Γ (d + 1) b 0 p1 p2) (hd : decode ν.1 p2 = .ok (.if_icmp .eq off, 3)) (ht : (p2 : Int) + off = (tgt : Int)) : tk_Ck ν Γ d (tk_ceq a b) pc tgt (p2 + 3) := by
  intro κ X st hst ρ μ Qt Qf hr h kt kf
  refine ha κ X st hst ρ μ _ hr h (fun x μ1 h1 hx => ?_)
  refine hb κ X _ (tk_sum0 hst) ρ μ1 _ hr h1 (fun y μ2 h2 hy H ls locs hP hS hl => ?_)
  exact tk_j2eq X hx hy hd ht (fun z => kt _ (by rw [if_pos z] at h2; exact h2) H ls locs hP hS hl) (fun z => kf _ (by rw [if_neg z] at h2; exact h2) H ls locs hP hS hl)
theorem tk_ok_zeqT {ν : tk_N} {Γ : List (Nat × Nat)} {d pc p2 tgt : Nat} {off : Int} {a : tk_Ex} (ha : tk_E ν Γ d a 0 pc p2) (hd : decode ν.1 p2 = .ok (.ifCond .eq off, 3)) (ht : (p2 : Int) + off = (tgt : Int)) : tk_Ck ν Γ d (tk_zeq a) pc tgt (p2 + 3) := by
  intro κ X st hst ρ μ Qt Qf hr h kt kf
  refine ha κ X st hst ρ μ _ hr h (fun x μ2 h2 hx H ls locs hP hS hl => ?_)
  exact tk_j1eq X hx hd ht (fun z => kt _ (by rw [if_pos z] at h2; exact h2) H ls locs hP hS hl) (fun z => kf _ (by rw [if_neg z] at h2; exact h2) H ls locs hP hS hl)
theorem tk_ok_leqT {ν : tk_N} {Γ : List (Nat × Nat)} {d pc p1 p2 tgt : Nat} {off : Int} {a b : tk_Ex} (ha : tk_E ν Γ d a 1 pc p1) (hb : tk_E ν Γ (d + 2) b 1 p1 p2) (hd0 : decode ν.1 p2 = .ok (.lcmp, 1)) (hd : decode ν.1 (p2 + 1) = .ok (.ifCond .eq off, 3)) (ht : ((p2 + 1 : Nat) : Int) + off = (tgt : Int)) : tk_Ck ν Γ d (tk_ceq a b) pc tgt (p2 + 4) := by
  intro κ X st hst ρ μ Qt Qf hr h kt kf
  refine ha κ X st hst ρ μ _ hr h (fun x μ1 h1 hx => ?_)
  refine hb κ X _ (tk_sum1 hst) ρ μ1 _ hr h1 (fun y μ2 h2 hy H ls locs hP hS hl => ?_)
  refine W.lcmp X.1 X.2.1 hd0 ?_
  rw [tk_cmp hx hy]
  have hz : tk_r 0 (if y < x then 1 else if x = y then 0 else -1) := by split <;> first | exact ⟨by omega, by omega⟩ | (split <;> exact ⟨by omega, by omega⟩)
  refine tk_j1eq X hz hd ht (fun z => ?_) (fun z => ?_)
  · have z1 : x = y := by
      revert z; split <;> first | (intro z; omega) | (split <;> intro z <;> omega)
    exact kt _ (by rw [if_pos z1] at h2; exact h2) H ls locs hP hS hl
  · have z1 : ¬ (x = y) := by
      revert z; split <;> first | (intro z; omega) | (split <;> intro z <;> omega)
    exact kf _ (by rw [if_neg z1] at h2; exact h2) H ls locs hP hS hl
theorem tk_ok_ceqF {ν : tk_N} {Γ : List (Nat × Nat)} {d pc p1 p2 tgt : Nat} {off : Int} {a b : tk_Ex} (ha : tk_E ν Γ d a 0 pc p1) (hb : tk_E ν Γ (d + 1) b 0 p1 p2) (hd : decode ν.1 p2 = .ok (.if_icmp .ne off, 3)) (ht : (p2 : Int) + off = (tgt : Int)) : tk_Ck ν Γ d (tk_ceq a b) pc (p2 + 3) tgt := by
  intro κ X st hst ρ μ Qt Qf hr h kt kf
  refine ha κ X st hst ρ μ _ hr h (fun x μ1 h1 hx => ?_)
  refine hb κ X _ (tk_sum0 hst) ρ μ1 _ hr h1 (fun y μ2 h2 hy H ls locs hP hS hl => ?_)
  exact tk_j2ne X hx hy hd ht (fun z => kf _ (by rw [if_neg z] at h2; exact h2) H ls locs hP hS hl) (fun z => kt _ (by rw [if_pos (Decidable.not_not.mp z)] at h2; exact h2) H ls locs hP hS hl)
theorem tk_ok_zeqF {ν : tk_N} {Γ : List (Nat × Nat)} {d pc p2 tgt : Nat} {off : Int} {a : tk_Ex} (ha : tk_E ν Γ d a 0 pc p2) (hd : decode ν.1 p2 = .ok (.ifCond .ne off, 3)) (ht : (p2 : Int) + off = (tgt : Int)) : tk_Ck ν Γ d (tk_zeq a) pc (p2 + 3) tgt := by
  intro κ X st hst ρ μ Qt Qf hr h kt kf
  refine ha κ X st hst ρ μ _ hr h (fun x μ2 h2 hx H ls locs hP hS hl => ?_)
  exact tk_j1ne X hx hd ht (fun z => kf _ (by rw [if_neg z] at h2; exact h2) H ls locs hP hS hl) (fun z => kt _ (by rw [if_pos (Decidable.not_not.mp z)] at h2; exact h2) H ls locs hP hS hl)
theorem tk_ok_leqF {ν : tk_N} {Γ : List (Nat × Nat)} {d pc p1 p2 tgt : Nat} {off : Int} {a b : tk_Ex} (ha : tk_E ν Γ d a 1 pc p1) (hb : tk_E ν Γ (d + 2) b 1 p1 p2) (hd0 : decode ν.1 p2 = .ok (.lcmp, 1)) (hd : decode ν.1 (p2 + 1) = .ok (.ifCond .ne off, 3)) (ht : ((p2 + 1 : Nat) : Int) + off = (tgt : Int)) : tk_Ck ν Γ d (tk_ceq a b) pc (p2 + 4) tgt := by
  intro κ X st hst ρ μ Qt Qf hr h kt kf
  refine ha κ X st hst ρ μ _ hr h (fun x μ1 h1 hx => ?_)
  refine hb κ X _ (tk_sum1 hst) ρ μ1 _ hr h1 (fun y μ2 h2 hy H ls locs hP hS hl => ?_)
  refine W.lcmp X.1 X.2.1 hd0 ?_
  rw [tk_cmp hx hy]
  have hz : tk_r 0 (if y < x then 1 else if x = y then 0 else -1) := by split <;> first | exact ⟨by omega, by omega⟩ | (split <;> exact ⟨by omega, by omega⟩)
  refine tk_j1ne X hz hd ht (fun z => ?_) (fun z => ?_)
  · have z1 : ¬ (x = y) := by
      revert z; split <;> first | (intro z; omega) | (split <;> intro z <;> omega)
    exact kf _ (by rw [if_neg z1] at h2; exact h2) H ls locs hP hS hl
  · have z1 : x = y := by
      revert z; split <;> first | (intro z; omega) | (split <;> intro z <;> omega)
    exact kt _ (by rw [if_pos z1] at h2; exact h2) H ls locs hP hS hl
theorem tk_ok_cneT {ν : tk_N} {Γ : List (Nat × Nat)} {d pc p1 p2 tgt : Nat} {off : Int} {a b : tk_Ex} (ha : tk_E ν Γ d a 0 pc p1) (hb : tk_E ν Γ (d + 1) b 0 p1 p2) (hd : decode ν.1 p2 = .ok (.if_icmp .ne off, 3)) (ht : (p2 : Int) + off = (tgt : Int)) : tk_Ck ν Γ d (tk_cne a b) pc tgt (p2 + 3) := by
  intro κ X st hst ρ μ Qt Qf hr h kt kf
  refine ha κ X st hst ρ μ _ hr h (fun x μ1 h1 hx => ?_)
  refine hb κ X _ (tk_sum0 hst) ρ μ1 _ hr h1 (fun y μ2 h2 hy H ls locs hP hS hl => ?_)
  exact tk_j2ne X hx hy hd ht (fun z => kt _ (by rw [if_pos z] at h2; exact h2) H ls locs hP hS hl) (fun z => kf _ (by rw [if_neg z] at h2; exact h2) H ls locs hP hS hl)
theorem tk_ok_zneT {ν : tk_N} {Γ : List (Nat × Nat)} {d pc p2 tgt : Nat} {off : Int} {a : tk_Ex} (ha : tk_E ν Γ d a 0 pc p2) (hd : decode ν.1 p2 = .ok (.ifCond .ne off, 3)) (ht : (p2 : Int) + off = (tgt : Int)) : tk_Ck ν Γ d (tk_zne a) pc tgt (p2 + 3) := by
  intro κ X st hst ρ μ Qt Qf hr h kt kf
  refine ha κ X st hst ρ μ _ hr h (fun x μ2 h2 hx H ls locs hP hS hl => ?_)
  exact tk_j1ne X hx hd ht (fun z => kt _ (by rw [if_pos z] at h2; exact h2) H ls locs hP hS hl) (fun z => kf _ (by rw [if_neg z] at h2; exact h2) H ls locs hP hS hl)
theorem tk_ok_lneT {ν : tk_N} {Γ : List (Nat × Nat)} {d pc p1 p2 tgt : Nat} {off : Int} {a b : tk_Ex} (ha : tk_E ν Γ d a 1 pc p1) (hb : tk_E ν Γ (d + 2) b 1 p1 p2) (hd0 : decode ν.1 p2 = .ok (.lcmp, 1)) (hd : decode ν.1 (p2 + 1) = .ok (.ifCond .ne off, 3)) (ht : ((p2 + 1 : Nat) : Int) + off = (tgt : Int)) : tk_Ck ν Γ d (tk_cne a b) pc tgt (p2 + 4) := by
  intro κ X st hst ρ μ Qt Qf hr h kt kf
  refine ha κ X st hst ρ μ _ hr h (fun x μ1 h1 hx => ?_)
  refine hb κ X _ (tk_sum1 hst) ρ μ1 _ hr h1 (fun y μ2 h2 hy H ls locs hP hS hl => ?_)
  refine W.lcmp X.1 X.2.1 hd0 ?_
  rw [tk_cmp hx hy]
  have hz : tk_r 0 (if y < x then 1 else if x = y then 0 else -1) := by split <;> first | exact ⟨by omega, by omega⟩ | (split <;> exact ⟨by omega, by omega⟩)
  refine tk_j1ne X hz hd ht (fun z => ?_) (fun z => ?_)
  · have z1 : ¬ x = y := by
      revert z; split <;> first | (intro z; omega) | (split <;> intro z <;> omega)
    exact kt _ (by rw [if_pos z1] at h2; exact h2) H ls locs hP hS hl
  · have z1 : ¬ (¬ x = y) := by
      revert z; split <;> first | (intro z; omega) | (split <;> intro z <;> omega)
    exact kf _ (by rw [if_neg z1] at h2; exact h2) H ls locs hP hS hl
theorem tk_ok_cneF {ν : tk_N} {Γ : List (Nat × Nat)} {d pc p1 p2 tgt : Nat} {off : Int} {a b : tk_Ex} (ha : tk_E ν Γ d a 0 pc p1) (hb : tk_E ν Γ (d + 1) b 0 p1 p2) (hd : decode ν.1 p2 = .ok (.if_icmp .eq off, 3)) (ht : (p2 : Int) + off = (tgt : Int)) : tk_Ck ν Γ d (tk_cne a b) pc (p2 + 3) tgt := by
  intro κ X st hst ρ μ Qt Qf hr h kt kf
  refine ha κ X st hst ρ μ _ hr h (fun x μ1 h1 hx => ?_)
  refine hb κ X _ (tk_sum0 hst) ρ μ1 _ hr h1 (fun y μ2 h2 hy H ls locs hP hS hl => ?_)
  exact tk_j2eq X hx hy hd ht (fun z => kf _ (by rw [if_neg (fun w => w z)] at h2; exact h2) H ls locs hP hS hl) (fun z => kt _ (by rw [if_pos z] at h2; exact h2) H ls locs hP hS hl)
theorem tk_ok_zneF {ν : tk_N} {Γ : List (Nat × Nat)} {d pc p2 tgt : Nat} {off : Int} {a : tk_Ex} (ha : tk_E ν Γ d a 0 pc p2) (hd : decode ν.1 p2 = .ok (.ifCond .eq off, 3)) (ht : (p2 : Int) + off = (tgt : Int)) : tk_Ck ν Γ d (tk_zne a) pc (p2 + 3) tgt := by
  intro κ X st hst ρ μ Qt Qf hr h kt kf
  refine ha κ X st hst ρ μ _ hr h (fun x μ2 h2 hx H ls locs hP hS hl => ?_)
  exact tk_j1eq X hx hd ht (fun z => kf _ (by rw [if_neg (fun w => w z)] at h2; exact h2) H ls locs hP hS hl) (fun z => kt _ (by rw [if_pos z] at h2; exact h2) H ls locs hP hS hl)
theorem tk_ok_lneF {ν : tk_N} {Γ : List (Nat × Nat)} {d pc p1 p2 tgt : Nat} {off : Int} {a b : tk_Ex} (ha : tk_E ν Γ d a 1 pc p1) (hb : tk_E ν Γ (d + 2) b 1 p1 p2) (hd0 : decode ν.1 p2 = .ok (.lcmp, 1)) (hd : decode ν.1 (p2 + 1) = .ok (.ifCond .eq off, 3)) (ht : ((p2 + 1 : Nat) : Int) + off = (tgt : Int)) : tk_Ck ν Γ d (tk_cne a b) pc (p2 + 4) tgt := by
  intro κ X st hst ρ μ Qt Qf hr h kt kf
  refine ha κ X st hst ρ μ _ hr h (fun x μ1 h1 hx => ?_)
  refine hb κ X _ (tk_sum1 hst) ρ μ1 _ hr h1 (fun y μ2 h2 hy H ls locs hP hS hl => ?_)
  refine W.lcmp X.1 X.2.1 hd0 ?_
  rw [tk_cmp hx hy]
  have hz : tk_r 0 (if y < x then 1 else if x = y then 0 else -1) := by split <;> first | exact ⟨by omega, by omega⟩ | (split <;> exact ⟨by omega, by omega⟩)
  refine tk_j1eq X hz hd ht (fun z => ?_) (fun z => ?_)
  · have z1 : ¬ (¬ x = y) := by
      revert z; split <;> first | (intro z; omega) | (split <;> intro z <;> omega)
    exact kf _ (by rw [if_neg z1] at h2; exact h2) H ls locs hP hS hl
  · have z1 : ¬ x = y := by
      revert z; split <;> first | (intro z; omega) | (split <;> intro z <;> omega)
    exact kt _ (by rw [if_pos z1] at h2; exact h2) H ls locs hP hS hl
theorem tk_ok_cltT {ν : tk_N} {Γ : List (Nat × Nat)} {d pc p1 p2 tgt : Nat} {off : Int} {a b : tk_Ex} (ha : tk_E ν Γ d a 0 pc p1) (hb : tk_E ν Γ (d + 1) b 0 p1 p2) (hd : decode ν.1 p2 = .ok (.if_icmp .lt off, 3)) (ht : (p2 : Int) + off = (tgt : Int)) : tk_Ck ν Γ d (tk_clt a b) pc tgt (p2 + 3) := by
  intro κ X st hst ρ μ Qt Qf hr h kt kf
  refine ha κ X st hst ρ μ _ hr h (fun x μ1 h1 hx => ?_)
  refine hb κ X _ (tk_sum0 hst) ρ μ1 _ hr h1 (fun y μ2 h2 hy H ls locs hP hS hl => ?_)
  exact tk_j2lt X hx hy hd ht (fun z => kt _ (by rw [if_pos z] at h2; exact h2) H ls locs hP hS hl) (fun z => kf _ (by rw [if_neg z] at h2; exact h2) H ls locs hP hS hl)
theorem tk_ok_zltT {ν : tk_N} {Γ : List (Nat × Nat)} {d pc p2 tgt : Nat} {off : Int} {a : tk_Ex} (ha : tk_E ν Γ d a 0 pc p2) (hd : decode ν.1 p2 = .ok (.ifCond .lt off, 3)) (ht : (p2 : Int) + off = (tgt : Int)) : tk_Ck ν Γ d (tk_zlt a) pc tgt (p2 + 3) := by
  intro κ X st hst ρ μ Qt Qf hr h kt kf
  refine ha κ X st hst ρ μ _ hr h (fun x μ2 h2 hx H ls locs hP hS hl => ?_)
  exact tk_j1lt X hx hd ht (fun z => kt _ (by rw [if_pos z] at h2; exact h2) H ls locs hP hS hl) (fun z => kf _ (by rw [if_neg z] at h2; exact h2) H ls locs hP hS hl)
theorem tk_ok_lltT {ν : tk_N} {Γ : List (Nat × Nat)} {d pc p1 p2 tgt : Nat} {off : Int} {a b : tk_Ex} (ha : tk_E ν Γ d a 1 pc p1) (hb : tk_E ν Γ (d + 2) b 1 p1 p2) (hd0 : decode ν.1 p2 = .ok (.lcmp, 1)) (hd : decode ν.1 (p2 + 1) = .ok (.ifCond .lt off, 3)) (ht : ((p2 + 1 : Nat) : Int) + off = (tgt : Int)) : tk_Ck ν Γ d (tk_clt a b) pc tgt (p2 + 4) := by
  intro κ X st hst ρ μ Qt Qf hr h kt kf
  refine ha κ X st hst ρ μ _ hr h (fun x μ1 h1 hx => ?_)
  refine hb κ X _ (tk_sum1 hst) ρ μ1 _ hr h1 (fun y μ2 h2 hy H ls locs hP hS hl => ?_)
  refine W.lcmp X.1 X.2.1 hd0 ?_
  rw [tk_cmp hx hy]
  have hz : tk_r 0 (if y < x then 1 else if x = y then 0 else -1) := by split <;> first | exact ⟨by omega, by omega⟩ | (split <;> exact ⟨by omega, by omega⟩)
  refine tk_j1lt X hz hd ht (fun z => ?_) (fun z => ?_)
  · have z1 : x < y := by
      revert z; split <;> first | (intro z; omega) | (split <;> intro z <;> omega)
    exact kt _ (by rw [if_pos z1] at h2; exact h2) H ls locs hP hS hl
  · have z1 : ¬ (x < y) := by
      revert z; split <;> first | (intro z; omega) | (split <;> intro z <;> omega)
    exact kf _ (by rw [if_neg z1] at h2; exact h2) H ls locs hP hS hl
theorem tk_ok_cltF {ν : tk_N} {Γ : List (Nat × Nat)} {d pc p1 p2 tgt : Nat} {off : Int} {a b : tk_Ex} (ha : tk_E ν Γ d a 0 pc p1) (hb : tk_E ν Γ (d + 1) b 0 p1 p2) (hd : decode ν.1 p2 = .ok (.if_icmp .ge off, 3)) (ht : (p2 : Int) + off = (tgt : Int)) : tk_Ck ν Γ d (tk_clt a b) pc (p2 + 3) tgt := by
  intro κ X st hst ρ μ Qt Qf hr h kt kf
  refine ha κ X st hst ρ μ _ hr h (fun x μ1 h1 hx => ?_)
  refine hb κ X _ (tk_sum0 hst) ρ μ1 _ hr h1 (fun y μ2 h2 hy H ls locs hP hS hl => ?_)
  exact tk_j2ge X hx hy hd ht (fun z => kf _ (by rw [if_neg (by omega)] at h2; exact h2) H ls locs hP hS hl) (fun z => kt _ (by rw [if_pos (by omega)] at h2; exact h2) H ls locs hP hS hl)
theorem tk_ok_zltF {ν : tk_N} {Γ : List (Nat × Nat)} {d pc p2 tgt : Nat} {off : Int} {a : tk_Ex} (ha : tk_E ν Γ d a 0 pc p2) (hd : decode ν.1 p2 = .ok (.ifCond .ge off, 3)) (ht : (p2 : Int) + off = (tgt : Int)) : tk_Ck ν Γ d (tk_zlt a) pc (p2 + 3) tgt := by
  intro κ X st hst ρ μ Qt Qf hr h kt kf
  refine ha κ X st hst ρ μ _ hr h (fun x μ2 h2 hx H ls locs hP hS hl => ?_)
  exact tk_j1ge X hx hd ht (fun z => kf _ (by rw [if_neg (by omega)] at h2; exact h2) H ls locs hP hS hl) (fun z => kt _ (by rw [if_pos (by omega)] at h2; exact h2) H ls locs hP hS hl)
theorem tk_ok_lltF {ν : tk_N} {Γ : List (Nat × Nat)} {d pc p1 p2 tgt : Nat} {off : Int} {a b : tk_Ex} (ha : tk_E ν Γ d a 1 pc p1) (hb : tk_E ν Γ (d + 2) b 1 p1 p2) (hd0 : decode ν.1 p2 = .ok (.lcmp, 1)) (hd : decode ν.1 (p2 + 1) = .ok (.ifCond .ge off, 3)) (ht : ((p2 + 1 : Nat) : Int) + off = (tgt : Int)) : tk_Ck ν Γ d (tk_clt a b) pc (p2 + 4) tgt := by
  intro κ X st hst ρ μ Qt Qf hr h kt kf
  refine ha κ X st hst ρ μ _ hr h (fun x μ1 h1 hx => ?_)
  refine hb κ X _ (tk_sum1 hst) ρ μ1 _ hr h1 (fun y μ2 h2 hy H ls locs hP hS hl => ?_)
  refine W.lcmp X.1 X.2.1 hd0 ?_
  rw [tk_cmp hx hy]
  have hz : tk_r 0 (if y < x then 1 else if x = y then 0 else -1) := by split <;> first | exact ⟨by omega, by omega⟩ | (split <;> exact ⟨by omega, by omega⟩)
  refine tk_j1ge X hz hd ht (fun z => ?_) (fun z => ?_)
  · have z1 : ¬ (x < y) := by
      revert z; split <;> first | (intro z; omega) | (split <;> intro z <;> omega)
    exact kf _ (by rw [if_neg z1] at h2; exact h2) H ls locs hP hS hl
  · have z1 : x < y := by
      revert z; split <;> first | (intro z; omega) | (split <;> intro z <;> omega)
    exact kt _ (by rw [if_pos z1] at h2; exact h2) H ls locs hP hS hl
theorem tk_ok_cgeT {ν : tk_N} {Γ : List (Nat × Nat)} {d pc p1 p2 tgt : Nat} {off : Int} {a b : tk_Ex} (ha : tk_E ν Γ d a 0 pc p1) (hb : tk_E ν Γ (d + 1) b 0 p1 p2) (hd : decode ν.1 p2 = .ok (.if_icmp .ge off, 3)) (ht : (p2 : Int) + off = (tgt : Int)) : tk_Ck ν Γ d (tk_cge a b) pc tgt (p2 + 3) := by
  intro κ X st hst ρ μ Qt Qf hr h kt kf
  refine ha κ X st hst ρ μ _ hr h (fun x μ1 h1 hx => ?_)
  refine hb κ X _ (tk_sum0 hst) ρ μ1 _ hr h1 (fun y μ2 h2 hy H ls locs hP hS hl => ?_)
  exact tk_j2ge X hx hy hd ht (fun z => kt _ (by rw [if_pos z] at h2; exact h2) H ls locs hP hS hl) (fun z => kf _ (by rw [if_neg z] at h2; exact h2) H ls locs hP hS hl)
theorem tk_ok_zgeT {ν : tk_N} {Γ : List (Nat × Nat)} {d pc p2 tgt : Nat} {off : Int} {a : tk_Ex} (ha : tk_E ν Γ d a 0 pc p2) (hd : decode ν.1 p2 = .ok (.ifCond .ge off, 3)) (ht : (p2 : Int) + off = (tgt : Int)) : tk_Ck ν Γ d (tk_zge a) pc tgt (p2 + 3) := by
  intro κ X st hst ρ μ Qt Qf hr h kt kf
  refine ha κ X st hst ρ μ _ hr h (fun x μ2 h2 hx H ls locs hP hS hl => ?_)
  exact tk_j1ge X hx hd ht (fun z => kt _ (by rw [if_pos z] at h2; exact h2) H ls locs hP hS hl) (fun z => kf _ (by rw [if_neg z] at h2; exact h2) H ls locs hP hS hl)
theorem tk_ok_lgeT {ν : tk_N} {Γ : List (Nat × Nat)} {d pc p1 p2 tgt : Nat} {off : Int} {a b : tk_Ex} (ha : tk_E ν Γ d a 1 pc p1) (hb : tk_E ν Γ (d + 2) b 1 p1 p2) (hd0 : decode ν.1 p2 = .ok (.lcmp, 1)) (hd : decode ν.1 (p2 + 1) = .ok (.ifCond .ge off, 3)) (ht : ((p2 + 1 : Nat) : Int) + off = (tgt : Int)) : tk_Ck ν Γ d (tk_cge a b) pc tgt (p2 + 4) := by
  intro κ X st hst ρ μ Qt Qf hr h kt kf
  refine ha κ X st hst ρ μ _ hr h (fun x μ1 h1 hx => ?_)
  refine hb κ X _ (tk_sum1 hst) ρ μ1 _ hr h1 (fun y μ2 h2 hy H ls locs hP hS hl => ?_)
  refine W.lcmp X.1 X.2.1 hd0 ?_
  rw [tk_cmp hx hy]
  have hz : tk_r 0 (if y < x then 1 else if x = y then 0 else -1) := by split <;> first | exact ⟨by omega, by omega⟩ | (split <;> exact ⟨by omega, by omega⟩)
  refine tk_j1ge X hz hd ht (fun z => ?_) (fun z => ?_)
  · have z1 : y ≤ x := by
      revert z; split <;> first | (intro z; omega) | (split <;> intro z <;> omega)
    exact kt _ (by rw [if_pos z1] at h2; exact h2) H ls locs hP hS hl
  · have z1 : ¬ (y ≤ x) := by
      revert z; split <;> first | (intro z; omega) | (split <;> intro z <;> omega)
    exact kf _ (by rw [if_neg z1] at h2; exact h2) H ls locs hP hS hl
theorem tk_ok_cgeF {ν : tk_N} {Γ : List (Nat × Nat)} {d pc p1 p2 tgt : Nat} {off : Int} {a b : tk_Ex} (ha : tk_E ν Γ d a 0 pc p1) (hb : tk_E ν Γ (d + 1) b 0 p1 p2) (hd : decode ν.1 p2 = .ok (.if_icmp .lt off, 3)) (ht : (p2 : Int) + off = (tgt : Int)) : tk_Ck ν Γ d (tk_cge a b) pc (p2 + 3) tgt := by
  intro κ X st hst ρ μ Qt Qf hr h kt kf
  refine ha κ X st hst ρ μ _ hr h (fun x μ1 h1 hx => ?_)
  refine hb κ X _ (tk_sum0 hst) ρ μ1 _ hr h1 (fun y μ2 h2 hy H ls locs hP hS hl => ?_)
  exact tk_j2lt X hx hy hd ht (fun z => kf _ (by rw [if_neg (by omega)] at h2; exact h2) H ls locs hP hS hl) (fun z => kt _ (by rw [if_pos (by omega)] at h2; exact h2) H ls locs hP hS hl)
theorem tk_ok_zgeF {ν : tk_N} {Γ : List (Nat × Nat)} {d pc p2 tgt : Nat} {off : Int} {a : tk_Ex} (ha : tk_E ν Γ d a 0 pc p2) (hd : decode ν.1 p2 = .ok (.ifCond .lt off, 3)) (ht : (p2 : Int) + off = (tgt : Int)) : tk_Ck ν Γ d (tk_zge a) pc (p2 + 3) tgt := by
  intro κ X st hst ρ μ Qt Qf hr h kt kf
  refine ha κ X st hst ρ μ _ hr h (fun x μ2 h2 hx H ls locs hP hS hl => ?_)
  exact tk_j1lt X hx hd ht (fun z => kf _ (by rw [if_neg (by omega)] at h2; exact h2) H ls locs hP hS hl) (fun z => kt _ (by rw [if_pos (by omega)] at h2; exact h2) H ls locs hP hS hl)
theorem tk_ok_lgeF {ν : tk_N} {Γ : List (Nat × Nat)} {d pc p1 p2 tgt : Nat} {off : Int} {a b : tk_Ex} (ha : tk_E ν Γ d a 1 pc p1) (hb : tk_E ν Γ (d + 2) b 1 p1 p2) (hd0 : decode ν.1 p2 = .ok (.lcmp, 1)) (hd : decode ν.1 (p2 + 1) = .ok (.ifCond .lt off, 3)) (ht : ((p2 + 1 : Nat) : Int) + off = (tgt : Int)) : tk_Ck ν Γ d (tk_cge a b) pc (p2 + 4) tgt := by
  intro κ X st hst ρ μ Qt Qf hr h kt kf
  refine ha κ X st hst ρ μ _ hr h (fun x μ1 h1 hx => ?_)
  refine hb κ X _ (tk_sum1 hst) ρ μ1 _ hr h1 (fun y μ2 h2 hy H ls locs hP hS hl => ?_)
  refine W.lcmp X.1 X.2.1 hd0 ?_
  rw [tk_cmp hx hy]
  have hz : tk_r 0 (if y < x then 1 else if x = y then 0 else -1) := by split <;> first | exact ⟨by omega, by omega⟩ | (split <;> exact ⟨by omega, by omega⟩)
  refine tk_j1lt X hz hd ht (fun z => ?_) (fun z => ?_)
  · have z1 : ¬ (y ≤ x) := by
      revert z; split <;> first | (intro z; omega) | (split <;> intro z <;> omega)
    exact kf _ (by rw [if_neg z1] at h2; exact h2) H ls locs hP hS hl
  · have z1 : y ≤ x := by
      revert z; split <;> first | (intro z; omega) | (split <;> intro z <;> omega)
    exact kt _ (by rw [if_pos z1] at h2; exact h2) H ls locs hP hS hl
theorem tk_ok_cgtT {ν : tk_N} {Γ : List (Nat × Nat)} {d pc p1 p2 tgt : Nat} {off : Int} {a b : tk_Ex} (ha : tk_E ν Γ d a 0 pc p1) (hb : tk_E ν Γ (d + 1) b 0 p1 p2) (hd : decode ν.1 p2 = .ok (.if_icmp .gt off, 3)) (ht : (p2 : Int) + off = (tgt : Int)) : tk_Ck ν Γ d (tk_cgt a b) pc tgt (p2 + 3) := by
  intro κ X st hst ρ μ Qt Qf hr h kt kf
  refine ha κ X st hst ρ μ _ hr h (fun x μ1 h1 hx => ?_)
  refine hb κ X _ (tk_sum0 hst) ρ μ1 _ hr h1 (fun y μ2 h2 hy H ls locs hP hS hl => ?_)
  exact tk_j2gt X hx hy hd ht (fun z => kt _ (by rw [if_pos z] at h2; exact h2) H ls locs hP hS hl) (fun z => kf _ (by rw [if_neg z] at h2; exact h2) H ls locs hP hS hl)
theorem tk_ok_zgtT {ν : tk_N} {Γ : List (Nat × Nat)} {d pc p2 tgt : Nat} {off : Int} {a : tk_Ex} (ha : tk_E ν Γ d a 0 pc p2) (hd : decode ν.1 p2 = .ok (.ifCond .gt off, 3)) (ht : (p2 : Int) + off = (tgt : Int)) : tk_Ck ν Γ d (tk_zgt a) pc tgt (p2 + 3) := by
  intro κ X st hst ρ μ Qt Qf hr h kt kf
  refine ha κ X st hst ρ μ _ hr h (fun x μ2 h2 hx H ls locs hP hS hl => ?_)
  exact tk_j1gt X hx hd ht (fun z => kt _ (by rw [if_pos z] at h2; exact h2) H ls locs hP hS hl) (fun z => kf _ (by rw [if_neg z] at h2; exact h2) H ls locs hP hS hl)
theorem tk_ok_lgtT {ν : tk_N} {Γ : List (Nat × Nat)} {d pc p1 p2 tgt : Nat} {off : Int} {a b : tk_Ex} (ha : tk_E ν Γ d a 1 pc p1) (hb : tk_E ν Γ (d + 2) b 1 p1 p2) (hd0 : decode ν.1 p2 = .ok (.lcmp, 1)) (hd : decode ν.1 (p2 + 1) = .ok (.ifCond .gt off, 3)) (ht : ((p2 + 1 : Nat) : Int) + off = (tgt : Int)) : tk_Ck ν Γ d (tk_cgt a b) pc tgt (p2 + 4) := by
  intro κ X st hst ρ μ Qt Qf hr h kt kf
  refine ha κ X st hst ρ μ _ hr h (fun x μ1 h1 hx => ?_)
  refine hb κ X _ (tk_sum1 hst) ρ μ1 _ hr h1 (fun y μ2 h2 hy H ls locs hP hS hl => ?_)
  refine W.lcmp X.1 X.2.1 hd0 ?_
  rw [tk_cmp hx hy]
  have hz : tk_r 0 (if y < x then 1 else if x = y then 0 else -1) := by split <;> first | exact ⟨by omega, by omega⟩ | (split <;> exact ⟨by omega, by omega⟩)
  refine tk_j1gt X hz hd ht (fun z => ?_) (fun z => ?_)
  · have z1 : y < x := by
      revert z; split <;> first | (intro z; omega) | (split <;> intro z <;> omega)
    exact kt _ (by rw [if_pos z1] at h2; exact h2) H ls locs hP hS hl
  · have z1 : ¬ (y < x) := by
      revert z; split <;> first | (intro z; omega) | (split <;> intro z <;> omega)
    exact kf _ (by rw [if_neg z1] at h2; exact h2) H ls locs hP hS hl
theorem tk_ok_cgtF {ν : tk_N} {Γ : List (Nat × Nat)} {d pc p1 p2 tgt : Nat} {off : Int} {a b : tk_Ex} (ha : tk_E ν Γ d a 0 pc p1) (hb : tk_E ν Γ (d + 1) b 0 p1 p2) (hd : decode ν.1 p2 = .ok (.if_icmp .le off, 3)) (ht : (p2 : Int) + off = (tgt : Int)) : tk_Ck ν Γ d (tk_cgt a b) pc (p2 + 3) tgt := by
  intro κ X st hst ρ μ Qt Qf hr h kt kf
  refine ha κ X st hst ρ μ _ hr h (fun x μ1 h1 hx => ?_)
  refine hb κ X _ (tk_sum0 hst) ρ μ1 _ hr h1 (fun y μ2 h2 hy H ls locs hP hS hl => ?_)
  exact tk_j2le X hx hy hd ht (fun z => kf _ (by rw [if_neg (by omega)] at h2; exact h2) H ls locs hP hS hl) (fun z => kt _ (by rw [if_pos (by omega)] at h2; exact h2) H ls locs hP hS hl)
theorem tk_ok_zgtF {ν : tk_N} {Γ : List (Nat × Nat)} {d pc p2 tgt : Nat} {off : Int} {a : tk_Ex} (ha : tk_E ν Γ d a 0 pc p2) (hd : decode ν.1 p2 = .ok (.ifCond .le off, 3)) (ht : (p2 : Int) + off = (tgt : Int)) : tk_Ck ν Γ d (tk_zgt a) pc (p2 + 3) tgt := by
  intro κ X st hst ρ μ Qt Qf hr h kt kf
  refine ha κ X st hst ρ μ _ hr h (fun x μ2 h2 hx H ls locs hP hS hl => ?_)
  exact tk_j1le X hx hd ht (fun z => kf _ (by rw [if_neg (by omega)] at h2; exact h2) H ls locs hP hS hl) (fun z => kt _ (by rw [if_pos (by omega)] at h2; exact h2) H ls locs hP hS hl)
theorem tk_ok_lgtF {ν : tk_N} {Γ : List (Nat × Nat)} {d pc p1 p2 tgt : Nat} {off : Int} {a b : tk_Ex} (ha : tk_E ν Γ d a 1 pc p1) (hb : tk_E ν Γ (d + 2) b 1 p1 p2) (hd0 : decode ν.1 p2 = .ok (.lcmp, 1)) (hd : decode ν.1 (p2 + 1) = .ok (.ifCond .le off, 3)) (ht : ((p2 + 1 : Nat) : Int) + off = (tgt : Int)) : tk_Ck ν Γ d (tk_cgt a b) pc (p2 + 4) tgt := by
  intro κ X st hst ρ μ Qt Qf hr h kt kf
  refine ha κ X st hst ρ μ _ hr h (fun x μ1 h1 hx => ?_)
  refine hb κ X _ (tk_sum1 hst) ρ μ1 _ hr h1 (fun y μ2 h2 hy H ls locs hP hS hl => ?_)
  refine W.lcmp X.1 X.2.1 hd0 ?_
  rw [tk_cmp hx hy]
  have hz : tk_r 0 (if y < x then 1 else if x = y then 0 else -1) := by split <;> first | exact ⟨by omega, by omega⟩ | (split <;> exact ⟨by omega, by omega⟩)
  refine tk_j1le X hz hd ht (fun z => ?_) (fun z => ?_)
  · have z1 : ¬ (y < x) := by
      revert z; split <;> first | (intro z; omega) | (split <;> intro z <;> omega)
    exact kf _ (by rw [if_neg z1] at h2; exact h2) H ls locs hP hS hl
  · have z1 : y < x := by
      revert z; split <;> first | (intro z; omega) | (split <;> intro z <;> omega)
    exact kt _ (by rw [if_pos z1] at h2; exact h2) H ls locs hP hS hl
theorem tk_ok_cleT {ν : tk_N} {Γ : List (Nat × Nat)} {d pc p1 p2 tgt : Nat} {off : Int} {a b : tk_Ex} (ha : tk_E ν Γ d a 0 pc p1) (hb : tk_E ν Γ (d + 1) b 0 p1 p2) (hd : decode ν.1 p2 = .ok (.if_icmp .le off, 3)) (ht : (p2 : Int) + off = (tgt : Int)) : tk_Ck ν Γ d (tk_cle a b) pc tgt (p2 + 3) := by
  intro κ X st hst ρ μ Qt Qf hr h kt kf
  refine ha κ X st hst ρ μ _ hr h (fun x μ1 h1 hx => ?_)
  refine hb κ X _ (tk_sum0 hst) ρ μ1 _ hr h1 (fun y μ2 h2 hy H ls locs hP hS hl => ?_)
  exact tk_j2le X hx hy hd ht (fun z => kt _ (by rw [if_pos z] at h2; exact h2) H ls locs hP hS hl) (fun z => kf _ (by rw [if_neg z] at h2; exact h2) H ls locs hP hS hl)
theorem tk_ok_zleT {ν : tk_N} {Γ : List (Nat × Nat)} {d pc p2 tgt : Nat} {off : Int} {a : tk_Ex} (ha : tk_E ν Γ d a 0 pc p2) (hd : decode ν.1 p2 = .ok (.ifCond .le off, 3)) (ht : (p2 : Int) + off = (tgt : Int)) : tk_Ck ν Γ d (tk_zle a) pc tgt (p2 + 3) := by
  intro κ X st hst ρ μ Qt Qf hr h kt kf
  refine ha κ X st hst ρ μ _ hr h (fun x μ2 h2 hx H ls locs hP hS hl => ?_)
  exact tk_j1le X hx hd ht (fun z => kt _ (by rw [if_pos z] at h2; exact h2) H ls locs hP hS hl) (fun z => kf _ (by rw [if_neg z] at h2; exact h2) H ls locs hP hS hl)
theorem tk_ok_lleT {ν : tk_N} {Γ : List (Nat × Nat)} {d pc p1 p2 tgt : Nat} {off : Int} {a b : tk_Ex} (ha : tk_E ν Γ d a 1 pc p1) (hb : tk_E ν Γ (d + 2) b 1 p1 p2) (hd0 : decode ν.1 p2 = .ok (.lcmp, 1)) (hd : decode ν.1 (p2 + 1) = .ok (.ifCond .le off, 3)) (ht : ((p2 + 1 : Nat) : Int) + off = (tgt : Int)) : tk_Ck ν Γ d (tk_cle a b) pc tgt (p2 + 4) := by
  intro κ X st hst ρ μ Qt Qf hr h kt kf
  refine ha κ X st hst ρ μ _ hr h (fun x μ1 h1 hx => ?_)
  refine hb κ X _ (tk_sum1 hst) ρ μ1 _ hr h1 (fun y μ2 h2 hy H ls locs hP hS hl => ?_)
  refine W.lcmp X.1 X.2.1 hd0 ?_
  rw [tk_cmp hx hy]
  have hz : tk_r 0 (if y < x then 1 else if x = y then 0 else -1) := by split <;> first | exact ⟨by omega, by omega⟩ | (split <;> exact ⟨by omega, by omega⟩)
  refine tk_j1le X hz hd ht (fun z => ?_) (fun z => ?_)
  · have z1 : x ≤ y := by
      revert z; split <;> first | (intro z; omega) | (split <;> intro z <;> omega)
    exact kt _ (by rw [if_pos z1] at h2; exact h2) H ls locs hP hS hl
  · have z1 : ¬ (x ≤ y) := by
      revert z; split <;> first | (intro z; omega) | (split <;> intro z <;> omega)
    exact kf _ (by rw [if_neg z1] at h2; exact h2) H ls locs hP hS hl
theorem tk_ok_cleF {ν : tk_N} {Γ : List (Nat × Nat)} {d pc p1 p2 tgt : Nat} {off : Int} {a b : tk_Ex} (ha : tk_E ν Γ d a 0 pc p1) (hb : tk_E ν Γ (d + 1) b 0 p1 p2) (hd : decode ν.1 p2 = .ok (.if_icmp .gt off, 3)) (ht : (p2 : Int) + off = (tgt : Int)) : tk_Ck ν Γ d (tk_cle a b) pc (p2 + 3) tgt := by
  intro κ X st hst ρ μ Qt Qf hr h kt kf
  refine ha κ X st hst ρ μ _ hr h (fun x μ1 h1 hx => ?_)
  refine hb κ X _ (tk_sum0 hst) ρ μ1 _ hr h1 (fun y μ2 h2 hy H ls locs hP hS hl => ?_)
  exact tk_j2gt X hx hy hd ht (fun z => kf _ (by rw [if_neg (by omega)] at h2; exact h2) H ls locs hP hS hl) (fun z => kt _ (by rw [if_pos (by omega)] at h2; exact h2) H ls locs hP hS hl)
theorem tk_ok_zleF {ν : tk_N} {Γ : List (Nat × Nat)} {d pc p2 tgt : Nat} {off : Int} {a : tk_Ex} (ha : tk_E ν Γ d a 0 pc p2) (hd : decode ν.1 p2 = .ok (.ifCond .gt off, 3)) (ht : (p2 : Int) + off = (tgt : Int)) : tk_Ck ν Γ d (tk_zle a) pc (p2 + 3) tgt := by
  intro κ X st hst ρ μ Qt Qf hr h kt kf
  refine ha κ X st hst ρ μ _ hr h (fun x μ2 h2 hx H ls locs hP hS hl => ?_)
  exact tk_j1gt X hx hd ht (fun z => kf _ (by rw [if_neg (by omega)] at h2; exact h2) H ls locs hP hS hl) (fun z => kt _ (by rw [if_pos (by omega)] at h2; exact h2) H ls locs hP hS hl)
theorem tk_ok_lleF {ν : tk_N} {Γ : List (Nat × Nat)} {d pc p1 p2 tgt : Nat} {off : Int} {a b : tk_Ex} (ha : tk_E ν Γ d a 1 pc p1) (hb : tk_E ν Γ (d + 2) b 1 p1 p2) (hd0 : decode ν.1 p2 = .ok (.lcmp, 1)) (hd : decode ν.1 (p2 + 1) = .ok (.ifCond .gt off, 3)) (ht : ((p2 + 1 : Nat) : Int) + off = (tgt : Int)) : tk_Ck ν Γ d (tk_cle a b) pc (p2 + 4) tgt := by
  intro κ X st hst ρ μ Qt Qf hr h kt kf
  refine ha κ X st hst ρ μ _ hr h (fun x μ1 h1 hx => ?_)
  refine hb κ X _ (tk_sum1 hst) ρ μ1 _ hr h1 (fun y μ2 h2 hy H ls locs hP hS hl => ?_)
  refine W.lcmp X.1 X.2.1 hd0 ?_
  rw [tk_cmp hx hy]
  have hz : tk_r 0 (if y < x then 1 else if x = y then 0 else -1) := by split <;> first | exact ⟨by omega, by omega⟩ | (split <;> exact ⟨by omega, by omega⟩)
  refine tk_j1gt X hz hd ht (fun z => ?_) (fun z => ?_)
  · have z1 : ¬ (x ≤ y) := by
      revert z; split <;> first | (intro z; omega) | (split <;> intro z <;> omega)
    exact kf _ (by rw [if_neg z1] at h2; exact h2) H ls locs hP hS hl
  · have z1 : x ≤ y := by
      revert z; split <;> first | (intro z; omega) | (split <;> intro z <;> omega)
    exact kt _ (by rw [if_pos z1] at h2; exact h2) H ls locs hP hS hl
def tk_ct2 (C A B : tk_Cn) : tk_Cn := fun Qt Qf ρ μ => C (fun μ1 => A Qt Qf ρ μ1) (fun μ1 => B Qt Qf ρ μ1) ρ μ
theorem tk_ok_ct2 {ν : tk_N} {Γ : List (Nat × Nat)} {d pc T1 F1 Ta T F : Nat} {off : Int} {C A B : tk_Cn} (hc : tk_Ck ν Γ d C pc T1 F1) (ha : tk_Ck ν Γ d A T1 Ta F) (hd : decode ν.1 Ta = .ok (.goto off, 3)) (ht : (Ta : Int) + off = (T : Int)) (hb : tk_Ck ν Γ d B F1 T F) : tk_Ck ν Γ d (tk_ct2 C A B) pc T F := by
  intro κ X st hst ρ μ Qt Qf hr h kt kf
  exact hc κ X st hst ρ μ _ _ hr h (fun μ1 h1 => ha κ X st hst ρ μ1 _ _ hr h1 (fun μ2 h2 => tk_go X hd ht (kt μ2 h2)) kf) (fun μ1 h1 => hb κ X st hst ρ μ1 _ _ hr h1 kt kf)
end
section
/-! ===== statements ===== -/
def tk_sk : tk_Sm := fun Qn _ ρ μ => Qn ρ μ
def tk_sq (A B : tk_Sm) : tk_Sm := fun Qn Qr ρ μ => A (fun ρ1 μ1 => B Qn Qr ρ1 μ1) Qr ρ μ
def tk_if (C : tk_Cn) (A B : tk_Sm) : tk_Sm := fun Qn Qr ρ μ => C (fun μ1 => A Qn Qr ρ μ1) (fun μ1 => B Qn Qr ρ μ1) ρ μ
def tk_wN (C : tk_Cn) (B : tk_Sm) : Nat → tk_Sm
  | 0 => fun _ _ _ _ => False
  | n + 1 => fun Qn Qr ρ μ => C (fun μ1 => B (fun ρ2 μ2 => tk_wN C B n Qn Qr ρ2 μ2) Qr ρ μ1) (fun μ1 => Qn ρ μ1) ρ μ
def tk_wh (C : tk_Cn) (B : tk_Sm) : tk_Sm := fun Qn Qr ρ μ => ∃ n : Nat, tk_wN C B n Qn Qr ρ μ
def tk_swc (lo : Int) (D : tk_Sm) : List tk_Sm → Int → tk_Sm
  | [], _ => D
  | S :: r, v => fun Qn Qr ρ μ => if v = lo then S Qn Qr ρ μ else tk_swc (lo + 1) D r v Qn Qr ρ μ
def tk_sw (e : tk_Ex) (lo : Int) (Ss : List tk_Sm) (D : tk_Sm) : tk_Sm := fun Qn Qr ρ μ => e (fun v μ1 => tk_swc lo D Ss v Qn Qr ρ μ1) ρ μ
def tk_re (e : tk_Ex) : tk_Sm := fun _ Qr ρ μ => e Qr ρ μ
def tk_rez (e : tk_Ex) : tk_Sm := fun _ Qr ρ μ => e (fun v μ1 => (v = 0 ∨ v = 1) ∧ Qr v μ1) ρ μ
def tk_rev : tk_Sm := fun _ Qr _ μ => Qr 0 μ
def tk_xp (e : tk_Ex) : tk_Sm := fun Qn _ ρ μ => e (fun _ μ1 => Qn ρ μ1) ρ μ
def tk_se (k : Nat) (e : tk_Ex) : tk_Sm := fun Qn _ ρ μ => e (fun v μ1 => Qn (tk_up ρ k v) μ1) ρ μ
def tk_pf (ci : Nat) (j : Int) (a e : tk_Ex) : tk_Sm := fun Qn _ ρ μ => a (fun x μ1 => e (fun v μ2 => tk_isC ci x ∧ Qn ρ (tk_set μ2 x j v)) ρ μ1) ρ μ
def tk_pfz (ci : Nat) (j : Int) (a e : tk_Ex) : tk_Sm := fun Qn _ ρ μ => a (fun x μ1 => e (fun v μ2 => tk_isC ci x ∧ (v = 0 ∨ v = 1) ∧ Qn ρ (tk_set μ2 x j v)) ρ μ1) ρ μ
/-- x.f op= e -/
def tk_pfo (f : Int → Int → Int) (ci : Nat) (j : Int) (a e : tk_Ex) : tk_Sm := fun Qn _ ρ μ => a (fun x μ1 => tk_isC ci x ∧ e (fun v μ2 => Qn ρ (tk_set μ2 x j (f (μ1 x j) v))) ρ μ1) ρ μ
def tk_as (t : Nat) (a b e : tk_Ex) : tk_Sm := fun Qn _ ρ μ => a (fun x μ1 => b (fun i μ2 => e (fun v μ3 => (0 ≤ i ∧ i < tk_al t x) ∧ Qn ρ (tk_set μ3 x i v)) ρ μ2) ρ μ1) ρ μ
def tk_asz (a b e : tk_Ex) : tk_Sm := fun Qn _ ρ μ => a (fun x μ1 => b (fun i μ2 => e (fun v μ3 => (0 ≤ i ∧ i < tk_al 4 x) ∧ (v = 0 ∨ v = 1) ∧ Qn ρ (tk_set μ3 x i v)) ρ μ2) ρ μ1) ρ μ
def tk_asb (a b e : tk_Ex) : tk_Sm := fun Qn _ ρ μ => a (fun x μ1 => b (fun i μ2 => e (fun v μ3 => (0 ≤ i ∧ i < tk_al 5 x) ∧ Qn ρ (tk_set μ3 x i (tk_i2b v))) ρ μ2) ρ μ1) ρ μ
/-- a[i] op= e -/
def tk_aso (t : Nat) (f : Int → Int → Int) (a b e : tk_Ex) : tk_Sm := fun Qn _ ρ μ => a (fun x μ1 => b (fun i μ2 => (0 ≤ i ∧ i < tk_al t x) ∧ e (fun v μ3 => Qn ρ (tk_set μ3 x i (f (μ2 x i) v))) ρ μ2) ρ μ1) ρ μ
/-- items of one array to another's -/
def tk_blk (μ : tk_M) (a sp b dp n : Int) : tk_M := fun o j => if o = b ∧ dp ≤ j ∧ j < dp + n then μ a (sp + (j - dp)) else μ o j
def tk_cpy (t : Nat) (a sp b dp n : tk_Ex) : tk_Sm := fun Qn _ ρ μ => tk_args [a, sp, b, dp, n] (fun vs μ1 => match vs with
  | [x, i, y, j, k] => (0 ≤ i ∧ 0 ≤ j ∧ 0 ≤ k ∧ 0 < tk_al t x ∧ 0 < tk_al t y ∧ i + k ≤ tk_al t x ∧ j + k ≤ tk_al t y) ∧ Qn ρ (tk_blk μ1 x i y j k)
  | _ => False) ρ μ
theorem tk_ok_sk {ν : tk_N} {t pc : Nat} {Γ : List (Nat × Nat)} : tk_St ν t Γ Γ tk_sk pc pc := fun κ X ρ μ Qn Qr hr h kn _ => kn ρ μ h hr
theorem tk_ok_sgo {ν : tk_N} {t pc p1 L : Nat} {off : Int} {Γ Γ' : List (Nat × Nat)} {S : tk_Sm} (h : tk_St ν t Γ Γ' S pc p1) (hd : decode ν.1 p1 = .ok (.goto off, 3)) (ht : (p1 : Int) + off = (L : Int)) : tk_St ν t Γ Γ' S pc L := fun κ X ρ μ Qn Qr hr hs kn kr => h κ X ρ μ Qn Qr hr hs (fun ρ1 μ1 q1 r1 => tk_go X hd ht (kn ρ1 μ1 q1 r1)) kr
theorem tk_ok_sub {ν : tk_N} {t pc L : Nat} {Γ Γ1 Γ2 : List (Nat × Nat)} {S : tk_Sm} (h : tk_St ν t Γ Γ1 S pc L) (hs : ∀ q ∈ Γ2, q ∈ Γ1) : tk_St ν t Γ Γ2 S pc L := by
  intro κ X ρ μ Qn Qr hr h' kn kr
  refine h κ X ρ μ Qn Qr hr h' (fun ρ1 μ1 q1 r1 H ls locs hP hS hl => ?_) kr
  refine kn ρ1 μ1 q1 (fun q hq => r1 q (hs q hq)) H ls locs hP hS ⟨hl.1, hl.2.1, fun q hq => ?_⟩
  obtain ⟨q0, h0, rfl⟩ := List.mem_map.mp hq
  exact hl.2.2 _ (List.mem_map.mpr ⟨q0, hs q0 h0, rfl⟩)
theorem tk_ok_sq {ν : tk_N} {t pc p1 L : Nat} {Γ Γ1 Γ2 : List (Nat × Nat)} {A B : tk_Sm} (ha : tk_St ν t Γ Γ1 A pc p1) (hb : tk_St ν t Γ1 Γ2 B p1 L) : tk_St ν t Γ Γ2 (tk_sq A B) pc L := fun κ X ρ μ Qn Qr hr h kn kr => ha κ X ρ μ _ Qr hr h (fun ρ1 μ1 h1 r1 => hb κ X ρ1 μ1 Qn Qr r1 h1 kn kr) kr
theorem tk_ok_if {ν : tk_N} {t pc T F L : Nat} {Γ Γ' : List (Nat × Nat)} {C : tk_Cn} {A B : tk_Sm} (hc : tk_Ck ν Γ 0 C pc T F) (ha : tk_St ν t Γ Γ' A T L) (hb : tk_St ν t Γ Γ' B F L) : tk_St ν t Γ Γ' (tk_if C A B) pc L := fun κ X ρ μ Qn Qr hr h kn kr => hc κ X [] (Nat.le_refl 0) ρ μ _ _ hr h (fun μ1 h1 => ha κ X ρ μ1 Qn Qr hr h1 kn kr) (fun μ1 h1 => hb κ X ρ μ1 Qn Qr hr h1 kn kr)
theorem tk_ok_wh {ν : tk_N} {t pc T F : Nat} {Γ : List (Nat × Nat)} {C : tk_Cn} {B : tk_Sm} (hc : tk_Ck ν Γ 0 C pc T F) (hb : tk_St ν t Γ Γ B T pc) : tk_St ν t Γ Γ (tk_wh C B) pc F := by
  intro κ X ρ μ Qn Qr hr h kn kr
  obtain ⟨n, h⟩ := h
  induction n generalizing ρ μ with
  | zero => exact h.elim
  | succ n ih => exact hc κ X [] (Nat.le_refl 0) ρ μ _ _ hr h (fun μ1 h1 => hb κ X ρ μ1 _ Qr hr h1 (fun ρ2 μ2 h2 r2 => ih ρ2 μ2 r2 h2) kr) (fun μ1 h1 => kn ρ μ1 h1 hr)
def tk_swo (ν : tk_N) (t : Nat) (Γ Γ' : List (Nat × Nat)) (L : Nat) : List tk_Sm → List Nat → Prop
  | [], [] => True
  | S :: Ss, p :: ps => tk_St ν t Γ Γ' S p L ∧ tk_swo ν t Γ Γ' L Ss ps
  | _, _ => False
theorem tk_swl {κ : tk_K} {ν : tk_N} {t L pd : Nat} {Γ Γ' : List (Nat × Nat)} {D : tk_Sm} (X : tk_X κ ν) {ρ : tk_L} {μ : tk_M} {Qn : tk_L → tk_M → Prop} {Qr : Int → tk_M → Prop} (hr : tk_rs Γ ρ) (kn : ∀ ρ' μ', Qn ρ' μ' → tk_rs Γ' ρ' → tk_G κ ν Γ' ρ' L μ' []) (kr : tk_Rt κ ν t Qr) (hD : tk_St ν t Γ Γ' D pd L) :
    ∀ (Ss : List tk_Sm) (ps : List Nat) (lo v : Int), tk_swo ν t Γ Γ' L Ss ps → tk_swc lo D Ss v Qn Qr ρ μ → (∃ (k p : Nat), ps[k]? = some p ∧ v = lo + (k : Int) ∧ tk_G κ ν Γ ρ p μ []) ∨ ((v < lo ∨ lo + (ps.length : Int) ≤ v) ∧ tk_G κ ν Γ ρ pd μ [])
  | [], [], lo, v, _, h => Or.inr ⟨by simp; omega, hD κ X ρ μ Qn Qr hr h kn kr⟩
  | [], _ :: _, _, _, h, _ => h.elim
  | _ :: _, [], _, _, h, _ => h.elim
  | S :: Ss, p :: ps, lo, v, ho, h => by
    simp only [tk_swc] at h
    by_cases hv : v = lo
    · rw [if_pos hv] at h
      exact Or.inl ⟨0, p, rfl, by simp [hv], ho.1 κ X ρ μ Qn Qr hr h kn kr⟩
    · rw [if_neg hv] at h
      rcases tk_swl X hr kn kr hD Ss ps (lo + 1) v ho.2 h with ⟨k, q, h1, h2, h3⟩ | ⟨h1, h2⟩
      · exact Or.inl ⟨k + 1, q, h1, by rw [h2]; push_cast; omega, h3⟩
      · exact Or.inr ⟨by rw [List.length_cons]; push_cast; omega, h2⟩
theorem tk_ok_sw {ν : tk_N} {t pc p1 pd L len : Nat} {Γ Γ' : List (Nat × Nat)} {e : tk_Ex} {lo hi doff : Int} {offs : Array Int} {Ss : List tk_Sm} {D : tk_Sm} (ps : List Nat) (he : tk_E ν Γ 0 e 0 pc p1) (hd : decode ν.1 p1 = .ok (.tableswitch doff lo hi offs, len)) (hps : offs.toList.map (fun z => (p1 : Int) + z) = ps.map (fun (n : Nat) => (n : Int))) (hpd : (p1 : Int) + doff = (pd : Int)) (hhi : lo + (ps.length : Int) = hi + 1) (ho : tk_swo ν t Γ Γ' L Ss ps) (hD : tk_St ν t Γ Γ' D pd L) : tk_St ν t Γ Γ' (tk_sw e lo Ss D) pc L := by
  intro κ X ρ μ Qn Qr hr h kn kr
  refine he κ X [] (Nat.le_refl 0) ρ μ _ hr h (fun v μ1 h1 hv H ls locs hP hS hl => ?_)
  rcases tk_swl X hr kn kr hD Ss ps lo v ho h1 with ⟨k, p, g1, g2, g3⟩ | ⟨g1, g2⟩
  · have hk : k < ps.length := (List.getElem?_eq_some_iff.mp g1).1
    have e1 : (offs.toList.map (fun z => (p1 : Int) + z))[k]? = some (p : Int) := by rw [hps, List.getElem?_map, g1]; rfl
    rw [List.getElem?_map] at e1
    cases ho' : offs.toList[k]? with
    | none => rw [ho'] at e1; cases e1
    | some z =>
      rw [ho'] at e1
      refine lv_tableIn X.1 X.2.1 (off := z) (tgt := p) hd (by rw [tk_ofI hv]; omega) (by rw [tk_ofI hv]; omega) ?_ (Option.some.inj e1) (g3 H ls locs hP hS hl)
      rw [tk_ofI hv, show (v - lo).toNat = k by omega, ← Array.getElem?_toList]
      exact ho'
  · exact lv_tableOut X.1 X.2.1 (tgt := pd) hd (by rw [tk_ofI hv]; omega) hpd (g2 H ls locs hP hS hl)
theorem tk_ok_re {ν : tk_N} {t pc p1 L : Nat} {Γ Γ' : List (Nat × Nat)} {e : tk_Ex} (ht : t = 0 ∨ t = 1) (he : tk_E ν Γ 0 e t pc p1) (hd : decode ν.1 p1 = .ok (tk_ri t, 1)) : tk_St ν t Γ Γ' (tk_re e) pc L := by
  intro κ X ρ μ Qn Qr hr h kn kr
  refine he κ X [] (Nat.le_refl 0) ρ μ _ hr h (fun v μ1 h1 hv H ls locs hP hS hl => ?_)
  rcases ht with rfl | rfl
  · exact kr v μ1 H ls locs p1 h1 hv hP hS hd
  · exact kr v μ1 H ls locs p1 h1 hv hP hS hd
theorem tk_ok_rez {ν : tk_N} {pc p1 L : Nat} {Γ Γ' : List (Nat × Nat)} {e : tk_Ex} (he : tk_E ν Γ 0 e 0 pc p1) (hd : decode ν.1 p1 = .ok (.ireturn, 1)) : tk_St ν 4 Γ Γ' (tk_rez e) pc L := by
  intro κ X ρ μ Qn Qr hr h kn kr
  refine he κ X [] (Nat.le_refl 0) ρ μ _ hr h (fun v μ1 h1 hv H ls locs hP hS hl => ?_)
  exact kr v μ1 H ls locs p1 h1.2 h1.1 hP hS hd
theorem tk_ok_rev {ν : tk_N} {pc L : Nat} {Γ Γ' : List (Nat × Nat)} (hd : decode ν.1 pc = .ok (.return_, 1)) : tk_St ν 9 Γ Γ' tk_rev pc L := by
  intro κ X ρ μ Qn Qr hr h kn kr H ls locs hP hS hl
  exact kr 0 μ H ls locs pc h trivial hP hS hd
/-- an answer that nobody wants -/
theorem tk_ok_xs {ν : tk_N} {t pc p1 : Nat} {Γ : List (Nat × Nat)} {e : tk_Ex} (he : tk_E ν Γ 0 e 0 pc p1) (hd : decode ν.1 p1 = .ok (.pop, 1)) : tk_St ν t Γ Γ (tk_xp e) pc (p1 + 1) := by
  intro κ X ρ μ Qn Qr hr h kn kr
  exact he κ X [] (Nat.le_refl 0) ρ μ _ hr h (fun v μ1 h1 hv H ls locs hP hS hl => lv_pop X.1 X.2.1 hd rfl (kn ρ μ1 h1 hr H ls locs hP hS hl))
abbrev tk_sb (k t : Nat) (Γ Γ' : List (Nat × Nat)) : Prop := ∀ q ∈ Γ', q = (k, t) ∨ (q ∈ Γ ∧ q.1 ≠ k ∧ ¬ (q.1 + 1 = k ∧ q.2 = 1) ∧ (t = 1 → q.1 ≠ k + 1))
theorem tk_sb_r {k t : Nat} {Γ Γ' : List (Nat × Nat)} {ρ : tk_L} {x : Int} (h : tk_sb k t Γ Γ') (hr : tk_rs Γ ρ) (hx : tk_r t x) : tk_rs Γ' (tk_up ρ k x) := by
  intro q hq
  rcases h q hq with rfl | ⟨h1, h2, -⟩
  · simpa [tk_up] using hx
  · simp only [tk_up, if_neg h2]
    exact hr q h1
theorem tk_sb_1 {ω : tk_O} {k t nL : Nat} {Γ Γ' : List (Nat × Nat)} {ρ : tk_L} {x : Int} {v : Value} {ls : Array Slot} (h : tk_sb k t Γ Γ') (hv : tk_v ω t x = v) (hl : lv_has ls nL ((k, v) :: (tk_lv ω Γ ρ).filter (fun q => !(q.1 == k) && !(q.1 + 1 == k && q.2.category == 2)))) : lv_has ls nL (tk_lv ω Γ' (tk_up ρ k x)) := by
  refine ⟨hl.1, hl.2.1, fun q hq => ?_⟩
  obtain ⟨q0, h0, rfl⟩ := List.mem_map.mp hq
  rcases h q0 h0 with rfl | ⟨h1, h2, h3, -⟩
  · have := hl.2.2 (k, v) List.mem_cons_self
    simpa [tk_up, hv] using this
  · simp only [tk_up, if_neg h2]
    refine hl.2.2 (q0.1, tk_v ω q0.2 (ρ q0.1)) (List.mem_cons_of_mem _ (List.mem_filter.mpr ⟨List.mem_map.mpr ⟨q0, h1, rfl⟩, ?_⟩))
    have h4 : (tk_v ω q0.2 (ρ q0.1)).category = 2 → q0.2 = 1 := by
      rw [tk_cat]; intro z; by_cases hz : q0.2 = 1
      · exact hz
      · rw [if_neg hz] at z; omega
    by_cases h5 : q0.1 + 1 = k
    · have h6 : ¬ (tk_v ω q0.2 (ρ q0.1)).category = 2 := fun z => h3 ⟨h5, h4 z⟩
      simp [h2, h6]
    · simp [h2, h5]
theorem tk_sb_2 {ω : tk_O} {k nL : Nat} {Γ Γ' : List (Nat × Nat)} {ρ : tk_L} {x : Int} {v : Value} {ls : Array Slot} (h : tk_sb k 1 Γ Γ') (hv : tk_v ω 1 x = v) (hl : lv_has ls nL ((k, v) :: (tk_lv ω Γ ρ).filter (fun q => !(q.1 == k) && (!(q.1 == k + 1) && !(q.1 + 1 == k && q.2.category == 2))))) : lv_has ls nL (tk_lv ω Γ' (tk_up ρ k x)) := by
  refine ⟨hl.1, hl.2.1, fun q hq => ?_⟩
  obtain ⟨q0, h0, rfl⟩ := List.mem_map.mp hq
  rcases h q0 h0 with rfl | ⟨h1, h2, h3, h7⟩
  · have := hl.2.2 (k, v) List.mem_cons_self
    simpa [tk_up, hv] using this
  · simp only [tk_up, if_neg h2]
    refine hl.2.2 (q0.1, tk_v ω q0.2 (ρ q0.1)) (List.mem_cons_of_mem _ (List.mem_filter.mpr ⟨List.mem_map.mpr ⟨q0, h1, rfl⟩, ?_⟩))
    have h4 : (tk_v ω q0.2 (ρ q0.1)).category = 2 → q0.2 = 1 := by
      rw [tk_cat]; intro z; by_cases hz : q0.2 = 1
      · exact hz
      · rw [if_neg hz] at z; omega
    have h8 := h7 rfl
    by_cases h5 : q0.1 + 1 = k
    · have h6 : ¬ (tk_v ω q0.2 (ρ q0.1)).category = 2 := fun z => h3 ⟨h5, h4 z⟩
      simp [h2, h6, h8]
    · simp [h2, h5, h8]
theorem tk_ok_istore {ν : tk_N} {t pc p1 : Nat} {Γ Γ' : List (Nat × Nat)} {e : tk_Ex} (k : Nat) (he : tk_E ν Γ 0 e 0 pc p1) (hd : decode ν.1 p1 = .ok (.istore k, 2)) (hn : k < ν.2.2.1) (hs : tk_sb k 0 Γ Γ') : tk_St ν t Γ Γ' (tk_se k e) pc (p1 + 2) := by
  intro κ X ρ μ Qn Qr hr h kn kr
  refine he κ X [] (Nat.le_refl 0) ρ μ _ hr h (fun v μ1 h1 hv H ls locs hP hS hl => ?_)
  exact lv_istore X.1 X.2.1 hd hl hn rfl (fun ls' hl' => kn _ μ1 h1 (tk_sb_r hs hr hv) H ls' locs hP hS (tk_sb_1 hs rfl hl'))
theorem tk_ok_istore_n {ν : tk_N} {t pc p1 : Nat} {Γ Γ' : List (Nat × Nat)} {e : tk_Ex} (i : Fin 4) (k : Nat) (he : tk_E ν Γ 0 e 0 pc p1) (hd : decode ν.1 p1 = .ok (.istore_n i, 1)) (hi : (i : Nat) = k) (hn : k < ν.2.2.1) (hs : tk_sb k 0 Γ Γ') : tk_St ν t Γ Γ' (tk_se k e) pc (p1 + 1) := by
  intro κ X ρ μ Qn Qr hr h kn kr
  refine he κ X [] (Nat.le_refl 0) ρ μ _ hr h (fun v μ1 h1 hv H ls locs hP hS hl => ?_)
  exact lv_istore_n X.1 X.2.1 hd hi hl hn rfl (fun ls' hl' => kn _ μ1 h1 (tk_sb_r hs hr hv) H ls' locs hP hS (tk_sb_1 hs rfl hl'))
theorem tk_ok_lstore {ν : tk_N} {t pc p1 : Nat} {Γ Γ' : List (Nat × Nat)} {e : tk_Ex} (k : Nat) (he : tk_E ν Γ 0 e 1 pc p1) (hd : decode ν.1 p1 = .ok (.lstore k, 2)) (hn : k + 1 < ν.2.2.1) (hs : tk_sb k 1 Γ Γ') : tk_St ν t Γ Γ' (tk_se k e) pc (p1 + 2) := by
  intro κ X ρ μ Qn Qr hr h kn kr
  refine he κ X [] (Nat.le_refl 0) ρ μ _ hr h (fun v μ1 h1 hv H ls locs hP hS hl => ?_)
  exact lv_lstore X.1 X.2.1 hd hl hn rfl (fun ls' hl' => kn _ μ1 h1 (tk_sb_r hs hr hv) H ls' locs hP hS (tk_sb_2 hs rfl hl'))
theorem tk_ok_lstore_n {ν : tk_N} {t pc p1 : Nat} {Γ Γ' : List (Nat × Nat)} {e : tk_Ex} (i : Fin 4) (k : Nat) (he : tk_E ν Γ 0 e 1 pc p1) (hd : decode ν.1 p1 = .ok (.lstore_n i, 1)) (hi : (i : Nat) = k) (hn : k + 1 < ν.2.2.1) (hs : tk_sb k 1 Γ Γ') : tk_St ν t Γ Γ' (tk_se k e) pc (p1 + 1) := by
  intro κ X ρ μ Qn Qr hr h kn kr
  refine he κ X [] (Nat.le_refl 0) ρ μ _ hr h (fun v μ1 h1 hv H ls locs hP hS hl => ?_)
  exact lv_lstore_n X.1 X.2.1 hd hi hl hn rfl (fun ls' hl' => kn _ μ1 h1 (tk_sb_r hs hr hv) H ls' locs hP hS (tk_sb_2 hs rfl hl'))
theorem tk_ok_astore {ν : tk_N} {t pc p1 : Nat} {Γ Γ' : List (Nat × Nat)} {e : tk_Ex} (k : Nat) (he : tk_E ν Γ 0 e 2 pc p1) (hd : decode ν.1 p1 = .ok (.astore k, 2)) (hn : k < ν.2.2.1) (hs : tk_sb k 2 Γ Γ') : tk_St ν t Γ Γ' (tk_se k e) pc (p1 + 2) := by
  intro κ X ρ μ Qn Qr hr h kn kr
  refine he κ X [] (Nat.le_refl 0) ρ μ _ hr h (fun v μ1 h1 hv H ls locs hP hS hl => ?_)
  rw [tk_v2 hv]
  exact lv_astore X.1 X.2.1 hd hl hn rfl (fun ls' hl' => kn _ μ1 h1 (tk_sb_r hs hr hv) H ls' locs hP hS (tk_sb_1 hs (tk_v2 hv) hl'))
theorem tk_ok_astore_n {ν : tk_N} {t pc p1 : Nat} {Γ Γ' : List (Nat × Nat)} {e : tk_Ex} (i : Fin 4) (k : Nat) (he : tk_E ν Γ 0 e 2 pc p1) (hd : decode ν.1 p1 = .ok (.astore_n i, 1)) (hi : (i : Nat) = k) (hn : k < ν.2.2.1) (hs : tk_sb k 2 Γ Γ') : tk_St ν t Γ Γ' (tk_se k e) pc (p1 + 1) := by
  intro κ X ρ μ Qn Qr hr h kn kr
  refine he κ X [] (Nat.le_refl 0) ρ μ _ hr h (fun v μ1 h1 hv H ls locs hP hS hl => ?_)
  rw [tk_v2 hv]
  exact lv_astore_n X.1 X.2.1 hd hi hl hn rfl (fun ls' hl' => kn _ μ1 h1 (tk_sb_r hs hr hv) H ls' locs hP hS (tk_sb_1 hs (tk_v2 hv) hl'))
theorem tk_ok_iinc {ν : tk_N} {t pc : Nat} {Γ : List (Nat × Nat)} (k : Nat) (n : Int) (hd : decode ν.1 pc = .ok (.iinc k n, 3)) (hk : (k, 0) ∈ Γ) (hn : k < ν.2.2.1) (hs : tk_sb k 0 Γ Γ) : tk_St ν t Γ Γ (tk_se k (tk_bin tk_iadd (tk_loc k) (tk_lit n))) pc (pc + 3) := by
  intro κ X ρ μ Qn Qr hr h kn kr H ls locs hP hS hl
  obtain ⟨i, hi⟩ := List.getElem?_of_mem (l := tk_lv (tk_ω κ) Γ ρ) (List.mem_map.mpr ⟨(k, 0), hk, rfl⟩)
  have e1 : Int32.ofInt (ρ k) + Int32.ofInt n = Int32.ofInt (tk_iadd (ρ k) n) := by rw [tk_iadd, tk_toI]
  exact lv_iinc X.1 X.2.1 hd hl (k := i) hi e1 hn rfl (fun ls' hl' => kn _ μ h (tk_sb_r hs hr (tk_r0 _)) H ls' locs hP hS (tk_sb_1 hs rfl hl'))
theorem tk_set_ne {μ : tk_M} {x j v : Int} {o : Nat} (h0 : 0 ≤ x) (h : o ≠ x.toNat) (i : Int) : tk_set μ x j v o i = μ o i := by
  unfold tk_set
  rw [if_neg (by omega)]
/-- a field is put -/
theorem tk_put {κ : tk_K} {ν : tk_N} {H : Heap} {locs : List Loc} {ls : Array Slot} {pc : Nat} {st : List Value} {μ : tk_M} {ci j ix N : Nat} {C : String} {T : u_T} {ty : Nat → FieldType} {tc : Int} {x v : Int} {w : Value} (X : tk_X κ ν) (hP : tk_P (tk_ω κ) μ H) (hS : va_S (tk_A (tk_ω κ)) (tk_s κ).heap H locs) (hC : tk_Cl ci C T N ty) (hj : j < N) (hl : tk_lk ν.2.1 ix T j) (ht : (tk_ct ci)[j]? = some tc) (hx : tk_isC ci x) (hfin : (T j).2.2.2 = false) (hn : narrow (ty j) w = w) (hfit : fits (ty j) w = true) (hw : tk_fv (tk_ω κ) (tk_set μ x j v) x.toNat j tc = w) (hv : tk_fr tc v) (hd : decode ν.1 pc = .ok (.putfield ix, 3))
    (kk : ∀ (H1 : Heap) (locs1 : List Loc), tk_P (tk_ω κ) (tk_set μ x j v) H1 → va_S (tk_A (tk_ω κ)) (tk_s κ).heap H1 locs1 → tk_W κ ν H1 locs1 (pc + 3) ls st) : tk_W κ ν H locs pc ls (w :: tk_v (tk_ω κ) 2 x :: st) := by
  obtain ⟨h0, hlay⟩ := tk_isC_lay hx
  have he := tk_ws_at (ω := tk_ω κ) (μ := μ) hlay
  have hln : ((tk_ct ci).mapIdx (fun i t => tk_fv (tk_ω κ) μ x.toNat i t)).length = N := by rw [List.length_mapIdx]; exact hC.2.2.2.2
  have hset : (tk_ct ci).mapIdx (fun i t => tk_fv (tk_ω κ) (tk_set μ x j v) x.toNat i t) = ((tk_ct ci).mapIdx (fun i t => tk_fv (tk_ω κ) μ x.toNat i t)).set j w := by
    apply List.ext_getElem?
    intro i
    by_cases hi : i = j
    · subst hi
      rw [List.getElem?_set_self (by rw [hln]; exact hj), List.getElem?_mapIdx, ht, ← hw]
      rfl
    · rw [List.getElem?_set_ne (Ne.symm hi), List.getElem?_mapIdx, List.getElem?_mapIdx]
      have e1 : tk_set μ x j v (x.toNat : Int) (i : Int) = μ (x.toNat : Int) (i : Int) := by
        unfold tk_set
        rw [if_neg (by omega)]
      cases (tk_ct ci)[i]? with
      | none => rfl
      | some t' => simp only [Option.map_some, tk_fv, e1]
  have key : ∀ (H1 : Heap) (locs1 : List Loc), va_P (tk_D (tk_ω κ)) vwCl ((tk_ws (tk_ω κ) μ).set x.toNat (tk_bs (tk_ω κ) + x.toNat, .inr (ci, ((tk_ct ci).mapIdx (fun i t => tk_fv (tk_ω κ) μ x.toNat i t)).set j w))) H1 → va_D (tk_A (tk_ω κ)) ((tk_ws (tk_ω κ) μ).set x.toNat (tk_bs (tk_ω κ) + x.toNat, .inr (ci, ((tk_ct ci).mapIdx (fun i t => tk_fv (tk_ω κ) μ x.toNat i t)).set j w))) → va_S (tk_A (tk_ω κ)) (tk_s κ).heap H1 locs1 → tk_W κ ν H1 locs1 (pc + 3) ls st := by
    intro H1 locs1 g1 _ g3
    rw [← hset, tk_ws_put (ω := tk_ω κ) (μ := μ) (μ' := tk_set μ x j v) (e := .inr (ci, (tk_ct ci).mapIdx (fun i t => tk_fv (tk_ω κ) (tk_set μ x j v) x.toNat i t))) hlay rfl (fun o' ho' i => tk_set_ne h0 ho' i)] at g1
    refine kk H1 locs1 ⟨g1, tk_in_put hP.2 hlay (fun i t' hi => ?_) (fun o' ho' i => tk_set_ne h0 ho' i)⟩ g3
    by_cases hij : i = j
    · subst hij
      rw [ht] at hi
      cases hi
      simp only [tk_set, tk_nat h0, and_self, if_true]
      exact hv
    · have e1 : tk_set μ x j v (x.toNat : Int) (i : Int) = μ (x.toNat : Int) (i : Int) := by
        unfold tk_set
        rw [if_neg (by omega)]
      rw [e1]
      exact hP.2 _ _ hlay i t' hi
  rw [tk_v2 h0]
  rcases hl with hl | hl
  · exact va_put X.1 X.2.1 X.2.2.2.2.1 hC.2.1 ty hC.2.2.1 hC.2.2.2.1 X.2.2.2.1 X.2.2.2.2.2.1.1 hP.1 tk_wD hS x.toNat he hC.1 j hj (X.2.2.2.2.1 _ hl) (fun _ h => h) hfin (hC.2.2.1 j hj) hn hfit (by rw [hln]; exact hj) hd key
  · exact va_putN X.1 X.2.1 X.2.2.2.2.1 hC.2.1 ty hC.2.2.1 hC.2.2.2.1 X.2.2.2.1 X.2.2.2.2.2.1.1 hP.1 tk_wD hS x.toNat he hC.1 j hj (tk_Xn X hl) (fun _ h => h) hfin (hC.2.2.1 j hj) hn hfit (by rw [hln]; exact hj) hd key
theorem tk_ok_pi {ν : tk_N} {t pc p1 p2 : Nat} {Γ : List (Nat × Nat)} {a e : tk_Ex} {ci j ix N : Nat} {C : String} {T : u_T} {ty : Nat → FieldType} (ha : tk_E ν Γ 0 a 2 pc p1) (he : tk_E ν Γ 1 e 0 p1 p2) (hC : tk_Cl ci C T N ty) (hd : decode ν.1 p2 = .ok (.putfield ix, 3)) (hj : j < N) (hl : tk_lk ν.2.1 ix T j) (ht : (tk_ct ci)[j]? = some 0) (hfin : (T j).2.2.2 = false) (hty : ty j = .int) : tk_St ν t Γ Γ (tk_pf ci j a e) pc (p2 + 3) := by
  intro κ X ρ μ Qn Qr hr h kn kr
  refine ha κ X [] (Nat.le_refl 0) ρ μ _ hr h (fun x μ1 h1 hx => ?_)
  refine he κ X _ (tk_sum2 (st := []) (Nat.le_refl 0)) ρ μ1 _ hr h1 (fun v μ2 h2 hv H ls locs hP hS hl' => ?_)
  exact tk_put X hP hS hC hj hl ht h2.1 hfin (by rw [hty]; rfl) (by rw [hty]; rfl) (by have h0 := (tk_isC_lay h2.1).1; simp [tk_fv, tk_set, tk_nat h0, tk_v]) (by simpa [tk_fr] using hv) hd (fun H1 locs1 hP1 hS1 => kn ρ _ h2.2 hr H1 ls locs1 hP1 hS1 hl')
theorem tk_ok_pl {ν : tk_N} {t pc p1 p2 : Nat} {Γ : List (Nat × Nat)} {a e : tk_Ex} {ci j ix N : Nat} {C : String} {T : u_T} {ty : Nat → FieldType} (ha : tk_E ν Γ 0 a 2 pc p1) (he : tk_E ν Γ 1 e 1 p1 p2) (hC : tk_Cl ci C T N ty) (hd : decode ν.1 p2 = .ok (.putfield ix, 3)) (hj : j < N) (hl : tk_lk ν.2.1 ix T j) (ht : (tk_ct ci)[j]? = some 1) (hfin : (T j).2.2.2 = false) (hty : ty j = .long) : tk_St ν t Γ Γ (tk_pf ci j a e) pc (p2 + 3) := by
  intro κ X ρ μ Qn Qr hr h kn kr
  refine ha κ X [] (Nat.le_refl 0) ρ μ _ hr h (fun x μ1 h1 hx => ?_)
  refine he κ X _ (tk_sum2 (st := []) (Nat.le_refl 0)) ρ μ1 _ hr h1 (fun v μ2 h2 hv H ls locs hP hS hl' => ?_)
  exact tk_put X hP hS hC hj hl ht h2.1 hfin (by rw [hty]; rfl) (by rw [hty]; rfl) (by have h0 := (tk_isC_lay h2.1).1; simp [tk_fv, tk_set, tk_nat h0, tk_v]) (by simpa [tk_fr] using hv) hd (fun H1 locs1 hP1 hS1 => kn ρ _ h2.2 hr H1 ls locs1 hP1 hS1 hl')
theorem tk_ok_pz {ν : tk_N} {t pc p1 p2 : Nat} {Γ : List (Nat × Nat)} {a e : tk_Ex} {ci j ix N : Nat} {C : String} {T : u_T} {ty : Nat → FieldType} (ha : tk_E ν Γ 0 a 2 pc p1) (he : tk_E ν Γ 1 e 0 p1 p2) (hC : tk_Cl ci C T N ty) (hd : decode ν.1 p2 = .ok (.putfield ix, 3)) (hj : j < N) (hl : tk_lk ν.2.1 ix T j) (ht : (tk_ct ci)[j]? = some 4) (hfin : (T j).2.2.2 = false) (hty : ty j = .boolean) : tk_St ν t Γ Γ (tk_pfz ci j a e) pc (p2 + 3) := by
  intro κ X ρ μ Qn Qr hr h kn kr
  refine ha κ X [] (Nat.le_refl 0) ρ μ _ hr h (fun x μ1 h1 hx => ?_)
  refine he κ X _ (tk_sum2 (st := []) (Nat.le_refl 0)) ρ μ1 _ hr h1 (fun v μ2 h2 hv H ls locs hP hS hl' => ?_)
  exact tk_put X hP hS hC hj hl ht h2.1 hfin (by rw [hty]; rcases h2.2.1 with rfl | rfl <;> rfl) (by rw [hty]; rcases h2.2.1 with rfl | rfl <;> rfl) (by have h0 := (tk_isC_lay h2.1).1; simp [tk_fv, tk_set, tk_nat h0, tk_v]) (by simp [tk_fr]; omega) hd (fun H1 locs1 hP1 hS1 => kn ρ _ h2.2.2 hr H1 ls locs1 hP1 hS1 hl')
theorem tk_ok_pr {ν : tk_N} {t pc p1 p2 : Nat} {Γ : List (Nat × Nat)} {a e : tk_Ex} {ci j ix N : Nat} {C : String} {T : u_T} {ty : Nat → FieldType} {n : FieldType} (ha : tk_E ν Γ 0 a 2 pc p1) (he : tk_E ν Γ 1 e 2 p1 p2) (hC : tk_Cl ci C T N ty) (hd : decode ν.1 p2 = .ok (.putfield ix, 3)) (hj : j < N) (hl : tk_lk ν.2.1 ix T j) (ht : (tk_ct ci)[j]? = some 2) (hfin : (T j).2.2.2 = false) (hty : ty j = .array n) : tk_St ν t Γ Γ (tk_pf ci j a e) pc (p2 + 3) := by
  intro κ X ρ μ Qn Qr hr h kn kr
  refine ha κ X [] (Nat.le_refl 0) ρ μ _ hr h (fun x μ1 h1 hx => ?_)
  refine he κ X _ (tk_sum2 (st := []) (Nat.le_refl 0)) ρ μ1 _ hr h1 (fun v μ2 h2 hv H ls locs hP hS hl' => ?_)
  exact tk_put X hP hS hC hj hl ht h2.1 hfin (by rw [hty, tk_v2 hv]; rfl) (by rw [hty, tk_v2 hv]; rfl) (by have h0 := (tk_isC_lay h2.1).1; simp [tk_fv, tk_set, tk_nat h0]) (by simp [tk_fr]) hd (fun H1 locs1 hP1 hS1 => kn ρ _ h2.2 hr H1 ls locs1 hP1 hS1 hl')
end
section
/-- an item is put: the world behind it -/
theorem tk_apos {ω : tk_O} {μ : tk_M} {t n : Nat} {x i v : Int} (h0 : 0 ≤ x) (hi : 0 ≤ i) (hlay : tk_lay[x.toNat]? = some (.inr (t, n))) (hv : tk_fr t v) (hin : tk_in μ) {e : va_E} (he : e = tk_ce ω (tk_set μ x i v) x.toNat (.inr (t, n))) : (tk_ws ω μ).set x.toNat (tk_bs ω + x.toNat, e) = tk_ws ω (tk_set μ x i v) ∧ tk_in (tk_set μ x i v) := by
  refine ⟨tk_ws_put hlay he (fun o' ho' j => tk_set_ne h0 ho' j), tk_in_put hin hlay (fun j hj => ?_) (fun o' ho' j => tk_set_ne h0 ho' j)⟩
  unfold tk_set
  split
  · exact hv
  · exact hin _ _ hlay j hj
theorem tk_updI {μ : tk_M} {x i v : Int} {y : Int32} (h0 : 0 ≤ x) (hi : 0 ≤ i) (hy : Int32.ofInt v = y) : (fun j : Nat => Int32.ofInt (tk_set μ x i v x.toNat j)) = upd (fun j : Nat => Int32.ofInt (μ x.toNat j)) i.toNat y := by
  funext j
  simp only [tk_set, upd]
  rw [tk_nat h0]
  by_cases hj : j = i.toNat
  · rw [if_pos ⟨rfl, by omega⟩, if_pos hj, hy]
  · rw [if_neg (by omega), if_neg hj]
theorem tk_updL {μ : tk_M} {x i v : Int} {y : Int64} (h0 : 0 ≤ x) (hi : 0 ≤ i) (hy : Int64.ofInt v = y) : (fun j : Nat => Int64.ofInt (tk_set μ x i v x.toNat j)) = vp_updL (fun j : Nat => Int64.ofInt (μ x.toNat j)) i.toNat y := by
  funext j
  simp only [tk_set, vp_updL]
  rw [tk_nat h0]
  by_cases hj : j = i.toNat
  · rw [if_pos ⟨rfl, by omega⟩, if_pos hj, hy]
  · rw [if_neg (by omega), if_neg hj]
theorem tk_ist {κ : tk_K} {ν : tk_N} {H : Heap} {locs : List Loc} {ls : Array Slot} {pc : Nat} {st : List Value} {μ : tk_M} {x i v : Int} (X : tk_X κ ν) (hP : tk_P (tk_ω κ) μ H) (hS : va_S (tk_A (tk_ω κ)) (tk_s κ).heap H locs) (hi : tk_r 0 i) (hv : tk_r 0 v) (hb : 0 ≤ i ∧ i < tk_al 0 x) (hd : decode ν.1 pc = .ok (.iastore, 1)) (kk : ∀ (H1 : Heap) (locs1 : List Loc), tk_P (tk_ω κ) (tk_set μ x i v) H1 → va_S (tk_A (tk_ω κ)) (tk_s κ).heap H1 locs1 → tk_W κ ν H1 locs1 (pc + 1) ls st) : tk_W κ ν H locs pc ls (.int (Int32.ofInt v) :: .int (Int32.ofInt i) :: tk_v (tk_ω κ) 2 x :: st) := by
  obtain ⟨h0, n, hn, hlay⟩ := tk_al_lay hb.1 hb.2
  have he := tk_ws_at (ω := tk_ω κ) (μ := μ) hlay
  rw [tk_v2 h0]
  refine va_iast X.1 X.2.1 X.2.2.2.2.2.1.1 hP.1 tk_wD hS x.toNat 0 (n := n) (f := fun j => Int32.ofInt (μ x.toNat j)) he rfl (tk_vin hi hb.1 (by have := hb.2; omega)) hd (fun H1 locs1 g1 _ g3 => ?_)
  rw [tk_ncn hi, ← tk_updI h0 hb.1 rfl] at g1
  have g4 := tk_apos (ω := tk_ω κ) (t := 0) h0 hb.1 hlay (v := v) (by simpa [tk_fr] using hv) hP.2 rfl
  exact kk H1 locs1 ⟨by rw [← g4.1]; exact g1, g4.2⟩ g3
theorem tk_lst {κ : tk_K} {ν : tk_N} {H : Heap} {locs : List Loc} {ls : Array Slot} {pc : Nat} {st : List Value} {μ : tk_M} {x i v : Int} (X : tk_X κ ν) (hP : tk_P (tk_ω κ) μ H) (hS : va_S (tk_A (tk_ω κ)) (tk_s κ).heap H locs) (hi : tk_r 0 i) (hv : tk_r 1 v) (hb : 0 ≤ i ∧ i < tk_al 1 x) (hd : decode ν.1 pc = .ok (.lastore, 1)) (kk : ∀ (H1 : Heap) (locs1 : List Loc), tk_P (tk_ω κ) (tk_set μ x i v) H1 → va_S (tk_A (tk_ω κ)) (tk_s κ).heap H1 locs1 → tk_W κ ν H1 locs1 (pc + 1) ls st) : tk_W κ ν H locs pc ls (.long (Int64.ofInt v) :: .int (Int32.ofInt i) :: tk_v (tk_ω κ) 2 x :: st) := by
  obtain ⟨h0, n, hn, hlay⟩ := tk_al_lay hb.1 hb.2
  have he := tk_ws_at (ω := tk_ω κ) (μ := μ) hlay
  rw [tk_v2 h0]
  refine va_last X.1 X.2.1 X.2.2.2.2.2.1.1 hP.1 tk_wD hS x.toNat 3 (n := n) (f := fun j => Int64.ofInt (μ x.toNat j)) he rfl (tk_vin hi hb.1 (by have := hb.2; omega)) hd (fun H1 locs1 g1 _ g3 => ?_)
  rw [tk_ncn hi, ← tk_updL h0 hb.1 rfl] at g1
  have g4 := tk_apos (ω := tk_ω κ) (t := 1) h0 hb.1 hlay (v := v) (by simpa [tk_fr] using hv) hP.2 rfl
  exact kk H1 locs1 ⟨by rw [← g4.1]; exact g1, g4.2⟩ g3
theorem tk_zst {κ : tk_K} {ν : tk_N} {H : Heap} {locs : List Loc} {ls : Array Slot} {pc : Nat} {st : List Value} {μ : tk_M} {x i v : Int} (X : tk_X κ ν) (hP : tk_P (tk_ω κ) μ H) (hS : va_S (tk_A (tk_ω κ)) (tk_s κ).heap H locs) (hi : tk_r 0 i) (hv : v = 0 ∨ v = 1) (hb : 0 ≤ i ∧ i < tk_al 4 x) (hd : decode ν.1 pc = .ok (.bastore, 1)) (kk : ∀ (H1 : Heap) (locs1 : List Loc), tk_P (tk_ω κ) (tk_set μ x i v) H1 → va_S (tk_A (tk_ω κ)) (tk_s κ).heap H1 locs1 → tk_W κ ν H1 locs1 (pc + 1) ls st) : tk_W κ ν H locs pc ls (.int (Int32.ofInt v) :: .int (Int32.ofInt i) :: tk_v (tk_ω κ) 2 x :: st) := by
  obtain ⟨h0, n, hn, hlay⟩ := tk_al_lay hb.1 hb.2
  have he := tk_ws_at (ω := tk_ω κ) (μ := μ) hlay
  rw [tk_v2 h0]
  refine va_zast X.1 X.2.1 X.2.2.2.2.2.1.1 hP.1 tk_wD hS x.toNat 2 (n := n) (f := fun j => Int32.ofInt (μ x.toNat j)) he rfl (tk_vin hi hb.1 (by have := hb.2; omega)) hd (fun H1 locs1 g1 _ g3 => ?_)
  have e1 : vp_nar .boolean (Int32.ofInt v) = Int32.ofInt v := by rcases hv with rfl | rfl <;> rfl
  rw [e1, tk_ncn hi, ← tk_updI h0 hb.1 rfl] at g1
  have g4 := tk_apos (ω := tk_ω κ) (t := 4) h0 hb.1 hlay (v := v) (by simp [tk_fr]; omega) hP.2 rfl
  exact kk H1 locs1 ⟨by rw [← g4.1]; exact g1, g4.2⟩ g3
theorem tk_i2b_r (v : Int) : -128 ≤ tk_i2b v ∧ tk_i2b v ≤ 127 := by
  unfold tk_i2b
  rw [Int8.toInt_toInt32]
  have h1 := Int8.le_toInt (Int32.ofInt v).toInt8
  have h2 := Int8.toInt_lt (Int32.ofInt v).toInt8
  omega
theorem tk_bst {κ : tk_K} {ν : tk_N} {H : Heap} {locs : List Loc} {ls : Array Slot} {pc : Nat} {st : List Value} {μ : tk_M} {x i v : Int} (X : tk_X κ ν) (hP : tk_P (tk_ω κ) μ H) (hS : va_S (tk_A (tk_ω κ)) (tk_s κ).heap H locs) (hi : tk_r 0 i) (hb : 0 ≤ i ∧ i < tk_al 5 x) (hd : decode ν.1 pc = .ok (.bastore, 1)) (kk : ∀ (H1 : Heap) (locs1 : List Loc), tk_P (tk_ω κ) (tk_set μ x i (tk_i2b v)) H1 → va_S (tk_A (tk_ω κ)) (tk_s κ).heap H1 locs1 → tk_W κ ν H1 locs1 (pc + 1) ls st) : tk_W κ ν H locs pc ls (.int (Int32.ofInt v) :: .int (Int32.ofInt i) :: tk_v (tk_ω κ) 2 x :: st) := by
  obtain ⟨h0, n, hn, hlay⟩ := tk_al_lay hb.1 hb.2
  have he := tk_ws_at (ω := tk_ω κ) (μ := μ) hlay
  rw [tk_v2 h0]
  refine va_bast X.1 X.2.1 X.2.2.2.2.2.1.1 hP.1 tk_wD hS x.toNat 1 (n := n) (f := fun j => Int32.ofInt (μ x.toNat j)) he rfl (tk_vin hi hb.1 (by have := hb.2; omega)) hd (fun H1 locs1 g1 _ g3 => ?_)
  have e1 : Int32.ofInt (tk_i2b v) = vp_nar .byte (Int32.ofInt v) := by rw [vp_nar_byte, tk_i2b, tk_toI]
  rw [tk_ncn hi, ← tk_updI h0 hb.1 e1] at g1
  have hr := tk_i2b_r v
  have g4 := tk_apos (ω := tk_ω κ) (t := 5) h0 hb.1 hlay (v := tk_i2b v) (by simp [tk_fr]; omega) hP.2 rfl
  exact kk H1 locs1 ⟨by rw [← g4.1]; exact g1, g4.2⟩ g3
theorem tk_ok_as0 {ν : tk_N} {t pc p1 p2 p3 : Nat} {Γ : List (Nat × Nat)} {a b e : tk_Ex} (ha : tk_E ν Γ 0 a 2 pc p1) (hb : tk_E ν Γ 1 b 0 p1 p2) (he : tk_E ν Γ 2 e 0 p2 p3) (hd : decode ν.1 p3 = .ok (.iastore, 1)) : tk_St ν t Γ Γ (tk_as 0 a b e) pc (p3 + 1) := by
  intro κ X ρ μ Qn Qr hr h kn kr
  refine ha κ X [] (Nat.le_refl 0) ρ μ _ hr h (fun x μ1 h1 hx => ?_)
  refine hb κ X _ (tk_sum2 (st := []) (Nat.le_refl 0)) ρ μ1 _ hr h1 (fun i μ2 h2 hi => ?_)
  refine he κ X _ (tk_sum0 (tk_sum2 (st := []) (Nat.le_refl 0))) ρ μ2 _ hr h2 (fun v μ3 h3 hv H ls locs hP hS hl => ?_)
  exact tk_ist X hP hS hi hv h3.1 hd (fun H1 l1 g1 g2 => kn ρ _ h3.2 hr H1 ls l1 g1 g2 hl)
theorem tk_ok_as1 {ν : tk_N} {t pc p1 p2 p3 : Nat} {Γ : List (Nat × Nat)} {a b e : tk_Ex} (ha : tk_E ν Γ 0 a 2 pc p1) (hb : tk_E ν Γ 1 b 0 p1 p2) (he : tk_E ν Γ 2 e 1 p2 p3) (hd : decode ν.1 p3 = .ok (.lastore, 1)) : tk_St ν t Γ Γ (tk_as 1 a b e) pc (p3 + 1) := by
  intro κ X ρ μ Qn Qr hr h kn kr
  refine ha κ X [] (Nat.le_refl 0) ρ μ _ hr h (fun x μ1 h1 hx => ?_)
  refine hb κ X _ (tk_sum2 (st := []) (Nat.le_refl 0)) ρ μ1 _ hr h1 (fun i μ2 h2 hi => ?_)
  refine he κ X _ (tk_sum0 (tk_sum2 (st := []) (Nat.le_refl 0))) ρ μ2 _ hr h2 (fun v μ3 h3 hv H ls locs hP hS hl => ?_)
  exact tk_lst X hP hS hi hv h3.1 hd (fun H1 l1 g1 g2 => kn ρ _ h3.2 hr H1 ls l1 g1 g2 hl)
theorem tk_ok_asz {ν : tk_N} {t pc p1 p2 p3 : Nat} {Γ : List (Nat × Nat)} {a b e : tk_Ex} (ha : tk_E ν Γ 0 a 2 pc p1) (hb : tk_E ν Γ 1 b 0 p1 p2) (he : tk_E ν Γ 2 e 0 p2 p3) (hd : decode ν.1 p3 = .ok (.bastore, 1)) : tk_St ν t Γ Γ (tk_asz a b e) pc (p3 + 1) := by
  intro κ X ρ μ Qn Qr hr h kn kr
  refine ha κ X [] (Nat.le_refl 0) ρ μ _ hr h (fun x μ1 h1 hx => ?_)
  refine hb κ X _ (tk_sum2 (st := []) (Nat.le_refl 0)) ρ μ1 _ hr h1 (fun i μ2 h2 hi => ?_)
  refine he κ X _ (tk_sum0 (tk_sum2 (st := []) (Nat.le_refl 0))) ρ μ2 _ hr h2 (fun v μ3 h3 hv H ls locs hP hS hl => ?_)
  exact tk_zst X hP hS hi h3.2.1 h3.1 hd (fun H1 l1 g1 g2 => kn ρ _ h3.2.2 hr H1 ls l1 g1 g2 hl)
theorem tk_ok_asb {ν : tk_N} {t pc p1 p2 p3 : Nat} {Γ : List (Nat × Nat)} {a b e : tk_Ex} (ha : tk_E ν Γ 0 a 2 pc p1) (hb : tk_E ν Γ 1 b 0 p1 p2) (he : tk_E ν Γ 2 e 0 p2 p3) (hd : decode ν.1 p3 = .ok (.bastore, 1)) : tk_St ν t Γ Γ (tk_asb a b e) pc (p3 + 1) := by
  intro κ X ρ μ Qn Qr hr h kn kr
  refine ha κ X [] (Nat.le_refl 0) ρ μ _ hr h (fun x μ1 h1 hx => ?_)
  refine hb κ X _ (tk_sum2 (st := []) (Nat.le_refl 0)) ρ μ1 _ hr h1 (fun i μ2 h2 hi => ?_)
  refine he κ X _ (tk_sum0 (tk_sum2 (st := []) (Nat.le_refl 0))) ρ μ2 _ hr h2 (fun v μ3 h3 hv H ls locs hP hS hl => ?_)
  exact tk_bst X hP hS hi h3.1 hd (fun H1 l1 g1 g2 => kn ρ _ h3.2 hr H1 ls l1 g1 g2 hl)
/-- a step on two numbers -/
def tk_op (ν : tk_N) (t : Nat) (f : Int → Int → Int) (pc : Nat) : Prop := ∀ (κ : tk_K), tk_X κ ν → ∀ (H : Heap) (locs : List Loc) (ls : Array Slot) (x y : Int) (st : List Value), (tk_r t (f x y) → tk_W κ ν H locs (pc + 1) ls (tk_v (tk_ω κ) t (f x y) :: st)) → tk_W κ ν H locs pc ls (tk_v (tk_ω κ) t y :: tk_v (tk_ω κ) t x :: st)
theorem tk_op_iadd {ν : tk_N} {pc : Nat} (hd : decode ν.1 pc = .ok (.iadd, 1)) : tk_op ν 0 tk_iadd pc := by
  intro κ X H locs ls x y st h
  have h3 := h (tk_r0 _)
  rw [tk_iadd, tk_v0] at h3
  exact lv_iadd X.1 X.2.1 hd h3
theorem tk_op_isub {ν : tk_N} {pc : Nat} (hd : decode ν.1 pc = .ok (.isub, 1)) : tk_op ν 0 tk_isub pc := by
  intro κ X H locs ls x y st h
  have h3 := h (tk_r0 _)
  rw [tk_isub, tk_v0] at h3
  exact lv_isub X.1 X.2.1 hd h3
theorem tk_op_ior {ν : tk_N} {pc : Nat} (hd : decode ν.1 pc = .ok (.ior, 1)) : tk_op ν 0 tk_ior pc := by
  intro κ X H locs ls x y st h
  have h3 := h (tk_r0 _)
  rw [tk_ior, tk_v0] at h3
  exact lv_ior X.1 X.2.1 hd h3
theorem tk_op_ladd {ν : tk_N} {pc : Nat} (hd : decode ν.1 pc = .ok (.ladd, 1)) : tk_op ν 1 tk_ladd pc := by
  intro κ X H locs ls x y st h
  have h3 := h (tk_r1 _)
  rw [tk_ladd, tk_v1] at h3
  exact lv_ladd X.1 X.2.1 hd h3
theorem tk_ok_aso0 {ν : tk_N} {t pc p1 p2 p3 : Nat} {Γ : List (Nat × Nat)} {a b e : tk_Ex} {f : Int → Int → Int} (ha : tk_E ν Γ 0 a 2 pc p1) (hb : tk_E ν Γ 1 b 0 p1 p2) (hd1 : decode ν.1 p2 = .ok (.dup2, 1)) (hd2 : decode ν.1 (p2 + 1) = .ok (.iaload, 1)) (he : tk_E ν Γ 3 e 0 (p2 + 2) p3) (hf : tk_op ν 0 f p3) (hd : decode ν.1 (p3 + 1) = .ok (.iastore, 1)) : tk_St ν t Γ Γ (tk_aso 0 f a b e) pc (p3 + 2) := by
  intro κ X ρ μ Qn Qr hr h kn kr
  refine ha κ X [] (Nat.le_refl 0) ρ μ _ hr h (fun x μ1 h1 hx => ?_)
  refine hb κ X _ (tk_sum2 (st := []) (Nat.le_refl 0)) ρ μ1 _ hr h1 (fun i μ2 h2 hi => ?_)
  have hin := h2.1
  have key : tk_G κ ν Γ ρ (p2 + 2) μ2 (tk_v (tk_ω κ) 0 (μ2 x i) :: tk_v (tk_ω κ) 0 i :: tk_v (tk_ω κ) 2 x :: []) := by
    refine he κ X _ (tk_sum0 (tk_sum0 (tk_sum2 (st := []) (Nat.le_refl 0)))) ρ μ2 _ hr h2.2 (fun v μ3 h3 hv H ls locs hP hS hl => ?_)
    exact hf κ X H locs ls _ v _ (fun hw => tk_ist X hP hS hi hw hin hd (fun H1 l1 g1 g2 => kn ρ _ h3 hr H1 ls l1 g1 g2 hl))
  intro H ls locs hP hS hl
  obtain ⟨h0, n, hn, hlay⟩ := tk_al_lay hin.1 hin.2
  have hw := tk_ws_at (ω := tk_ω κ) (μ := μ2) hlay
  refine lv_dup2_11 X.1 X.2.1 hd1 (by rw [tk_cat]; rfl) (by rw [tk_cat]; rfl) ?_
  rw [tk_v2 hx]
  refine va_iald X.1 X.2.1 X.2.2.2.2.2.1.1 hP.1 x.toNat 0 (n := n) (f := fun j => Int32.ofInt (μ2 x.toNat j)) hw rfl (tk_vin hi hin.1 (by have := hin.2; omega)) hd2 ?_
  rw [tk_ncn hi]
  simp only [tk_nat h0, tk_nat hin.1]
  have h4 := key H ls locs hP hS hl
  rw [tk_v2 hx] at h4
  exact h4
theorem tk_ok_aso1 {ν : tk_N} {t pc p1 p2 p3 : Nat} {Γ : List (Nat × Nat)} {a b e : tk_Ex} {f : Int → Int → Int} (ha : tk_E ν Γ 0 a 2 pc p1) (hb : tk_E ν Γ 1 b 0 p1 p2) (hd1 : decode ν.1 p2 = .ok (.dup2, 1)) (hd2 : decode ν.1 (p2 + 1) = .ok (.laload, 1)) (he : tk_E ν Γ 4 e 1 (p2 + 2) p3) (hf : tk_op ν 1 f p3) (hd : decode ν.1 (p3 + 1) = .ok (.lastore, 1)) : tk_St ν t Γ Γ (tk_aso 1 f a b e) pc (p3 + 2) := by
  intro κ X ρ μ Qn Qr hr h kn kr
  refine ha κ X [] (Nat.le_refl 0) ρ μ _ hr h (fun x μ1 h1 hx => ?_)
  refine hb κ X _ (tk_sum2 (st := []) (Nat.le_refl 0)) ρ μ1 _ hr h1 (fun i μ2 h2 hi => ?_)
  have hin := h2.1
  have key : tk_G κ ν Γ ρ (p2 + 2) μ2 (tk_v (tk_ω κ) 1 (μ2 x i) :: tk_v (tk_ω κ) 0 i :: tk_v (tk_ω κ) 2 x :: []) := by
    refine he κ X _ (tk_sum1 (tk_sum0 (tk_sum2 (st := []) (Nat.le_refl 0)))) ρ μ2 _ hr h2.2 (fun v μ3 h3 hv H ls locs hP hS hl => ?_)
    exact hf κ X H locs ls _ v _ (fun hw => tk_lst X hP hS hi hw hin hd (fun H1 l1 g1 g2 => kn ρ _ h3 hr H1 ls l1 g1 g2 hl))
  intro H ls locs hP hS hl
  obtain ⟨h0, n, hn, hlay⟩ := tk_al_lay hin.1 hin.2
  have hw := tk_ws_at (ω := tk_ω κ) (μ := μ2) hlay
  refine lv_dup2_11 X.1 X.2.1 hd1 (by rw [tk_cat]; rfl) (by rw [tk_cat]; rfl) ?_
  rw [tk_v2 hx]
  refine va_lald X.1 X.2.1 X.2.2.2.2.2.1.1 hP.1 x.toNat 3 (n := n) (f := fun j => Int64.ofInt (μ2 x.toNat j)) hw rfl (tk_vin hi hin.1 (by have := hin.2; omega)) hd2 ?_
  rw [tk_ncn hi]
  simp only [tk_nat h0, tk_nat hin.1]
  have h4 := key H ls locs hP hS hl
  rw [tk_v2 hx] at h4
  exact h4
theorem tk_ok_pfo {ν : tk_N} {t pc p1 p2 : Nat} {Γ : List (Nat × Nat)} {a e : tk_Ex} {ci j ix N : Nat} {C : String} {T : u_T} {ty : Nat → FieldType} {f : Int → Int → Int} (ha : tk_E ν Γ 0 a 2 pc p1) (hd1 : decode ν.1 p1 = .ok (.dup, 1)) (hd2 : decode ν.1 (p1 + 1) = .ok (.getfield ix, 3)) (he : tk_E ν Γ 2 e 0 (p1 + 4) p2) (hf : tk_op ν 0 f p2) (hd : decode ν.1 (p2 + 1) = .ok (.putfield ix, 3)) (hC : tk_Cl ci C T N ty) (hj : j < N) (hl : tk_lk ν.2.1 ix T j) (ht : (tk_ct ci)[j]? = some 0) (hfin : (T j).2.2.2 = false) (hty : ty j = .int) : tk_St ν t Γ Γ (tk_pfo f ci j a e) pc (p2 + 4) := by
  intro κ X ρ μ Qn Qr hr h kn kr
  refine ha κ X [] (Nat.le_refl 0) ρ μ _ hr h (fun x μ1 h1 hx => ?_)
  have h0 := (tk_isC_lay h1.1).1
  have key : tk_G κ ν Γ ρ (p1 + 4) μ1 (tk_v (tk_ω κ) 0 (μ1 x j) :: tk_v (tk_ω κ) 2 x :: []) := by
    refine he κ X _ (tk_sum0 (tk_sum2 (st := []) (Nat.le_refl 0))) ρ μ1 _ hr h1.2 (fun v μ3 h3 hv H ls locs hP hS hl' => ?_)
    refine hf κ X H locs ls _ v _ (fun hw => ?_)
    exact tk_put X hP hS hC hj hl ht h1.1 hfin (by rw [hty]; rfl) (by rw [hty]; rfl) (by simp [tk_fv, tk_set, tk_nat h0, tk_v]) (by simpa [tk_fr] using hw) hd (fun H1 locs1 hP1 hS1 => kn ρ _ h3 hr H1 ls locs1 hP1 hS1 hl')
  intro H ls locs hP hS hl'
  refine lv_dup X.1 X.2.1 hd1 (by rw [tk_cat]; rfl) ?_
  refine tk_get X hP hC hj hl ht h1.1 hd2 ?_
  have h4 : tk_fv (tk_ω κ) μ1 x.toNat j 0 = tk_v (tk_ω κ) 0 (μ1 x j) := by simp [tk_fv, tk_v, tk_nat h0]
  rw [h4]
  exact key H ls locs hP hS hl'
theorem tk_ok_pfol {ν : tk_N} {t pc p1 p2 : Nat} {Γ : List (Nat × Nat)} {a e : tk_Ex} {ci j ix N : Nat} {C : String} {T : u_T} {ty : Nat → FieldType} {f : Int → Int → Int} (ha : tk_E ν Γ 0 a 2 pc p1) (hd1 : decode ν.1 p1 = .ok (.dup, 1)) (hd2 : decode ν.1 (p1 + 1) = .ok (.getfield ix, 3)) (he : tk_E ν Γ 3 e 1 (p1 + 4) p2) (hf : tk_op ν 1 f p2) (hd : decode ν.1 (p2 + 1) = .ok (.putfield ix, 3)) (hC : tk_Cl ci C T N ty) (hj : j < N) (hl : tk_lk ν.2.1 ix T j) (ht : (tk_ct ci)[j]? = some 1) (hfin : (T j).2.2.2 = false) (hty : ty j = .long) : tk_St ν t Γ Γ (tk_pfo f ci j a e) pc (p2 + 4) := by
  intro κ X ρ μ Qn Qr hr h kn kr
  refine ha κ X [] (Nat.le_refl 0) ρ μ _ hr h (fun x μ1 h1 hx => ?_)
  have h0 := (tk_isC_lay h1.1).1
  have key : tk_G κ ν Γ ρ (p1 + 4) μ1 (tk_v (tk_ω κ) 1 (μ1 x j) :: tk_v (tk_ω κ) 2 x :: []) := by
    refine he κ X _ (tk_sum1 (tk_sum2 (st := []) (Nat.le_refl 0))) ρ μ1 _ hr h1.2 (fun v μ3 h3 hv H ls locs hP hS hl' => ?_)
    refine hf κ X H locs ls _ v _ (fun hw => ?_)
    exact tk_put X hP hS hC hj hl ht h1.1 hfin (by rw [hty]; rfl) (by rw [hty]; rfl) (by simp [tk_fv, tk_set, tk_nat h0, tk_v]) (by simpa [tk_fr] using hw) hd (fun H1 locs1 hP1 hS1 => kn ρ _ h3 hr H1 ls locs1 hP1 hS1 hl')
  intro H ls locs hP hS hl'
  refine lv_dup X.1 X.2.1 hd1 (by rw [tk_cat]; rfl) ?_
  refine tk_get X hP hC hj hl ht h1.1 hd2 ?_
  have h4 : tk_fv (tk_ω κ) μ1 x.toNat j 1 = tk_v (tk_ω κ) 1 (μ1 x j) := by simp [tk_fv, tk_v, tk_nat h0]
  rw [h4]
  exact key H ls locs hP hS hl'
/-! ===== arguments, calls, contracts ===== -/
def tk_ra : List Nat → List Int → Prop
  | [], [] => True
  | t :: ts, v :: vs => tk_r t v ∧ tk_ra ts vs
  | _, _ => False
def tk_zip (ω : tk_O) (ts : List Nat) (vs : List Int) : List Value := List.zipWith (tk_v ω) ts vs
def tk_wd : List Nat → Nat
  | [] => 0
  | t :: ts => (if t = 1 then 2 else 1) + tk_wd ts
/-- the code from pc on puts the arguments on the stack -/
def tk_Ea (ν : tk_N) (Γ : List (Nat × Nat)) (d : Nat) (es : List tk_Ex) (ts : List Nat) (pc p1 : Nat) : Prop :=
  ∀ (κ : tk_K), tk_X κ ν → ∀ (st : List Value), tk_sum st ≤ d → ∀ (ρ : tk_L) (μ : tk_M) (Q : List Int → tk_M → Prop), tk_rs Γ ρ → tk_args es Q ρ μ →
    (∀ vs μ', Q vs μ' → tk_ra ts vs → tk_G κ ν Γ ρ p1 μ' ((tk_zip (tk_ω κ) ts vs).reverse ++ st)) → tk_G κ ν Γ ρ pc μ st
theorem tk_ea0 {ν : tk_N} {Γ : List (Nat × Nat)} {d pc : Nat} : tk_Ea ν Γ d [] [] pc pc := fun κ X st hst ρ μ Q hr h k => k [] μ h trivial
theorem tk_ea1 {ν : tk_N} {Γ : List (Nat × Nat)} {d t pc p1 p2 : Nat} {e : tk_Ex} {es : List tk_Ex} {ts : List Nat} (he : tk_E ν Γ d e t pc p1) (hes : tk_Ea ν Γ (d + (if t = 1 then 2 else 1)) es ts p1 p2) : tk_Ea ν Γ d (e :: es) (t :: ts) pc p2 := by
  intro κ X st hst ρ μ Q hr h k
  refine he κ X st hst ρ μ _ hr h (fun v μ1 h1 hv => ?_)
  refine hes κ X _ (tk_sumg hst) ρ μ1 _ hr h1 (fun vs μ2 h2 hvs => ?_)
  have h3 := k (v :: vs) μ2 h2 ⟨hv, hvs⟩
  simp only [tk_zip, List.zipWith_cons_cons, List.reverse_cons, List.append_assoc, List.singleton_append] at h3
  exact h3
def tk_Qc (ω : tk_O) (t : Nat) (Q : Int → tk_M → Prop) : Array Value → State → Outcome → State → Prop := fun _ st oc u => (∃ (v : Int) (μ' : tk_M), oc = .returned (tk_ov ω t v) ∧ tk_rt t v ∧ Q v μ' ∧ tk_P ω μ' u.heap) ∧ va_F (tk_A ω) st u
def tk_Pc (ω : tk_O) (ts : List Nat) (vs : List Int) (μ : tk_M) : Array Value → State → Prop := fun a U => a = (tk_zip ω ts vs).toArray ∧ tk_P ω μ U.heap ∧ tk_S ω U
def tk_wy (y : MethodName) (cc : ByteArray) (nL : Nat) (ret : Option FieldType) : List Cond := .code y cc nL ret :: tk_tbl
/-- a method's contract: whatever follows for its predicate transformer holds behind it -/
def tk_Met (y : MethodName) (cc : ByteArray) (nL : Nat) (ret : Option FieldType) (rm : Room) (ts : List Nat) (t : Nat) (F : tk_F) : Prop :=
  ∀ (l : Launch) (ω : tk_O) (vs : List Int) (Q : Int → tk_M → Prop) (μ : tk_M), tk_ra ts vs → F vs Q μ → Met l y (tk_wy y cc nL ret) rm (tk_Pc ω ts vs μ) (tk_Qc ω t Q) 0 0 (tk_A ω)
def tk_ga (k : Nat) : List Nat → List (Nat × Nat)
  | [] => []
  | t :: ts => (k, t) :: tk_ga (k + (if t = 1 then 2 else 1)) ts
def tk_env (k : Nat) : List Nat → List Int → tk_L
  | t :: ts, v :: vs => tk_up (tk_env (k + (if t = 1 then 2 else 1)) ts vs) k v
  | _, _ => fun _ => 0
theorem tk_ga_ge {ts : List Nat} : ∀ {k : Nat} {q : Nat × Nat}, q ∈ tk_ga k ts → k ≤ q.1 := by
  induction ts with
  | nil => intro k q h; cases h
  | cons t ts ih =>
    intro k q h
    rcases List.mem_cons.mp h with rfl | h
    · exact Nat.le_refl _
    · have := ih h
      omega
theorem tk_lv_up {ω : tk_O} {ρ : tk_L} {k : Nat} {x : Int} {Γ : List (Nat × Nat)} (h : ∀ q ∈ Γ, q.1 ≠ k) : tk_lv ω Γ (tk_up ρ k x) = tk_lv ω Γ ρ := by
  unfold tk_lv
  refine List.map_congr_left (fun q hq => ?_)
  simp only [tk_up, if_neg (h q hq)]
theorem tk_env_lv {ω : tk_O} {ts : List Nat} : ∀ {k : Nat} {vs : List Int}, tk_ra ts vs → tk_lv ω (tk_ga k ts) (tk_env k ts vs) = lv_args k (tk_zip ω ts vs) := by
  induction ts with
  | nil => intro k vs h; cases vs with
    | nil => rfl
    | cons v vs => exact h.elim
  | cons t ts ih => intro k vs h; cases vs with
    | nil => exact h.elim
    | cons v vs =>
      have h1 := ih (k := k + (if t = 1 then 2 else 1)) h.2
      have h2 : tk_lv ω (tk_ga (k + (if t = 1 then 2 else 1)) ts) (tk_up (tk_env (k + (if t = 1 then 2 else 1)) ts vs) k v) = lv_args (k + (if t = 1 then 2 else 1)) (tk_zip ω ts vs) := by
        rw [tk_lv_up (fun q hq => by have := tk_ga_ge hq; split at this <;> omega), h1]
      show (k, tk_v ω t (tk_up (tk_env (k + (if t = 1 then 2 else 1)) ts vs) k v k)) :: _ = (k, tk_v ω t v) :: lv_args (if (tk_v ω t v).category = 2 then k + 2 else k + 1) (tk_zip ω ts vs)
      have h3 : (if (tk_v ω t v).category = 2 then k + 2 else k + 1) = k + (if t = 1 then 2 else 1) := by
        rw [tk_cat]; by_cases ht : t = 1
        · simp [ht]
        · simp [ht]
      have h5 : tk_up (tk_env (k + (if t = 1 then 2 else 1)) ts vs) k v k = v := by simp [tk_up]
      rw [h3, ← h2, h5]
      rfl
theorem tk_env_rs {ts : List Nat} : ∀ {k : Nat} {vs : List Int}, tk_ra ts vs → tk_rs (tk_ga k ts) (tk_env k ts vs) := by
  induction ts with
  | nil => intro k vs h q hq; cases hq
  | cons t ts ih => intro k vs h; cases vs with
    | nil => exact h.elim
    | cons v vs =>
      intro q hq
      rcases List.mem_cons.mp hq with rfl | hq
      · simp only [tk_env, tk_up, if_true]; exact h.1
      · have h1 := tk_ga_ge hq
        have h2 := ih h.2 q hq
        simp only [tk_env, tk_up]
        rw [if_neg (by split at h1 <;> omega)]
        exact h2
theorem tk_sl_len {ω : tk_O} {ts : List Nat} : ∀ {vs : List Int}, tk_ra ts vs → (lg_sl (tk_zip ω ts vs)).length = tk_wd ts := by
  induction ts with
  | nil => intro vs h; cases vs with
    | nil => rfl
    | cons v vs => exact h.elim
  | cons t ts ih => intro vs h; cases vs with
    | nil => exact h.elim
    | cons v vs =>
      have h1 := ih h.2
      simp only [tk_zip, List.zipWith_cons_cons, lg_sl, List.flatMap_cons, List.length_append, tk_cat] at h1 ⊢
      rw [h1]
      by_cases ht : t = 1 <;> simp [ht, tk_wd]
def tk_rty (t : Nat) : Option FieldType := match t with
  | 0 => some .int
  | 1 => some .long
  | 4 => some .boolean
  | _ => none
/-- a method's predicate transformer out of its body's -/
def tk_fn (ts : List Nat) (S : tk_Sm) : tk_F := fun vs Q μ => S (fun _ _ => False) Q (tk_env 0 ts vs) μ
theorem tk_met {y : MethodName} {cc : ByteArray} {nL : Nat} {rm : Room} {ts : List Nat} {t L : Nat} {Γ' : List (Nat × Nat)} {S : tk_Sm} (ht : t = 0 ∨ t = 1 ∨ t = 4 ∨ t = 9) (hy : plainName y.cls = true) (hw : tk_wd ts ≤ nL) (hb : tk_St (cc, y.cls, nL, rm, none) t (tk_ga 0 ts) Γ' S 0 L) : tk_Met y cc nL (tk_rty t) rm ts t (tk_fn ts S) := by
  intro l ω vs Q μ hr hF
  refine Met.ofW (cc := cc) (maxL := nL) (ret := tk_rty t) hy rfl ?_
  intro p e s m args below meth c s₁ B hml hv
  obtain ⟨rfl, hP, hS⟩ := hv
  have hts := atoms_spec (ws := tk_wy y cc nL (tk_rty t)) B.pre
  have hown : s.vm.findClass y.cls = some m.cls := findClass_of_methodNamed B.named
  have hx := B.exec
  have hbb := B.bytes
  have hrt := B.returns
  have hlocks := B.notSynchronized
  have hl := lv_entry (tk_zip ω ts vs) (n := nL) (by rw [tk_sl_len hr]; exact hw)
  rw [lg_entry_eq]
  rw [← tk_env_lv hr] at hl
  generalize hκ : ((p, l, e, s, m, (tk_zip ω ts vs).toArray, below, meth, c, 0, 0, MQ below (tk_Qc ω t Q) (tk_zip ω ts vs).toArray s 0 0 (tk_A ω), ω) : tk_K) = κ
  have X : tk_X κ (cc, y.cls, nL, rm, none) := by
    subst hκ
    exact ⟨hx, hbb, hml, hown, fun w h => hts w (List.mem_cons_of_mem _ h), hS, Nat.zero_le _, Nat.zero_le _, fun q h => by cases h⟩
  have kr : tk_Rt κ (cc, y.cls, nL, rm, none) t Q := by
    intro v μ' H ls locs pc hq ht' hP' hS' hd
    subst hκ
    have fin : ∀ u : State, u.heap = H → tk_Qc ω t Q (tk_zip ω ts vs).toArray s (.returned (tk_ov ω t v)) u := fun u hu => ⟨⟨v, μ', rfl, ht', hq, by rw [hu]; exact hP'⟩, hS'.F hu⟩
    rcases ht with rfl | rfl | rfl | rfl
    · exact W.iret (v := Int32.ofInt v) hx hbb hrt (fun u hu _ => fin u hu) hS'.2.2 hd
    · exact W.lret (v := Int64.ofInt v) hx hbb hrt (fun u hu _ => fin u hu) hS'.2.2 hd
    · exact W.zret (v := Int32.ofInt v) (ty := .boolean) hx hbb hrt (by rcases ht' with rfl | rfl <;> rfl) (fun u hu _ => fin u hu) hS'.2.2 hd
    · exact W.vret hx hbb hrt (fun u hu _ => fin u hu) hS'.2.2 hd
  have h1 := hb κ X (tk_env 0 ts vs) μ (fun _ _ => False) Q (tk_env_rs hr) hF (fun _ _ h => h.elim) kr
  subst hκ
  exact h1 s.heap _ [] hP va_S.rf hl
/-- behind a call -/
theorem tk_cont {κ : tk_K} {ν : tk_N} {H : Heap} {locs : List Loc} {ls : Array Slot} {pc : Nat} {st0 rest : List Value} {t : Nat} {Q : Int → tk_M → Prop} {a : Array Value} (hr : va_Run κ.1 κ.2.1 κ.2.2.1 ν.2.2.2.1 (tk_s κ) (tk_m κ) (tk_ar κ) (tk_be κ) (tk_me κ) (tk_c κ) H locs (tk_ce1 κ) (tk_sl κ) 0 0 (F0 (tk_m κ) pc ls st0) rest (tk_Qc (tk_ω κ) t Q a) (tk_A (tk_ω κ))) (hS : va_S (tk_A (tk_ω κ)) (tk_s κ).heap H locs)
    (kk : ∀ (v : Int) (μ' : tk_M) (H1 : Heap) (locs1 : List Loc), Q v μ' → tk_rt t v → tk_P (tk_ω κ) μ' H1 → va_S (tk_A (tk_ω κ)) (tk_s κ).heap H1 locs1 → tk_W κ ν H1 locs1 (pc + 3) ls (tk_rv (tk_ω κ) t v ++ rest)) : tk_W κ ν H locs pc ls st0 := by
  intro T hT X
  obtain ⟨v, st₀, t', T', L, h0, X', hL, e1, e2, ⟨⟨r, μ', hv, hrt, hq, hP⟩, hz, hk⟩, st⟩ := hr T hT X
  cases hv
  rw [h0] at hz hk
  have h3 := kk r μ' T'.heap (locs ++ L) hq hrt (by rw [e1]; exact hP)
    ⟨Nat.le_trans hS.1 (by rw [e1]; exact hz), fun q h1 h2 => by rw [e1, hk q (Nat.lt_of_lt_of_le h1 hS.1) h2]; exact hS.2.1 q h1 h2, fun q hq => by
      rcases List.mem_append.mp hq with h | h
      · exact hS.2.2 q h
      · exact hL q h⟩
  obtain ⟨t2, a1, b1⟩ := h3 T' rfl X'
  exact ⟨t2, st t2 a1, b1⟩
/-- what a call needs of the tables and of the room -/
def tk_cw (ν : tk_N) (ix : Nat) (y : MethodName) (cc : ByteArray) (nL : Nat) (ret : Option FieldType) (rm : Room) (n : Nat) : Prop :=
  (Cond.methodLink ν.2.1 ix y ∈ tk_tbl ∨ Cond.methodLinkNest ν.2.1 ix y "TicketHall" ∈ tk_nw) ∧ Cond.initialized y.cls ∈ tk_tbl ∧ Cond.code y cc nL ret ∈ tk_tbl ∧ (y.cls ≠ "java/lang/invoke/MethodHandle" ∧ y.cls ≠ "java/lang/invoke/VarHandle" ∧ (parseMethodDescriptor y.desc).map (fun d => d.parameters.length) = some n) ∧ rm.cells = 0 ∧ rm.slots = 0 ∧ rm.frames + 1 ≤ ν.2.2.2.1.frames ∧ 8 + (nL + 11) + rm.locals ≤ ν.2.2.2.1.locals
theorem tk_wy_good {y : MethodName} {cc : ByteArray} {nL : Nat} {ret : Option FieldType} (h : Cond.code y cc nL ret ∈ tk_tbl) : GoodIn tk_tbl (tk_wy y cc nL ret) := by
  have h1 : ∀ w ∈ tk_wy y cc nL ret, w ∈ tk_tbl := fun w hw => by
    rcases List.mem_cons.mp hw with rfl | hw
    · exact h
    · exact hw
  exact tk_goodIn h1 (fun w hw => tk_tbl_good w (h1 w hw))
theorem tk_blind {ω : tk_O} {ts : List Nat} {vs : List Int} {μ : tk_M} : FrameBlind (tk_Pc ω ts vs μ) := fun a U g mk h => ⟨h.1, h.2.1, h.2.2.to (Vm.Alike.refl U.vm) (tk_nw_same rfl) (fun _ _ _ => rfl)⟩
theorem tk_ra_len {ts : List Nat} : ∀ {vs : List Int}, tk_ra ts vs → vs.length = ts.length := by
  induction ts with
  | nil => intro vs h; cases vs with
    | nil => rfl
    | cons v vs => exact h.elim
  | cons t ts ih => intro vs h; cases vs with
    | nil => exact h.elim
    | cons v vs => simp [ih h.2]
theorem tk_pre {κ : tk_K} {ν : tk_N} {H : Heap} {locs : List Loc} {ts : List Nat} {vs : List Int} {μ : tk_M} (X : tk_X κ ν) (hP : tk_P (tk_ω κ) μ H) (hS : va_S (tk_A (tk_ω κ)) (tk_s κ).heap H locs) : ∀ U : State, U.heap = H → (tk_s κ).WarmedH U.vm → tk_Pc (tk_ω κ) ts vs μ (tk_zip (tk_ω κ) ts vs).toArray U := fun U hU hW => ⟨rfl, by rw [hU]; exact hP, X.2.2.2.2.2.1.to hW.alike (tk_nw_warm hW) (fun a h1 h2 => by rw [hU]; exact hS.2.1 a h1 h2)⟩
theorem tk_callV {κ : tk_K} {ν : tk_N} {H : Heap} {locs : List Loc} {ls : Array Slot} {pc ix nL t ci N : Nat} {st : List Value} {y : MethodName} {cc : ByteArray} {rm : Room} {ts : List Nat} {T : u_T} {ty : Nat → FieldType} {F : tk_F} {vs : List Int} {x : Int} {μ : tk_M} {Q : Int → tk_M → Prop} {Γ : List (Nat × Nat)} {ρ : tk_L} (X : tk_X κ ν) (hM : tk_Met y cc nL (tk_rty t) rm (2 :: ts) t F) (hc : tk_cw ν ix y cc nL (tk_rty t) rm ts.length) (hi : Cond.instanceMethod y ∈ tk_tbl) (hse : Cond.selects y.cls y y ∈ tk_tbl) (hC : tk_Cl ci y.cls T N ty) (hd : decode ν.1 pc = .ok (.invokevirtual ix, 3)) (hst : tk_sum st ≤ 8) (hx : tk_isC ci x) (hr : tk_ra ts vs) (hF : F (x :: vs) Q μ) (hP : tk_P (tk_ω κ) μ H) (hS : va_S (tk_A (tk_ω κ)) (tk_s κ).heap H locs) (hl : lv_has ls ν.2.2.1 (tk_lv (tk_ω κ) Γ ρ))
    (kk : ∀ (v : Int) (μ' : tk_M) (H1 : Heap) (locs1 : List Loc), Q v μ' → tk_rt t v → tk_P (tk_ω κ) μ' H1 → va_S (tk_A (tk_ω κ)) (tk_s κ).heap H1 locs1 → tk_W κ ν H1 locs1 (pc + 3) ls (tk_rv (tk_ω κ) t v ++ st)) : tk_W κ ν H locs pc ls ((tk_zip (tk_ω κ) (2 :: ts) (x :: vs)).reverse ++ st) := by
  obtain ⟨hlk, hin, hcd, hdn, hrc, hrs, hfr, hlo⟩ := hc
  obtain ⟨h0, hlay⟩ := tk_isC_lay hx
  have hz : tk_zip (tk_ω κ) (2 :: ts) (x :: vs) = .ref (tk_bs (tk_ω κ) + x.toNat) :: tk_zip (tk_ω κ) ts vs := by
    show tk_v (tk_ω κ) 2 x :: _ = _
    rw [tk_v2 h0]
    rfl
  have hMl := hM κ.2.1 (tk_ω κ) (x :: vs) Q μ ⟨h0, hr⟩ hF
  have hpre := tk_pre (ts := 2 :: ts) (vs := x :: vs) X hP hS
  rw [hz] at hpre ⊢
  have hrecv := va_recv X.2.2.2.2.2.1.1 hP.1 hC.1 (tk_ws_at (ω := tk_ω κ) (μ := μ) hlay)
  have hn : (tk_zip (tk_ω κ) ts vs).length = ts.length := by simp [tk_zip, tk_ra_len hr]
  have hstk : (Value.ref (tk_bs (tk_ω κ) + x.toNat) :: tk_zip (tk_ω κ) ts vs).reverse ++ st = (tk_zip (tk_ω κ) ts vs).reverse ++ .ref (tk_bs (tk_ω κ) + x.toNat) :: st := by simp
  have hfix : CallFix κ.1 (tk_m κ) (tk_c κ) ν.1 ν.2.2.1 (tk_s κ) (tk_ar κ) tk_tbl ν.2.1 := ⟨X.1, X.2.1, X.2.2.1, X.2.2.2.1, X.2.2.2.2.1⟩
  rcases hlk with hlk | hlk
  · have hg : GoodIn tk_tbl (wsV ν.2.1 ix y.cls y (tk_wy y cc nL (tk_rty t))) := by
      refine tk_goodIn (fun w hw => ?_) (fun w hw => ?_)
      all_goals
        unfold wsV at hw
        rcases List.mem_append.mp hw with hw | hw
        · simp only [List.mem_cons, List.not_mem_nil, or_false] at hw
          rcases hw with rfl | rfl | rfl | rfl <;> first | assumption | (apply tk_tbl_good; assumption)
        · first | exact ((tk_wy_good hcd) w hw).1 | exact tk_tbl_good w ((tk_wy_good hcd) w hw).1
    refine tk_cont (va_runV hfix hMl (cwV ts.length X.2.2.2.2.1 hg rfl hrc hrs ⟨rfl, hdn.1, hdn.2.1, hdn.2.2⟩ ⟨hfr, hlo⟩) ⟨tk_blind, hrecv, hpre⟩ rfl hn hl.1 hstk (lv_room hst) hd ⟨X.2.2.2.2.2.2.1, X.2.2.2.2.2.2.2.1⟩) hS kk
  · refine tk_cont (va_runVN hfix hMl ⟨va_cnB ts.length X.2.2.2.2.1 (tk_wy_good hcd) rfl hrc hrs (X.2.2.2.2.2.1.2.2.2.2.2 _ hlk) (X.2.2.2.2.1 _ hin) hdn ⟨hfr, hlo⟩, X.2.2.2.2.1 _ hi, X.2.2.2.2.1 _ hse⟩ ⟨tk_blind, hrecv, hpre⟩ rfl hn hl.1 hstk (lv_room hst) hd ⟨X.2.2.2.2.2.2.1, X.2.2.2.2.2.2.2.1⟩) hS kk
theorem tk_callS {κ : tk_K} {ν : tk_N} {H : Heap} {locs : List Loc} {ls : Array Slot} {pc ix nL t : Nat} {st : List Value} {y : MethodName} {cc : ByteArray} {rm : Room} {ts : List Nat} {F : tk_F} {vs : List Int} {μ : tk_M} {Q : Int → tk_M → Prop} {Γ : List (Nat × Nat)} {ρ : tk_L} (X : tk_X κ ν) (hM : tk_Met y cc nL (tk_rty t) rm ts t F) (hc : tk_cw ν ix y cc nL (tk_rty t) rm ts.length) (hi : Cond.static y ∈ tk_tbl) (hd : decode ν.1 pc = .ok (.invokestatic ix, 3)) (hst : tk_sum st ≤ 8) (hr : tk_ra ts vs) (hF : F vs Q μ) (hP : tk_P (tk_ω κ) μ H) (hS : va_S (tk_A (tk_ω κ)) (tk_s κ).heap H locs) (hl : lv_has ls ν.2.2.1 (tk_lv (tk_ω κ) Γ ρ))
    (kk : ∀ (v : Int) (μ' : tk_M) (H1 : Heap) (locs1 : List Loc), Q v μ' → tk_rt t v → tk_P (tk_ω κ) μ' H1 → va_S (tk_A (tk_ω κ)) (tk_s κ).heap H1 locs1 → tk_W κ ν H1 locs1 (pc + 3) ls (tk_rv (tk_ω κ) t v ++ st)) : tk_W κ ν H locs pc ls ((tk_zip (tk_ω κ) ts vs).reverse ++ st) := by
  obtain ⟨hlk, hin, hcd, hdn, hrc, hrs, hfr, hlo⟩ := hc
  have hMl := hM κ.2.1 (tk_ω κ) vs Q μ hr hF
  have hpre := tk_pre (ts := ts) (vs := vs) X hP hS
  have hn : (tk_zip (tk_ω κ) ts vs).length = ts.length := by simp [tk_zip, tk_ra_len hr]
  have hfix : CallFix κ.1 (tk_m κ) (tk_c κ) ν.1 ν.2.2.1 (tk_s κ) (tk_ar κ) tk_tbl ν.2.1 := ⟨X.1, X.2.1, X.2.2.1, X.2.2.2.1, X.2.2.2.2.1⟩
  rcases hlk with hlk | hlk
  · have hg : GoodIn tk_tbl (va_wsS ν.2.1 ix y (tk_wy y cc nL (tk_rty t))) := by
      refine tk_goodIn (fun w hw => ?_) (fun w hw => ?_)
      all_goals
        unfold va_wsS at hw
        rcases List.mem_append.mp hw with hw | hw
        · simp only [List.mem_cons, List.not_mem_nil, or_false] at hw
          rcases hw with rfl | rfl | rfl <;> first | assumption | (apply tk_tbl_good; assumption)
        · first | exact ((tk_wy_good hcd) w hw).1 | exact tk_tbl_good w ((tk_wy_good hcd) w hw).1
    refine tk_cont (va_runS hfix hMl (va_cwS ts.length X.2.2.2.2.1 hg rfl hrc hrs hdn ⟨hfr, hlo⟩) ⟨tk_blind, hpre⟩ rfl hn hl.1 rfl (lv_room hst) hd ⟨X.2.2.2.2.2.2.1, X.2.2.2.2.2.2.2.1⟩) hS kk
  · refine tk_cont (va_runSN hfix hMl ⟨va_cnB ts.length X.2.2.2.2.1 (tk_wy_good hcd) rfl hrc hrs (X.2.2.2.2.2.1.2.2.2.2.2 _ hlk) (X.2.2.2.2.1 _ hin) hdn ⟨hfr, hlo⟩, X.2.2.2.2.1 _ hi, trivial⟩ ⟨tk_blind, hpre⟩ rfl hn hl.1 rfl (lv_room hst) hd ⟨X.2.2.2.2.2.2.1, X.2.2.2.2.2.2.2.1⟩) hS kk
theorem tk_ok_cvi {ν : tk_N} {Γ : List (Nat × Nat)} {d pc p1 ix nL t ci N : Nat} {y : MethodName} {cc : ByteArray} {rm : Room} {ts : List Nat} {T : u_T} {ty : Nat → FieldType} {F : tk_F} {es : List tk_Ex} (hes : tk_Ea ν Γ d es (2 :: ts) pc p1) (hM : tk_Met y cc nL (tk_rty t) rm (2 :: ts) t F) (hc : tk_cw ν ix y cc nL (tk_rty t) rm ts.length) (hi : Cond.instanceMethod y ∈ tk_tbl) (hse : Cond.selects y.cls y y ∈ tk_tbl) (hC : tk_Cl ci y.cls T N ty) (hd : decode ν.1 p1 = .ok (.invokevirtual ix, 3)) (hd8 : d ≤ 8) (ht : t = 0 ∨ t = 4) : tk_E ν Γ d (tk_cv ci F es) 0 pc (p1 + 3) := by
  intro κ X st hst ρ μ Q hr h k
  refine hes κ X st hst ρ μ _ hr h (fun vs μ1 h1 hvs => ?_)
  cases vs with
  | nil => exact hvs.elim
  | cons x vs =>
    intro H ls locs hP hS hl
    refine tk_callV X hM hc hi hse hC hd (Nat.le_trans hst hd8) h1.1 hvs.2 h1.2 hP hS hl (fun v μ2 H1 l1 g1 g2 g3 g4 => ?_)
    · rcases ht with rfl | rfl
      · exact k v μ2 g1 g2 H1 ls l1 g3 g4 hl
      · exact k v μ2 g1 (by rcases g2 with rfl | rfl <;> exact ⟨by omega, by omega⟩) H1 ls l1 g3 g4 hl
theorem tk_ok_csi {ν : tk_N} {Γ : List (Nat × Nat)} {d pc p1 ix nL t : Nat} {y : MethodName} {cc : ByteArray} {rm : Room} {ts : List Nat} {F : tk_F} {es : List tk_Ex} (hes : tk_Ea ν Γ d es ts pc p1) (hM : tk_Met y cc nL (tk_rty t) rm ts t F) (hc : tk_cw ν ix y cc nL (tk_rty t) rm ts.length) (hi : Cond.static y ∈ tk_tbl) (hd : decode ν.1 p1 = .ok (.invokestatic ix, 3)) (hd8 : d ≤ 8) (ht : t = 0 ∨ t = 4) : tk_E ν Γ d (tk_cs F es) 0 pc (p1 + 3) := by
  intro κ X st hst ρ μ Q hr h k
  refine hes κ X st hst ρ μ _ hr h (fun vs μ1 h1 hvs H ls locs hP hS hl => ?_)
  refine tk_callS X hM hc hi hd (Nat.le_trans hst hd8) hvs h1 hP hS hl (fun v μ2 H1 l1 g1 g2 g3 g4 => ?_)
  rcases ht with rfl | rfl
  · exact k v μ2 g1 g2 H1 ls l1 g3 g4 hl
  · exact k v μ2 g1 (by rcases g2 with rfl | rfl <;> exact ⟨by omega, by omega⟩) H1 ls l1 g3 g4 hl
theorem tk_ok_cvl {ν : tk_N} {Γ : List (Nat × Nat)} {d pc p1 ix nL t ci N : Nat} {y : MethodName} {cc : ByteArray} {rm : Room} {ts : List Nat} {T : u_T} {ty : Nat → FieldType} {F : tk_F} {es : List tk_Ex} (hes : tk_Ea ν Γ d es (2 :: ts) pc p1) (hM : tk_Met y cc nL (tk_rty t) rm (2 :: ts) t F) (hc : tk_cw ν ix y cc nL (tk_rty t) rm ts.length) (hi : Cond.instanceMethod y ∈ tk_tbl) (hse : Cond.selects y.cls y y ∈ tk_tbl) (hC : tk_Cl ci y.cls T N ty) (hd : decode ν.1 p1 = .ok (.invokevirtual ix, 3)) (hd8 : d ≤ 8) (ht : t = 1) : tk_E ν Γ d (tk_cv ci F es) 1 pc (p1 + 3) := by
  intro κ X st hst ρ μ Q hr h k
  refine hes κ X st hst ρ μ _ hr h (fun vs μ1 h1 hvs => ?_)
  cases vs with
  | nil => exact hvs.elim
  | cons x vs =>
    intro H ls locs hP hS hl
    refine tk_callV X hM hc hi hse hC hd (Nat.le_trans hst hd8) h1.1 hvs.2 h1.2 hP hS hl (fun v μ2 H1 l1 g1 g2 g3 g4 => ?_)
    · subst ht
      exact k v μ2 g1 g2 H1 ls l1 g3 g4 hl
theorem tk_ok_csl {ν : tk_N} {Γ : List (Nat × Nat)} {d pc p1 ix nL t : Nat} {y : MethodName} {cc : ByteArray} {rm : Room} {ts : List Nat} {F : tk_F} {es : List tk_Ex} (hes : tk_Ea ν Γ d es ts pc p1) (hM : tk_Met y cc nL (tk_rty t) rm ts t F) (hc : tk_cw ν ix y cc nL (tk_rty t) rm ts.length) (hi : Cond.static y ∈ tk_tbl) (hd : decode ν.1 p1 = .ok (.invokestatic ix, 3)) (hd8 : d ≤ 8) (ht : t = 1) : tk_E ν Γ d (tk_cs F es) 1 pc (p1 + 3) := by
  intro κ X st hst ρ μ Q hr h k
  refine hes κ X st hst ρ μ _ hr h (fun vs μ1 h1 hvs H ls locs hP hS hl => ?_)
  refine tk_callS X hM hc hi hd (Nat.le_trans hst hd8) hvs h1 hP hS hl (fun v μ2 H1 l1 g1 g2 g3 g4 => ?_)
  subst ht
  exact k v μ2 g1 g2 H1 ls l1 g3 g4 hl
theorem tk_ok_cvv {ν : tk_N} {Γ : List (Nat × Nat)} {t' pc p1 ix nL ci N : Nat} {y : MethodName} {cc : ByteArray} {rm : Room} {ts : List Nat} {T : u_T} {ty : Nat → FieldType} {F : tk_F} {es : List tk_Ex} (hes : tk_Ea ν Γ 0 es (2 :: ts) pc p1) (hM : tk_Met y cc nL (tk_rty 9) rm (2 :: ts) 9 F) (hc : tk_cw ν ix y cc nL (tk_rty 9) rm ts.length) (hi : Cond.instanceMethod y ∈ tk_tbl) (hse : Cond.selects y.cls y y ∈ tk_tbl) (hC : tk_Cl ci y.cls T N ty) (hd : decode ν.1 p1 = .ok (.invokevirtual ix, 3)) : tk_St ν t' Γ Γ (tk_xp (tk_cv ci F es)) pc (p1 + 3) := by
  intro κ X ρ μ Qn Qr hr h kn kr
  refine hes κ X [] (Nat.le_refl 0) ρ μ _ hr h (fun vs μ1 h1 hvs => ?_)
  cases vs with
  | nil => exact hvs.elim
  | cons x vs =>
    intro H ls locs hP hS hl
    exact tk_callV X hM hc hi hse hC hd (Nat.zero_le 8) h1.1 hvs.2 h1.2 hP hS hl (fun v μ2 H1 l1 g1 g2 g3 g4 => kn ρ μ2 g1 hr H1 ls l1 g3 g4 hl)
theorem tk_ok_csv {ν : tk_N} {Γ : List (Nat × Nat)} {t' pc p1 ix nL : Nat} {y : MethodName} {cc : ByteArray} {rm : Room} {ts : List Nat} {F : tk_F} {es : List tk_Ex} (hes : tk_Ea ν Γ 0 es ts pc p1) (hM : tk_Met y cc nL (tk_rty 9) rm ts 9 F) (hc : tk_cw ν ix y cc nL (tk_rty 9) rm ts.length) (hi : Cond.static y ∈ tk_tbl) (hd : decode ν.1 p1 = .ok (.invokestatic ix, 3)) : tk_St ν t' Γ Γ (tk_xp (tk_cs F es)) pc (p1 + 3) := by
  intro κ X ρ μ Qn Qr hr h kn kr
  refine hes κ X [] (Nat.le_refl 0) ρ μ _ hr h (fun vs μ1 h1 hvs H ls locs hP hS hl => ?_)
  exact tk_callS X hM hc hi hd (Nat.zero_le 8) hvs h1 hP hS hl (fun v μ2 H1 l1 g1 g2 g3 g4 => kn ρ μ2 g1 hr H1 ls l1 g3 g4 hl)
end
section
/-! ===== the host's own: max, min, abs, arraycopy; the script ===== -/
def tk_mx (x y : Int) : Int := if x < y then y else x
def tk_mn (x y : Int) : Int := if x > y then y else x
def tk_ab (x : Int) : Int := (if 0 < (Int64.ofInt x) then (Int64.ofInt x) else -(Int64.ofInt x)).toInt
theorem tk_ok_mmax {ν : tk_N} {Γ : List (Nat × Nat)} {d pc p1 p2 ix : Nat} {a b : tk_Ex} (ha : tk_E ν Γ d a 0 pc p1) (hb : tk_E ν Γ (d + 1) b 0 p1 p2) (hd : decode ν.1 p2 = .ok (.invokestatic ix, 3)) (h1 : Cond.methodLink ν.2.1 ix Lib.Math.max.name ∈ tk_tbl) (h2 : Cond.static Lib.Math.max.name ∈ tk_tbl) (h3 : Cond.initialized "java/lang/Math" ∈ tk_tbl) (h4 : Cond.code Lib.Math.max.name Lib.Math.max.code 2 (some .int) ∈ tk_tbl) (hf : 1 ≤ ν.2.2.2.1.frames) (hlo : d + 13 ≤ ν.2.2.2.1.locals) : tk_E ν Γ d (tk_bin tk_mx a b) 0 pc (p2 + 3) := by
  intro κ X st hst ρ μ Q hr h k
  refine ha κ X st hst ρ μ _ hr h (fun x μ1 g1 hx => ?_)
  refine hb κ X _ (tk_sum0 hst) ρ μ1 _ hr g1 (fun y μ2 g2 hy H ls locs hP hS hl => ?_)
  have hc := k _ μ2 g2 (by unfold tk_mx; split <;> assumption) H ls locs hP hS hl
  refine va_mmax X.1 X.2.1 (by rw [X.2.2.1, hl.1]) X.2.2.2.1 (tk_tl X h1) (tk_tl X h2) (tk_tl X h3) (tk_tl X h4) hf (by unfold tk_sum at hst; omega) X.2.2.2.2.2.2.1 X.2.2.2.2.2.2.2.1 hd ?_
  have e1 : (if Int32.ofInt x < Int32.ofInt y then Int32.ofInt y else Int32.ofInt x) = Int32.ofInt (tk_mx x y) := by
    unfold tk_mx
    by_cases hxy : x < y
    · rw [if_pos ((tk_ltI hx hy).mpr hxy), if_pos hxy]
    · rw [if_neg (fun z => hxy ((tk_ltI hx hy).mp z)), if_neg hxy]
  rw [e1]
  exact hc
theorem tk_ok_mmin {ν : tk_N} {Γ : List (Nat × Nat)} {d pc p1 p2 ix : Nat} {a b : tk_Ex} (ha : tk_E ν Γ d a 0 pc p1) (hb : tk_E ν Γ (d + 1) b 0 p1 p2) (hd : decode ν.1 p2 = .ok (.invokestatic ix, 3)) (h1 : Cond.methodLink ν.2.1 ix Lib.Math.min.name ∈ tk_tbl) (h2 : Cond.static Lib.Math.min.name ∈ tk_tbl) (h3 : Cond.initialized "java/lang/Math" ∈ tk_tbl) (h4 : Cond.code Lib.Math.min.name Lib.Math.min.code 2 (some .int) ∈ tk_tbl) (hf : 1 ≤ ν.2.2.2.1.frames) (hlo : d + 13 ≤ ν.2.2.2.1.locals) : tk_E ν Γ d (tk_bin tk_mn a b) 0 pc (p2 + 3) := by
  intro κ X st hst ρ μ Q hr h k
  refine ha κ X st hst ρ μ _ hr h (fun x μ1 g1 hx => ?_)
  refine hb κ X _ (tk_sum0 hst) ρ μ1 _ hr g1 (fun y μ2 g2 hy H ls locs hP hS hl => ?_)
  have hc := k _ μ2 g2 (by unfold tk_mn; split <;> assumption) H ls locs hP hS hl
  refine va_mmin X.1 X.2.1 (by rw [X.2.2.1, hl.1]) X.2.2.2.1 (tk_tl X h1) (tk_tl X h2) (tk_tl X h3) (tk_tl X h4) hf (by unfold tk_sum at hst; omega) X.2.2.2.2.2.2.1 X.2.2.2.2.2.2.2.1 hd ?_
  have e1 : (if (Int32.ofInt y) < (Int32.ofInt x) then (Int32.ofInt y) else (Int32.ofInt x)) = Int32.ofInt (tk_mn x y) := by
    unfold tk_mn
    by_cases hxy : x > y
    · first | rw [if_pos ((tk_ltI hy hx).mpr hxy), if_pos hxy] | rw [if_neg (fun z => absurd ((tk_leI hx hy).mp z) (by omega)), if_pos hxy]
    · first | rw [if_neg (fun z => hxy ((tk_ltI hy hx).mp z)), if_neg hxy] | rw [if_pos ((tk_leI hx hy).mpr (by omega)), if_neg hxy]
  rw [e1]
  exact hc
theorem tk_ok_xmax {ν : tk_N} {Γ : List (Nat × Nat)} {d pc p1 p2 ix : Nat} {a b : tk_Ex} (ha : tk_E ν Γ d a 1 pc p1) (hb : tk_E ν Γ (d + 2) b 1 p1 p2) (hd : decode ν.1 p2 = .ok (.invokestatic ix, 3)) (h1 : Cond.methodLink ν.2.1 ix Lib.MathLoose.max_long.x ∈ tk_tbl) (h2 : Cond.static Lib.MathLoose.max_long.x ∈ tk_tbl) (h3 : Cond.initialized "java/lang/Math" ∈ tk_tbl) (h4 : Cond.code Lib.MathLoose.max_long.x Lib.MathLoose.max_long.code 4 (some .long) ∈ tk_tbl) (hf : 1 ≤ ν.2.2.2.1.frames) (hlo : d + 15 ≤ ν.2.2.2.1.locals) : tk_E ν Γ d (tk_bin tk_mx a b) 1 pc (p2 + 3) := by
  intro κ X st hst ρ μ Q hr h k
  refine ha κ X st hst ρ μ _ hr h (fun x μ1 g1 hx => ?_)
  refine hb κ X _ (tk_sum1 hst) ρ μ1 _ hr g1 (fun y μ2 g2 hy H ls locs hP hS hl => ?_)
  have hc := k _ μ2 g2 (by unfold tk_mx; split <;> assumption) H ls locs hP hS hl
  refine va_mmax_long X.1 X.2.1 (by rw [X.2.2.1, hl.1]) X.2.2.2.1 (tk_tl X h1) (tk_tl X h2) (tk_tl X h3) (tk_tl X h4) hf (by unfold tk_sum at hst; omega) X.2.2.2.2.2.2.1 X.2.2.2.2.2.2.2.1 hd ?_
  have e1 : (if Int64.ofInt y < Int64.ofInt x then Int64.ofInt x else Int64.ofInt y) = Int64.ofInt (tk_mx x y) := by
    unfold tk_mx
    by_cases hxy : x < y
    · rw [if_neg (fun z => absurd ((tk_ltL hy hx).mp z) (by omega)), if_pos hxy]
    · by_cases hyx : y < x
      · rw [if_pos ((tk_ltL hy hx).mpr hyx), if_neg hxy]
      · have : x = y := by omega
        subst this
        rw [if_neg hxy, ite_self]
  rw [e1]
  exact hc
theorem tk_ok_mabs {ν : tk_N} {Γ : List (Nat × Nat)} {d pc p1 ix : Nat} {a : tk_Ex} (ha : tk_E ν Γ d a 1 pc p1) (hd : decode ν.1 p1 = .ok (.invokestatic ix, 3)) (h1 : Cond.methodLink ν.2.1 ix Lib.MathLoose.abs_long.x ∈ tk_tbl) (h2 : Cond.static Lib.MathLoose.abs_long.x ∈ tk_tbl) (h3 : Cond.initialized "java/lang/Math" ∈ tk_tbl) (h4 : Cond.code Lib.MathLoose.abs_long.x Lib.MathLoose.abs_long.code 2 (some .long) ∈ tk_tbl) (hf : 1 ≤ ν.2.2.2.1.frames) (hlo : d + 13 ≤ ν.2.2.2.1.locals) : tk_E ν Γ d (tk_u1 tk_ab a) 1 pc (p1 + 3) := by
  intro κ X st hst ρ μ Q hr h k
  refine ha κ X st hst ρ μ _ hr h (fun x μ1 g1 hx H ls locs hP hS hl => ?_)
  have hc := k _ μ1 g1 (tk_r1 _) H ls locs hP hS hl
  rw [tk_ab, tk_v1] at hc
  exact va_mabs_long X.1 X.2.1 (by rw [X.2.2.1, hl.1]) X.2.2.2.1 (tk_tl X h1) (tk_tl X h2) (tk_tl X h3) (tk_tl X h4) hf (by unfold tk_sum at hst; omega) X.2.2.2.2.2.2.1 X.2.2.2.2.2.2.2.1 hd hc
theorem tk_blk_ne {μ : tk_M} {x i y j k : Int} {o : Nat} (h0 : 0 ≤ y) (h : o ≠ y.toNat) (q : Int) : tk_blk μ x i y j k o q = μ o q := by
  unfold tk_blk
  rw [if_neg (by omega)]
theorem tk_ok_cpy0 {ν : tk_N} {t' pc p1 ix : Nat} {Γ : List (Nat × Nat)} {a sp b dp n : tk_Ex} (hes : tk_Ea ν Γ 0 [a, sp, b, dp, n] [2, 0, 2, 0, 0] pc p1) (hd : decode ν.1 p1 = .ok (.invokestatic ix, 3)) (h1 : Cond.methodLink ν.2.1 ix arraycopyName ∈ tk_tbl) (h2 : Cond.native arraycopyName ∈ tk_tbl) (h3 : Cond.static arraycopyName ∈ tk_tbl) (h4 : Cond.initialized "java/lang/System" ∈ tk_tbl) (hf : 1 ≤ ν.2.2.2.1.frames) (hlo : nativeFrameWords "java/lang/System" "arraycopy" 5 + 11 ≤ ν.2.2.2.1.locals) : tk_St ν t' Γ Γ (tk_cpy 0 a sp b dp n) pc (p1 + 3) := by
  intro κ X ρ μ Qn Qr hr h kn kr
  refine hes κ X [] (Nat.le_refl 0) ρ μ _ hr h (fun vs μ1 g1 hvs H ls locs hP hS hl => ?_)
  match vs, hvs, g1 with
  | [x, i, y, j, k], ⟨hx, hi, hy, hj, hk, _⟩, g1 =>
    obtain ⟨⟨c1, c2, c3, c4, c5, c6, c7⟩, hq⟩ := g1
    obtain ⟨-, nx, ex, lx⟩ := tk_al_lay (Int.le_refl 0) c4
    obtain ⟨-, ny, ey, ly⟩ := tk_al_lay (Int.le_refl 0) c5
    have wx := tk_ws_at (ω := tk_ω κ) (μ := μ1) lx
    have wy := tk_ws_at (ω := tk_ω κ) (μ := μ1) ly
    show tk_W κ ν H locs p1 ls [.int (Int32.ofInt k), .int (Int32.ofInt j), tk_v (tk_ω κ) 2 y, .int (Int32.ofInt i), tk_v (tk_ω κ) 2 x]
    rw [tk_v2 hx, tk_v2 hy]
    have n0 : ∀ {z : Int}, tk_r 0 z → 0 ≤ z → ¬ Int32.ofInt z < 0 := fun {z} hz h0 hlt => by
      have e := (tk_ltI hz (show tk_r 0 0 from ⟨by omega, by omega⟩)).mp hlt
      omega
    refine va_copyi X.1 X.2.1 (by rw [X.2.2.1, hl.1]) X.2.2.2.1 (tk_tl X h1) (tk_tl X h2) (tk_tl X h3) (tk_tl X h4) X.2.2.2.2.2.1.1 hP.1 tk_wD hS x.toNat y.toNat 0 0 (n0 := nx) (n1 := ny) (f := fun j => Int32.ofInt (μ1 x.toNat j)) (g := fun j => Int32.ofInt (μ1 y.toNat j)) (ty := .int) wx wy rfl rfl rfl (n0 hi c1) (n0 hj c2) (n0 hk c3) (by rw [tk_ncn hi, tk_ncn hk]; omega) (by rw [tk_ncn hj, tk_ncn hk]; omega) (fun _ _ => rfl) hf (by simpa using hlo) hd (fun H1 l1 q1 _ q3 => ?_)
    rw [tk_ncn hi, tk_ncn hj, tk_ncn hk] at q1
    have e1 : va_cpy (fun j : Nat => Int32.ofInt (μ1 x.toNat j)) (fun j : Nat => Int32.ofInt (μ1 y.toNat j)) i.toNat j.toNat k.toNat = fun q : Nat => Int32.ofInt (tk_blk μ1 x i y j k y.toNat q) := by
      funext q
      unfold va_cpy tk_blk
      have hx0 : 0 ≤ x := hx
      have hy0 : 0 ≤ y := hy
      by_cases hq' : j.toNat ≤ q ∧ q < j.toNat + k.toNat
      · rw [if_pos hq', if_pos (by omega)]
        have e3 : ((i.toNat + (q - j.toNat) : Nat) : Int) = i + ((q : Int) - j) := by omega
        dsimp only
        rw [e3, tk_nat hx0]
      · rw [if_neg hq', if_neg (by omega)]
    rw [e1] at q1
    have e5 := tk_ws_put (ω := tk_ω κ) (μ := μ1) (μ' := tk_blk μ1 x i y j k) ly rfl (fun o' ho' z => tk_blk_ne hy ho' z)
    refine kn ρ _ hq hr H1 ls l1 ⟨by rw [← e5]; exact q1, tk_in_put hP.2 ly (fun z hz => ?_) (fun o' ho' z => tk_blk_ne hy ho' z)⟩ q3 hl
    unfold tk_blk
    split
    · rename_i hc
      have hz2 : 0 ≤ i + ((z : Int) - j) ∧ i + ((z : Int) - j) < tk_al 0 x := by omega
      exact tk_in_a hP.2 hz2
    · exact hP.2 _ _ ly z hz
theorem tk_ok_cpy1 {ν : tk_N} {t' pc p1 ix : Nat} {Γ : List (Nat × Nat)} {a sp b dp n : tk_Ex} (hes : tk_Ea ν Γ 0 [a, sp, b, dp, n] [2, 0, 2, 0, 0] pc p1) (hd : decode ν.1 p1 = .ok (.invokestatic ix, 3)) (h1 : Cond.methodLink ν.2.1 ix arraycopyName ∈ tk_tbl) (h2 : Cond.native arraycopyName ∈ tk_tbl) (h3 : Cond.static arraycopyName ∈ tk_tbl) (h4 : Cond.initialized "java/lang/System" ∈ tk_tbl) (hf : 1 ≤ ν.2.2.2.1.frames) (hlo : nativeFrameWords "java/lang/System" "arraycopy" 5 + 11 ≤ ν.2.2.2.1.locals) : tk_St ν t' Γ Γ (tk_cpy 1 a sp b dp n) pc (p1 + 3) := by
  intro κ X ρ μ Qn Qr hr h kn kr
  refine hes κ X [] (Nat.le_refl 0) ρ μ _ hr h (fun vs μ1 g1 hvs H ls locs hP hS hl => ?_)
  match vs, hvs, g1 with
  | [x, i, y, j, k], ⟨hx, hi, hy, hj, hk, _⟩, g1 =>
    obtain ⟨⟨c1, c2, c3, c4, c5, c6, c7⟩, hq⟩ := g1
    obtain ⟨-, nx, ex, lx⟩ := tk_al_lay (Int.le_refl 0) c4
    obtain ⟨-, ny, ey, ly⟩ := tk_al_lay (Int.le_refl 0) c5
    have wx := tk_ws_at (ω := tk_ω κ) (μ := μ1) lx
    have wy := tk_ws_at (ω := tk_ω κ) (μ := μ1) ly
    show tk_W κ ν H locs p1 ls [.int (Int32.ofInt k), .int (Int32.ofInt j), tk_v (tk_ω κ) 2 y, .int (Int32.ofInt i), tk_v (tk_ω κ) 2 x]
    rw [tk_v2 hx, tk_v2 hy]
    have n0 : ∀ {z : Int}, tk_r 0 z → 0 ≤ z → ¬ Int32.ofInt z < 0 := fun {z} hz h0 hlt => by
      have e := (tk_ltI hz (show tk_r 0 0 from ⟨by omega, by omega⟩)).mp hlt
      omega
    refine va_copyl X.1 X.2.1 (by rw [X.2.2.1, hl.1]) X.2.2.2.1 (tk_tl X h1) (tk_tl X h2) (tk_tl X h3) (tk_tl X h4) X.2.2.2.2.2.1.1 hP.1 tk_wD hS x.toNat y.toNat 3 3 (n0 := nx) (n1 := ny) (f := fun j => Int64.ofInt (μ1 x.toNat j)) (g := fun j => Int64.ofInt (μ1 y.toNat j)) (ty := .long) wx wy rfl rfl rfl (n0 hi c1) (n0 hj c2) (n0 hk c3) (by rw [tk_ncn hi, tk_ncn hk]; omega) (by rw [tk_ncn hj, tk_ncn hk]; omega) (fun _ _ => rfl) hf (by simpa using hlo) hd (fun H1 l1 q1 _ q3 => ?_)
    rw [tk_ncn hi, tk_ncn hj, tk_ncn hk] at q1
    have e1 : va_cpy (fun j : Nat => Int64.ofInt (μ1 x.toNat j)) (fun j : Nat => Int64.ofInt (μ1 y.toNat j)) i.toNat j.toNat k.toNat = fun q : Nat => Int64.ofInt (tk_blk μ1 x i y j k y.toNat q) := by
      funext q
      unfold va_cpy tk_blk
      have hx0 : 0 ≤ x := hx
      have hy0 : 0 ≤ y := hy
      by_cases hq' : j.toNat ≤ q ∧ q < j.toNat + k.toNat
      · rw [if_pos hq', if_pos (by omega)]
        have e3 : ((i.toNat + (q - j.toNat) : Nat) : Int) = i + ((q : Int) - j) := by omega
        dsimp only
        rw [e3, tk_nat hx0]
      · rw [if_neg hq', if_neg (by omega)]
    rw [e1] at q1
    have e5 := tk_ws_put (ω := tk_ω κ) (μ := μ1) (μ' := tk_blk μ1 x i y j k) ly rfl (fun o' ho' z => tk_blk_ne hy ho' z)
    refine kn ρ _ hq hr H1 ls l1 ⟨by rw [← e5]; exact q1, tk_in_put hP.2 ly (fun z hz => ?_) (fun o' ho' z => tk_blk_ne hy ho' z)⟩ q3 hl
    unfold tk_blk
    split
    · rename_i hc
      have hz2 : 0 ≤ i + ((z : Int) - j) ∧ i + ((z : Int) - j) < tk_al 1 x := by omega
      exact tk_in_a hP.2 hz2
    · exact hP.2 _ _ ly z hz
/-- the script's length, an item of it -/
def tk_scl (q : Nat × (Nat → Int32)) : tk_Ex := fun Q _ μ => Q (q.1 : Int) μ
def tk_sca (q : Nat × (Nat → Int32)) (a : tk_Ex) : tk_Ex := fun Q ρ μ => a (fun i μ1 => (0 ≤ i ∧ i < (q.1 : Int)) ∧ Q (q.2 i.toNat).toInt μ1) ρ μ
theorem tk_ok_scl {ν : tk_N} {Γ : List (Nat × Nat)} {d pc : Nat} {q : Nat × (Nat → Int32)} (hν : ν.2.2.2.2 = some q) (hq : q.1 ≤ 3072) (hd : decode ν.1 pc = .ok (.aload_n 0, 1)) (hk : (0, 3) ∈ Γ) (hd2 : decode ν.1 (pc + 1) = .ok (.arraylength, 1)) : tk_E ν Γ d (tk_scl q) 0 pc (pc + 2) := by
  intro κ X st hst ρ μ Q hr h k H ls locs hP hS hl
  have h3 := k _ μ h ⟨by omega, by omega⟩ H ls locs hP hS hl
  obtain ⟨-, -, -, hX, hA, -⟩ := X.2.2.2.2.2.1
  obtain ⟨e1, e2⟩ := X.2.2.2.2.2.2.2.2 q hν
  refine lv_aload_n X.1 X.2.1 hd rfl (tk_lv_at hl hk) ?_
  refine va_slen X.1 X.2.1 hX (by obtain ⟨scr, g1, -⟩ := hX; exact (Array.getElem?_eq_some_iff.mp g1).1) hA hS hd2 ?_
  rw [e1]
  have e3 : Int32.ofNat q.1 = Int32.ofInt (q.1 : Int) := Int32.toInt_inj.mp (by rw [Int32.toInt_ofNat_small (by omega), tk_ofI ⟨by omega, by omega⟩])
  rw [e3]
  exact h3
theorem tk_ok_sca {ν : tk_N} {Γ : List (Nat × Nat)} {d pc p1 : Nat} {q : Nat × (Nat → Int32)} {a : tk_Ex} (hν : ν.2.2.2.2 = some q) (hd : decode ν.1 pc = .ok (.aload_n 0, 1)) (hk : (0, 3) ∈ Γ) (ha : tk_E ν Γ (d + 1) a 0 (pc + 1) p1) (hd2 : decode ν.1 p1 = .ok (.iaload, 1)) : tk_E ν Γ d (tk_sca q a) 0 pc (p1 + 1) := by
  intro κ X st hst ρ μ Q hr h k
  have hc : tk_sum (.ref (tk_sc (tk_ω κ)) :: st) ≤ d + 1 := by
    simp only [tk_sum, List.map_cons, List.sum_cons, Value.category] at hst ⊢
    omega
  have g : tk_G κ ν Γ ρ (pc + 1) μ (.ref (tk_sc (tk_ω κ)) :: st) := by
    refine ha κ X _ hc ρ μ _ hr h (fun i μ1 h1 hi H ls locs hP hS hl' => ?_)
    have h3 := k _ μ1 h1.2 (tk_r0 _) H ls locs hP hS hl'
    obtain ⟨-, -, -, hX, hA, -⟩ := X.2.2.2.2.2.1
    obtain ⟨e1, e2⟩ := X.2.2.2.2.2.2.2.2 q hν
    rw [e1, e2] at hX
    refine va_sld X.1 X.2.1 hX (by obtain ⟨scr, g1, -⟩ := hX; exact (Array.getElem?_eq_some_iff.mp g1).1) hA hS (tk_vin hi h1.1.1 h1.1.2) hd2 ?_
    rw [tk_ncn hi, ← tk_toI (q.2 i.toNat)]
    exact h3
  intro H ls locs hP hS hl'
  exact lv_aload_n X.1 X.2.1 hd rfl (tk_lv_at hl' hk) (g H ls locs hP hS hl')
end
section
/-! ===== printed by wip/whole/gen.py: words; each method's denotation and contract ===== -/
set_option maxRecDepth 20000 in
theorem tkw_ini0 : Cond.initialized RX0 ∈ tk_tbl := tk_at 71 rfl rfl
set_option maxRecDepth 20000 in
theorem tkw_ini1 : Cond.initialized RX1 ∈ tk_tbl := tk_at 73 rfl rfl
set_option maxRecDepth 20000 in
theorem tkw_ini2 : Cond.initialized RX2 ∈ tk_tbl := tk_at 69 rfl rfl
set_option maxRecDepth 20000 in
theorem tkw_ini3 : Cond.initialized RX3 ∈ tk_tbl := tk_at 70 rfl rfl
set_option maxRecDepth 20000 in
theorem tkw_ini4 : Cond.initialized RX4 ∈ tk_tbl := tk_at 74 rfl rfl
set_option maxRecDepth 20000 in
theorem tkw_ini5 : Cond.initialized RX5 ∈ tk_tbl := tk_at 72 rfl rfl
set_option maxRecDepth 20000 in
theorem tkw_ini6 : Cond.initialized RX6 ∈ tk_tbl := tk_at 68 rfl rfl
set_option maxRecDepth 20000 in
theorem tkw_ini7 : Cond.initialized RX7 ∈ tk_tbl := tk_at 75 rfl rfl
def yJ7_fill : MethodName := ⟨"java/util/Arrays", "fill", "([JJ)V"⟩
abbrev cJ7_fill : ByteArray := prog_12_method_101_code
set_option maxRecDepth 20000 in
theorem tkw_ini9 : Cond.initialized yJ7_fill.cls ∈ tk_tbl := tk_at 77 rfl rfl
set_option maxRecDepth 20000 in
theorem tkw_c_J7_fill : Cond.code yJ7_fill cJ7_fill 5 (tk_rty 9) ∈ tk_tbl := tk_at 480 rfl rfl
set_option maxRecDepth 20000 in
theorem tkw_i_J7_fill : Cond.static yJ7_fill ∈ tk_tbl := tk_at 479 rfl rfl
def tkS_J7_fill : tk_Sm := (tk_sq (tk_se 3 (tk_lit (0))) (tk_sq (tk_se 4 (tk_aln 1 (tk_loc 0))) (tk_sq (tk_wh (tk_clt (tk_loc 3) (tk_loc 4)) (tk_sq (tk_as 1 (tk_loc 0) (tk_loc 3) (tk_loc 1)) (tk_se 3 (tk_bin tk_iadd (tk_loc 3) (tk_lit (1)))))) tk_rev)))
def tkF_J7_fill : tk_F := tk_fn [2, 1] tkS_J7_fill
set_option maxRecDepth 20000 in
theorem tko_J7_fill : tk_St (cJ7_fill, yJ7_fill.cls, 5, { frames := 0, cells := 0, slots := 0, locals := 0 }, none) 9 (tk_ga 0 [2, 1]) [(0, 2), (1, 1), (3, 0), (4, 0)] tkS_J7_fill 0 0 := (tk_ok_sq (p1 := 2) (tk_ok_istore_n (Γ' := [(0, 2), (1, 1), (3, 0)]) (p1 := 1) 3 3 (tk_ok_iconst (0) (by decide +kernel) rfl (by decide +kernel)) (by decide +kernel) rfl (by decide) (by decide)) (tk_ok_sq (p1 := 6) (tk_ok_istore (Γ' := [(0, 2), (1, 1), (3, 0), (4, 0)]) (p1 := 4) 4 (tk_ok_aln (p1 := 3) 1 (by decide) (tk_ok_aload_n2 0 0 (by decide +kernel) rfl (by decide)) (by decide +kernel)) (by decide +kernel) (by decide) (by decide)) (tk_ok_sq (p1 := 22) (tk_ok_wh (T := 12) (F := 22) (tk_ok_cltF (p1 := 7) (p2 := 9) (tgt := 22) (off := 13) (tk_ok_iload_n 3 3 (by decide +kernel) rfl (by decide)) (tk_ok_iload 4 (by decide +kernel) (by decide)) (by decide +kernel) (by decide)) (tk_ok_sgo (p1 := 19) (off := -13) (tk_ok_sq (p1 := 16) (tk_ok_as1 (p1 := 13) (p2 := 14) (p3 := 15) (tk_ok_aload_n2 0 0 (by decide +kernel) rfl (by decide)) (tk_ok_iload_n 3 3 (by decide +kernel) rfl (by decide)) (tk_ok_lload_n 1 1 (by decide +kernel) rfl (by decide)) (by decide +kernel)) (tk_ok_iinc 3 (1) (by decide +kernel) (by decide) (by decide) (by decide))) (by decide +kernel) (by decide))) (tk_ok_rev (by decide +kernel)))))
theorem tkm_J7_fill : tk_Met yJ7_fill cJ7_fill 5 (tk_rty 9) { frames := 0, cells := 0, slots := 0, locals := 0 } [2, 1] 9 tkF_J7_fill := tk_met (by decide) (by decide +kernel) (by decide) tko_J7_fill
set_option maxRecDepth 20000 in
theorem tkw_c_X6_currency : Cond.code yX6_currency cX6_currency 1 (tk_rty 0) ∈ tk_tbl := tk_at 355 rfl rfl
set_option maxRecDepth 20000 in
theorem tkw_i_X6_currency : Cond.instanceMethod yX6_currency ∈ tk_tbl := tk_at 353 rfl rfl
set_option maxRecDepth 20000 in
theorem tkw_s_X6_currency : Cond.selects yX6_currency.cls yX6_currency yX6_currency ∈ tk_tbl := tk_at 354 rfl rfl
def tkS_X6_currency : tk_Sm := (tk_sq (tk_if (tk_cge (tk_gf 2 0 (tk_gr 6 (1) (tk_loc 0))) (tk_lit (6))) (tk_re (tk_lit (-4))) tk_sk) (tk_sq (tk_pfo tk_iadd 2 0 (tk_gr 6 (1) (tk_loc 0)) (tk_lit (1))) (tk_re (tk_bin tk_isub (tk_gf 2 0 (tk_gr 6 (1) (tk_loc 0))) (tk_lit (1))))))
def tkF_X6_currency : tk_F := tk_fn [2] tkS_X6_currency
set_option maxRecDepth 20000 in
set_option maxHeartbeats 4000000 in
theorem tko_X6_currency : tk_St (cX6_currency, RX6, 1, { frames := 0, cells := 0, slots := 0, locals := 0 }, none) 0 (tk_ga 0 [2]) [] tkS_X6_currency 0 0 := (tk_ok_sq (p1 := 15) (tk_ok_if (T := 12) (F := 15) (tk_ok_cgeF (p1 := 7) (p2 := 9) (tgt := 15) (off := 6) (tk_ok_gi (j := 0) (p1 := 4) (ix := 54) (tk_ok_gr (j := 0) (dl := 1) (p1 := 1) (ix := 12) (tk_ok_aload_n2 0 0 (by decide +kernel) rfl (by decide)) tk_C6 (by decide +kernel) (by decide) (.inl (tk_at 321 rfl rfl)) rfl (by decide) (fun o h => by simp only [tk_isC] at h; omega)) tk_C2 (by decide +kernel) (by decide) (.inr (tk_atn 117 rfl rfl)) rfl) (tk_ok_bipush (6) (by decide +kernel) (by decide +kernel) (by decide +kernel)) (by decide +kernel) (by decide)) (tk_ok_re (p1 := 14) (.inl rfl) (tk_ok_bipush (-4) (by decide +kernel) (by decide +kernel) (by decide +kernel)) (by decide +kernel)) tk_ok_sk) (tk_ok_sq (p1 := 28) (tk_ok_pfo (j := 0) (p1 := 19) (p2 := 24) (ix := 54) (tk_ok_gr (j := 0) (dl := 1) (p1 := 16) (ix := 12) (tk_ok_aload_n2 0 0 (by decide +kernel) rfl (by decide)) tk_C6 (by decide +kernel) (by decide) (.inl (tk_at 321 rfl rfl)) rfl (by decide) (fun o h => by simp only [tk_isC] at h; omega)) (by decide +kernel) (by decide +kernel) (tk_ok_iconst (1) (by decide +kernel) rfl (by decide +kernel)) (tk_op_iadd (by decide +kernel)) (by decide +kernel) tk_C2 (by decide) (.inr (tk_atn 117 rfl rfl)) rfl rfl rfl) (tk_ok_re (p1 := 37) (.inl rfl) (tk_ok_isub (p1 := 35) (p2 := 36) (tk_ok_gi (j := 0) (p1 := 32) (ix := 54) (tk_ok_gr (j := 0) (dl := 1) (p1 := 29) (ix := 12) (tk_ok_aload_n2 0 0 (by decide +kernel) rfl (by decide)) tk_C6 (by decide +kernel) (by decide) (.inl (tk_at 321 rfl rfl)) rfl (by decide) (fun o h => by simp only [tk_isC] at h; omega)) tk_C2 (by decide +kernel) (by decide) (.inr (tk_atn 117 rfl rfl)) rfl) (tk_ok_iconst (1) (by decide +kernel) rfl (by decide +kernel)) (by decide +kernel)) (by decide +kernel))))
theorem tkm_X6_currency : tk_Met yX6_currency cX6_currency 1 (tk_rty 0) { frames := 0, cells := 0, slots := 0, locals := 0 } [2] 0 tkF_X6_currency := tk_met (by decide) (by decide +kernel) (by decide) tko_X6_currency
set_option maxRecDepth 20000 in
theorem tkw_c_X6_feed : Cond.code yX6_feed cX6_feed 2 (tk_rty 0) ∈ tk_tbl := tk_at 548 rfl rfl
set_option maxRecDepth 20000 in
theorem tkw_i_X6_feed : Cond.instanceMethod yX6_feed ∈ tk_tbl := tk_at 546 rfl rfl
set_option maxRecDepth 20000 in
theorem tkw_s_X6_feed : Cond.selects yX6_feed.cls yX6_feed yX6_feed ∈ tk_tbl := tk_at 547 rfl rfl
def tkS_X6_feed : tk_Sm := (tk_sq (tk_if (tk_or (tk_zlt (tk_loc 1)) (tk_cgt (tk_loc 1) (tk_lit (127)))) (tk_re (tk_lit (-2))) tk_sk) (tk_sq (tk_if (tk_cge (tk_gf 6 7 (tk_loc 0)) (tk_lit (100))) (tk_re (tk_lit (-4))) tk_sk) (tk_sq (tk_asb (tk_gr 6 (81) (tk_loc 0)) (tk_gf 6 7 (tk_loc 0)) (tk_u1 tk_i2b (tk_loc 1))) (tk_sq (tk_pfo tk_iadd 6 7 (tk_loc 0) (tk_lit (1))) (tk_re (tk_gf 6 7 (tk_loc 0)))))))
def tkF_X6_feed : tk_F := tk_fn [2, 0] tkS_X6_feed
set_option maxRecDepth 20000 in
set_option maxHeartbeats 4000000 in
theorem tko_X6_feed : tk_St (cX6_feed, RX6, 2, { frames := 0, cells := 0, slots := 0, locals := 0 }, none) 0 (tk_ga 0 [2, 0]) [] tkS_X6_feed 0 0 := (tk_ok_sq (p1 := 13) (tk_ok_if (T := 10) (F := 13) (tk_ok_or (p1 := 4) (tk_ok_zltT (p2 := 1) (tgt := 10) (off := 9) (tk_ok_iload_n 1 1 (by decide +kernel) rfl (by decide)) (by decide +kernel) (by decide)) (tk_ok_cgtF (p1 := 5) (p2 := 7) (tgt := 13) (off := 6) (tk_ok_iload_n 1 1 (by decide +kernel) rfl (by decide)) (tk_ok_bipush (127) (by decide +kernel) (by decide +kernel) (by decide +kernel)) (by decide +kernel) (by decide))) (tk_ok_re (p1 := 12) (.inl rfl) (tk_ok_bipush (-2) (by decide +kernel) (by decide +kernel) (by decide +kernel)) (by decide +kernel)) tk_ok_sk) (tk_ok_sq (p1 := 25) (tk_ok_if (T := 22) (F := 25) (tk_ok_cgeF (p1 := 17) (p2 := 19) (tgt := 25) (off := 6) (tk_ok_gi (j := 7) (p1 := 14) (ix := 185) (tk_ok_aload_n2 0 0 (by decide +kernel) rfl (by decide)) tk_C6 (by decide +kernel) (by decide) (.inl (tk_at 328 rfl rfl)) rfl) (tk_ok_bipush (100) (by decide +kernel) (by decide +kernel) (by decide +kernel)) (by decide +kernel) (by decide)) (tk_ok_re (p1 := 24) (.inl rfl) (tk_ok_bipush (-4) (by decide +kernel) (by decide +kernel) (by decide +kernel)) (by decide +kernel)) tk_ok_sk) (tk_ok_sq (p1 := 36) (tk_ok_asb (p1 := 29) (p2 := 33) (p3 := 35) (tk_ok_gr (j := 6) (dl := 81) (p1 := 26) (ix := 36) (tk_ok_aload_n2 0 0 (by decide +kernel) rfl (by decide)) tk_C6 (by decide +kernel) (by decide) (.inl (tk_at 327 rfl rfl)) rfl (by decide) (fun o h => by simp only [tk_isC] at h; omega)) (tk_ok_gi (j := 7) (p1 := 30) (ix := 185) (tk_ok_aload_n2 0 0 (by decide +kernel) rfl (by decide)) tk_C6 (by decide +kernel) (by decide) (.inl (tk_at 328 rfl rfl)) rfl) (tk_ok_i2b (p1 := 34) (tk_ok_iload_n 1 1 (by decide +kernel) rfl (by decide)) (by decide +kernel)) (by decide +kernel)) (tk_ok_sq (p1 := 46) (tk_ok_pfo (j := 7) (p1 := 37) (p2 := 42) (ix := 185) (tk_ok_aload_n2 0 0 (by decide +kernel) rfl (by decide)) (by decide +kernel) (by decide +kernel) (tk_ok_iconst (1) (by decide +kernel) rfl (by decide +kernel)) (tk_op_iadd (by decide +kernel)) (by decide +kernel) tk_C6 (by decide) (.inl (tk_at 328 rfl rfl)) rfl rfl rfl) (tk_ok_re (p1 := 50) (.inl rfl) (tk_ok_gi (j := 7) (p1 := 47) (ix := 185) (tk_ok_aload_n2 0 0 (by decide +kernel) rfl (by decide)) tk_C6 (by decide +kernel) (by decide) (.inl (tk_at 328 rfl rfl)) rfl) (by decide +kernel))))))
theorem tkm_X6_feed : tk_Met yX6_feed cX6_feed 2 (tk_rty 0) { frames := 0, cells := 0, slots := 0, locals := 0 } [2, 0] 0 tkF_X6_feed := tk_met (by decide) (by decide +kernel) (by decide) tko_X6_feed
set_option maxRecDepth 20000 in
theorem tkw_c_X6_count : Cond.code yX6_count cX6_count 2 (tk_rty 0) ∈ tk_tbl := tk_at 808 rfl rfl
set_option maxRecDepth 20000 in
theorem tkw_i_X6_count : Cond.instanceMethod yX6_count ∈ tk_tbl := tk_at 806 rfl rfl
set_option maxRecDepth 20000 in
theorem tkw_s_X6_count : Cond.selects yX6_count.cls yX6_count yX6_count ∈ tk_tbl := tk_at 807 rfl rfl
def tkS_X6_count : tk_Sm := (tk_sw (tk_loc 1) (0) [(tk_re (tk_gf 2 0 (tk_gr 6 (1) (tk_loc 0)))), (tk_re (tk_gf 2 1 (tk_gr 6 (1) (tk_loc 0)))), (tk_re (tk_gf 2 2 (tk_gr 6 (1) (tk_loc 0)))), (tk_re (tk_gf 3 0 (tk_gr 2 (11) (tk_gr 6 (1) (tk_loc 0))))), (tk_re (tk_gf 3 0 (tk_gr 2 (14) (tk_gr 6 (1) (tk_loc 0))))), (tk_re (tk_gf 3 0 (tk_gr 2 (17) (tk_gr 6 (1) (tk_loc 0))))), (tk_re (tk_gf 6 7 (tk_loc 0)))] (tk_re (tk_lit (-2))))
def tkF_X6_count : tk_F := tk_fn [2, 0] tkS_X6_count
set_option maxRecDepth 20000 in
set_option maxHeartbeats 4000000 in
theorem tko_X6_count : tk_St (cX6_count, RX6, 2, { frames := 0, cells := 0, slots := 0, locals := 0 }, none) 0 (tk_ga 0 [2, 0]) [] tkS_X6_count 0 0 := (tk_ok_sw (p1 := 1) (lo := 0) (hi := 6) (doff := 105) (offs := #[43, 51, 59, 67, 78, 89, 100]) (len := 43) (pd := 106) [44, 52, 60, 68, 79, 90, 101] (tk_ok_iload_n 1 1 (by decide +kernel) rfl (by decide)) (by decide +kernel) rfl (by decide) (by decide) ⟨(tk_ok_re (p1 := 51) (.inl rfl) (tk_ok_gi (j := 0) (p1 := 48) (ix := 54) (tk_ok_gr (j := 0) (dl := 1) (p1 := 45) (ix := 12) (tk_ok_aload_n2 0 0 (by decide +kernel) rfl (by decide)) tk_C6 (by decide +kernel) (by decide) (.inl (tk_at 321 rfl rfl)) rfl (by decide) (fun o h => by simp only [tk_isC] at h; omega)) tk_C2 (by decide +kernel) (by decide) (.inr (tk_atn 117 rfl rfl)) rfl) (by decide +kernel)), ⟨(tk_ok_re (p1 := 59) (.inl rfl) (tk_ok_gi (j := 1) (p1 := 56) (ix := 65) (tk_ok_gr (j := 0) (dl := 1) (p1 := 53) (ix := 12) (tk_ok_aload_n2 0 0 (by decide +kernel) rfl (by decide)) tk_C6 (by decide +kernel) (by decide) (.inl (tk_at 321 rfl rfl)) rfl (by decide) (fun o h => by simp only [tk_isC] at h; omega)) tk_C2 (by decide +kernel) (by decide) (.inr (tk_atn 121 rfl rfl)) rfl) (by decide +kernel)), ⟨(tk_ok_re (p1 := 67) (.inl rfl) (tk_ok_gi (j := 2) (p1 := 64) (ix := 78) (tk_ok_gr (j := 0) (dl := 1) (p1 := 61) (ix := 12) (tk_ok_aload_n2 0 0 (by decide +kernel) rfl (by decide)) tk_C6 (by decide +kernel) (by decide) (.inl (tk_at 321 rfl rfl)) rfl (by decide) (fun o h => by simp only [tk_isC] at h; omega)) tk_C2 (by decide +kernel) (by decide) (.inr (tk_atn 124 rfl rfl)) rfl) (by decide +kernel)), ⟨(tk_ok_re (p1 := 78) (.inl rfl) (tk_ok_gi (j := 0) (p1 := 75) (ix := 285) (tk_ok_gr (j := 15) (dl := 11) (p1 := 72) (ix := 264) (tk_ok_gr (j := 0) (dl := 1) (p1 := 69) (ix := 12) (tk_ok_aload_n2 0 0 (by decide +kernel) rfl (by decide)) tk_C6 (by decide +kernel) (by decide) (.inl (tk_at 321 rfl rfl)) rfl (by decide) (fun o h => by simp only [tk_isC] at h; omega)) tk_C2 (by decide +kernel) (by decide) (.inr (tk_atn 158 rfl rfl)) rfl (by decide) (fun o h => by simp only [tk_isC] at h; omega)) tk_C3 (by decide +kernel) (by decide) (.inr (tk_atn 101 rfl rfl)) rfl) (by decide +kernel)), ⟨(tk_ok_re (p1 := 89) (.inl rfl) (tk_ok_gi (j := 0) (p1 := 86) (ix := 285) (tk_ok_gr (j := 16) (dl := 14) (p1 := 83) (ix := 282) (tk_ok_gr (j := 0) (dl := 1) (p1 := 80) (ix := 12) (tk_ok_aload_n2 0 0 (by decide +kernel) rfl (by decide)) tk_C6 (by decide +kernel) (by decide) (.inl (tk_at 321 rfl rfl)) rfl (by decide) (fun o h => by simp only [tk_isC] at h; omega)) tk_C2 (by decide +kernel) (by decide) (.inr (tk_atn 160 rfl rfl)) rfl (by decide) (fun o h => by simp only [tk_isC] at h; omega)) tk_C3 (by decide +kernel) (by decide) (.inr (tk_atn 101 rfl rfl)) rfl) (by decide +kernel)), ⟨(tk_ok_re (p1 := 100) (.inl rfl) (tk_ok_gi (j := 0) (p1 := 97) (ix := 285) (tk_ok_gr (j := 17) (dl := 17) (p1 := 94) (ix := 306) (tk_ok_gr (j := 0) (dl := 1) (p1 := 91) (ix := 12) (tk_ok_aload_n2 0 0 (by decide +kernel) rfl (by decide)) tk_C6 (by decide +kernel) (by decide) (.inl (tk_at 321 rfl rfl)) rfl (by decide) (fun o h => by simp only [tk_isC] at h; omega)) tk_C2 (by decide +kernel) (by decide) (.inr (tk_atn 162 rfl rfl)) rfl (by decide) (fun o h => by simp only [tk_isC] at h; omega)) tk_C3 (by decide +kernel) (by decide) (.inr (tk_atn 101 rfl rfl)) rfl) (by decide +kernel)), ⟨(tk_ok_re (p1 := 105) (.inl rfl) (tk_ok_gi (j := 7) (p1 := 102) (ix := 185) (tk_ok_aload_n2 0 0 (by decide +kernel) rfl (by decide)) tk_C6 (by decide +kernel) (by decide) (.inl (tk_at 328 rfl rfl)) rfl) (by decide +kernel)), trivial⟩⟩⟩⟩⟩⟩⟩ (tk_ok_re (p1 := 108) (.inl rfl) (tk_ok_bipush (-2) (by decide +kernel) (by decide +kernel) (by decide +kernel)) (by decide +kernel)))
theorem tkm_X6_count : tk_Met yX6_count cX6_count 2 (tk_rty 0) { frames := 0, cells := 0, slots := 0, locals := 0 } [2, 0] 0 tkF_X6_count := tk_met (by decide) (by decide +kernel) (by decide) tko_X6_count
set_option maxRecDepth 20000 in
theorem tkw_c_X6_isAmount : Cond.code yX6_isAmount cX6_isAmount 1 (tk_rty 4) ∈ tk_tbl := tk_at 366 rfl rfl
set_option maxRecDepth 20000 in
theorem tkw_i_X6_isAmount : Cond.static yX6_isAmount ∈ tk_tbl := tk_at 365 rfl rfl
def tkS_X6_isAmount : tk_Sm := (tk_rez (tk_ter (tk_and (tk_cge (tk_loc 0) (tk_lit (1))) (tk_cle (tk_loc 0) (tk_lit (9999)))) (tk_lit 1) (tk_lit 0)))
def tkF_X6_isAmount : tk_F := tk_fn [0] tkS_X6_isAmount
set_option maxRecDepth 20000 in
set_option maxHeartbeats 4000000 in
theorem tko_X6_isAmount : tk_St (cX6_isAmount, RX6, 1, { frames := 0, cells := 0, slots := 0, locals := 0 }, none) 4 (tk_ga 0 [0]) [] tkS_X6_isAmount 0 0 := (tk_ok_rez (p1 := 17) (tk_ok_ter (T := 12) (F := 16) (tk_ok_and (p1 := 5) (tk_ok_cgeF (p1 := 1) (p2 := 2) (tgt := 16) (off := 14) (tk_ok_iload_n 0 0 (by decide +kernel) rfl (by decide)) (tk_ok_iconst (1) (by decide +kernel) rfl (by decide +kernel)) (by decide +kernel) (by decide)) (tk_ok_cleF (p1 := 6) (p2 := 9) (tgt := 16) (off := 7) (tk_ok_iload_n 0 0 (by decide +kernel) rfl (by decide)) (tk_ok_sipush (9999) (by decide +kernel) (by decide +kernel) (by decide +kernel)) (by decide +kernel) (by decide))) (tk_ok_ego (p1 := 13) (off := 4) (tk_ok_iconst 1 (by decide +kernel) rfl (by decide +kernel)) (by decide +kernel) (by decide)) (tk_ok_iconst 0 (by decide +kernel) rfl (by decide +kernel))) (by decide +kernel))
theorem tkm_X6_isAmount : tk_Met yX6_isAmount cX6_isAmount 1 (tk_rty 4) { frames := 0, cells := 0, slots := 0, locals := 0 } [0] 4 tkF_X6_isAmount := tk_met (by decide) (by decide +kernel) (by decide) tko_X6_isAmount
set_option maxRecDepth 20000 in
theorem tkw_c_X6_isDigit : Cond.code yX6_isDigit cX6_isDigit 1 (tk_rty 4) ∈ tk_tbl := tk_at 380 rfl rfl
set_option maxRecDepth 20000 in
theorem tkw_i_X6_isDigit : Cond.static yX6_isDigit ∈ tk_tbl := tk_at 379 rfl rfl
def tkS_X6_isDigit : tk_Sm := (tk_rez (tk_ter (tk_and (tk_zge (tk_loc 0)) (tk_cle (tk_loc 0) (tk_lit (9)))) (tk_lit 1) (tk_lit 0)))
def tkF_X6_isDigit : tk_F := tk_fn [0] tkS_X6_isDigit
set_option maxRecDepth 20000 in
set_option maxHeartbeats 4000000 in
theorem tko_X6_isDigit : tk_St (cX6_isDigit, RX6, 1, { frames := 0, cells := 0, slots := 0, locals := 0 }, none) 4 (tk_ga 0 [0]) [] tkS_X6_isDigit 0 0 := (tk_ok_rez (p1 := 15) (tk_ok_ter (T := 10) (F := 14) (tk_ok_and (p1 := 4) (tk_ok_zgeF (p2 := 1) (tgt := 14) (off := 13) (tk_ok_iload_n 0 0 (by decide +kernel) rfl (by decide)) (by decide +kernel) (by decide)) (tk_ok_cleF (p1 := 5) (p2 := 7) (tgt := 14) (off := 7) (tk_ok_iload_n 0 0 (by decide +kernel) rfl (by decide)) (tk_ok_bipush (9) (by decide +kernel) (by decide +kernel) (by decide +kernel)) (by decide +kernel) (by decide))) (tk_ok_ego (p1 := 11) (off := 4) (tk_ok_iconst 1 (by decide +kernel) rfl (by decide +kernel)) (by decide +kernel) (by decide)) (tk_ok_iconst 0 (by decide +kernel) rfl (by decide +kernel))) (by decide +kernel))
theorem tkm_X6_isDigit : tk_Met yX6_isDigit cX6_isDigit 1 (tk_rty 4) { frames := 0, cells := 0, slots := 0, locals := 0 } [0] 4 tkF_X6_isDigit := tk_met (by decide) (by decide +kernel) (by decide) tko_X6_isDigit
set_option maxRecDepth 20000 in
theorem tkw_c_X6_isKind : Cond.code yX6_isKind cX6_isKind 1 (tk_rty 4) ∈ tk_tbl := tk_at 377 rfl rfl
set_option maxRecDepth 20000 in
theorem tkw_i_X6_isKind : Cond.static yX6_isKind ∈ tk_tbl := tk_at 376 rfl rfl
def tkS_X6_isKind : tk_Sm := (tk_rez (tk_ter (tk_and (tk_zge (tk_loc 0)) (tk_cle (tk_loc 0) (tk_lit (6)))) (tk_lit 1) (tk_lit 0)))
def tkF_X6_isKind : tk_F := tk_fn [0] tkS_X6_isKind
set_option maxRecDepth 20000 in
set_option maxHeartbeats 4000000 in
theorem tko_X6_isKind : tk_St (cX6_isKind, RX6, 1, { frames := 0, cells := 0, slots := 0, locals := 0 }, none) 4 (tk_ga 0 [0]) [] tkS_X6_isKind 0 0 := (tk_ok_rez (p1 := 15) (tk_ok_ter (T := 10) (F := 14) (tk_ok_and (p1 := 4) (tk_ok_zgeF (p2 := 1) (tgt := 14) (off := 13) (tk_ok_iload_n 0 0 (by decide +kernel) rfl (by decide)) (by decide +kernel) (by decide)) (tk_ok_cleF (p1 := 5) (p2 := 7) (tgt := 14) (off := 7) (tk_ok_iload_n 0 0 (by decide +kernel) rfl (by decide)) (tk_ok_bipush (6) (by decide +kernel) (by decide +kernel) (by decide +kernel)) (by decide +kernel) (by decide))) (tk_ok_ego (p1 := 11) (off := 4) (tk_ok_iconst 1 (by decide +kernel) rfl (by decide +kernel)) (by decide +kernel) (by decide)) (tk_ok_iconst 0 (by decide +kernel) rfl (by decide +kernel))) (by decide +kernel))
theorem tkm_X6_isKind : tk_Met yX6_isKind cX6_isKind 1 (tk_rty 4) { frames := 0, cells := 0, slots := 0, locals := 0 } [0] 4 tkF_X6_isKind := tk_met (by decide) (by decide +kernel) (by decide) tko_X6_isKind
set_option maxRecDepth 20000 in
theorem tkw_c_X6_isRun : Cond.code yX6_isRun cX6_isRun 1 (tk_rty 4) ∈ tk_tbl := tk_at 612 rfl rfl
set_option maxRecDepth 20000 in
theorem tkw_i_X6_isRun : Cond.static yX6_isRun ∈ tk_tbl := tk_at 611 rfl rfl
def tkS_X6_isRun : tk_Sm := (tk_rez (tk_ter (tk_and (tk_zge (tk_loc 0)) (tk_cle (tk_loc 0) (tk_lit (40)))) (tk_lit 1) (tk_lit 0)))
def tkF_X6_isRun : tk_F := tk_fn [0] tkS_X6_isRun
set_option maxRecDepth 20000 in
set_option maxHeartbeats 4000000 in
theorem tko_X6_isRun : tk_St (cX6_isRun, RX6, 1, { frames := 0, cells := 0, slots := 0, locals := 0 }, none) 4 (tk_ga 0 [0]) [] tkS_X6_isRun 0 0 := (tk_ok_rez (p1 := 15) (tk_ok_ter (T := 10) (F := 14) (tk_ok_and (p1 := 4) (tk_ok_zgeF (p2 := 1) (tgt := 14) (off := 13) (tk_ok_iload_n 0 0 (by decide +kernel) rfl (by decide)) (by decide +kernel) (by decide)) (tk_ok_cleF (p1 := 5) (p2 := 7) (tgt := 14) (off := 7) (tk_ok_iload_n 0 0 (by decide +kernel) rfl (by decide)) (tk_ok_bipush (40) (by decide +kernel) (by decide +kernel) (by decide +kernel)) (by decide +kernel) (by decide))) (tk_ok_ego (p1 := 11) (off := 4) (tk_ok_iconst 1 (by decide +kernel) rfl (by decide +kernel)) (by decide +kernel) (by decide)) (tk_ok_iconst 0 (by decide +kernel) rfl (by decide +kernel))) (by decide +kernel))
theorem tkm_X6_isRun : tk_Met yX6_isRun cX6_isRun 1 (tk_rty 4) { frames := 0, cells := 0, slots := 0, locals := 0 } [0] 4 tkF_X6_isRun := tk_met (by decide) (by decide +kernel) (by decide) tko_X6_isRun
set_option maxRecDepth 20000 in
theorem tkw_c_X6_isPart : Cond.code yX6_isPart cX6_isPart 1 (tk_rty 4) ∈ tk_tbl := tk_at 697 rfl rfl
set_option maxRecDepth 20000 in
theorem tkw_i_X6_isPart : Cond.static yX6_isPart ∈ tk_tbl := tk_at 696 rfl rfl
def tkS_X6_isPart : tk_Sm := (tk_rez (tk_ter (tk_or (tk_zeq (tk_loc 0)) (tk_ceq (tk_loc 0) (tk_lit (1)))) (tk_lit 1) (tk_lit 0)))
def tkF_X6_isPart : tk_F := tk_fn [0] tkS_X6_isPart
set_option maxRecDepth 20000 in
set_option maxHeartbeats 4000000 in
theorem tko_X6_isPart : tk_St (cX6_isPart, RX6, 1, { frames := 0, cells := 0, slots := 0, locals := 0 }, none) 4 (tk_ga 0 [0]) [] tkS_X6_isPart 0 0 := (tk_ok_rez (p1 := 14) (tk_ok_ter (T := 9) (F := 13) (tk_ok_or (p1 := 4) (tk_ok_zeqT (p2 := 1) (tgt := 9) (off := 8) (tk_ok_iload_n 0 0 (by decide +kernel) rfl (by decide)) (by decide +kernel) (by decide)) (tk_ok_ceqF (p1 := 5) (p2 := 6) (tgt := 13) (off := 7) (tk_ok_iload_n 0 0 (by decide +kernel) rfl (by decide)) (tk_ok_iconst (1) (by decide +kernel) rfl (by decide +kernel)) (by decide +kernel) (by decide))) (tk_ok_ego (p1 := 10) (off := 4) (tk_ok_iconst 1 (by decide +kernel) rfl (by decide +kernel)) (by decide +kernel) (by decide)) (tk_ok_iconst 0 (by decide +kernel) rfl (by decide +kernel))) (by decide +kernel))
theorem tkm_X6_isPart : tk_Met yX6_isPart cX6_isPart 1 (tk_rty 4) { frames := 0, cells := 0, slots := 0, locals := 0 } [0] 4 tkF_X6_isPart := tk_met (by decide) (by decide +kernel) (by decide) tko_X6_isPart
set_option maxRecDepth 20000 in
theorem tkw_c_X6_isTape : Cond.code yX6_isTape cX6_isTape 1 (tk_rty 4) ∈ tk_tbl := tk_at 791 rfl rfl
set_option maxRecDepth 20000 in
theorem tkw_i_X6_isTape : Cond.static yX6_isTape ∈ tk_tbl := tk_at 790 rfl rfl
def tkS_X6_isTape : tk_Sm := (tk_rez (tk_ter (tk_and (tk_zge (tk_loc 0)) (tk_clt (tk_loc 0) (tk_lit (6)))) (tk_lit 1) (tk_lit 0)))
def tkF_X6_isTape : tk_F := tk_fn [0] tkS_X6_isTape
set_option maxRecDepth 20000 in
set_option maxHeartbeats 4000000 in
theorem tko_X6_isTape : tk_St (cX6_isTape, RX6, 1, { frames := 0, cells := 0, slots := 0, locals := 0 }, none) 4 (tk_ga 0 [0]) [] tkS_X6_isTape 0 0 := (tk_ok_rez (p1 := 15) (tk_ok_ter (T := 10) (F := 14) (tk_ok_and (p1 := 4) (tk_ok_zgeF (p2 := 1) (tgt := 14) (off := 13) (tk_ok_iload_n 0 0 (by decide +kernel) rfl (by decide)) (by decide +kernel) (by decide)) (tk_ok_cltF (p1 := 5) (p2 := 7) (tgt := 14) (off := 7) (tk_ok_iload_n 0 0 (by decide +kernel) rfl (by decide)) (tk_ok_bipush (6) (by decide +kernel) (by decide +kernel) (by decide +kernel)) (by decide +kernel) (by decide))) (tk_ok_ego (p1 := 11) (off := 4) (tk_ok_iconst 1 (by decide +kernel) rfl (by decide +kernel)) (by decide +kernel) (by decide)) (tk_ok_iconst 0 (by decide +kernel) rfl (by decide +kernel))) (by decide +kernel))
theorem tkm_X6_isTape : tk_Met yX6_isTape cX6_isTape 1 (tk_rty 4) { frames := 0, cells := 0, slots := 0, locals := 0 } [0] 4 tkF_X6_isTape := tk_met (by decide) (by decide +kernel) (by decide) tko_X6_isTape
set_option maxRecDepth 20000 in
theorem tkw_c_X6_cutBy : Cond.code yX6_cutBy cX6_cutBy 4 (tk_rty 1) ∈ tk_tbl := tk_at 487 rfl rfl
set_option maxRecDepth 20000 in
theorem tkw_i_X6_cutBy : Cond.static yX6_cutBy ∈ tk_tbl := tk_at 486 rfl rfl
def tkS_X6_cutBy : tk_Sm := (tk_re (tk_ter (tk_cgt (tk_loc 2) (tk_lit (0))) (tk_dv tk_ldiv (tk_loc 0) (tk_loc 2)) (tk_lit (0))))
def tkF_X6_cutBy : tk_F := tk_fn [1, 1] tkS_X6_cutBy
set_option maxRecDepth 20000 in
set_option maxHeartbeats 4000000 in
theorem tko_X6_cutBy : tk_St (cX6_cutBy, RX6, 4, { frames := 0, cells := 0, slots := 0, locals := 0 }, none) 1 (tk_ga 0 [1, 1]) [] tkS_X6_cutBy 0 0 := (tk_ok_re (p1 := 13) (.inr rfl) (tk_ok_ter (T := 6) (F := 12) (tk_ok_lgtF (p1 := 1) (p2 := 2) (tgt := 12) (off := 9) (tk_ok_lload_n 2 2 (by decide +kernel) rfl (by decide)) (tk_ok_lconst 0 (0) (by decide +kernel) rfl (by decide +kernel)) (by decide +kernel) (by decide +kernel) (by decide)) (tk_ok_ego (p1 := 9) (off := 4) (tk_ok_ldiv (p1 := 7) (p2 := 8) (tk_ok_lload_n 0 0 (by decide +kernel) rfl (by decide)) (tk_ok_lload_n 2 2 (by decide +kernel) rfl (by decide)) (by decide +kernel)) (by decide +kernel) (by decide)) (tk_ok_lconst 0 (0) (by decide +kernel) rfl (by decide +kernel))) (by decide +kernel))
theorem tkm_X6_cutBy : tk_Met yX6_cutBy cX6_cutBy 4 (tk_rty 1) { frames := 0, cells := 0, slots := 0, locals := 0 } [1, 1] 1 tkF_X6_cutBy := tk_met (by decide) (by decide +kernel) (by decide) tko_X6_cutBy
set_option maxRecDepth 20000 in
theorem tkw_c_X6_fraction : Cond.code yX6_fraction cX6_fraction 12 (tk_rty 1) ∈ tk_tbl := tk_at 700 rfl rfl
set_option maxRecDepth 20000 in
theorem tkw_i_X6_fraction : Cond.static yX6_fraction ∈ tk_tbl := tk_at 699 rfl rfl
def tkS_X6_fraction : tk_Sm := (tk_sq (tk_if (tk_cle (tk_loc 2) (tk_lit (0))) (tk_re (tk_lit (-9223372036854775808))) tk_sk) (tk_sq (tk_se 5 (tk_loc 2)) (tk_sq (tk_se 7 (tk_dv tk_lrem (tk_u1 tk_ab (tk_loc 0)) (tk_loc 2))) (tk_sq (tk_sq (tk_se 9 (tk_lit (0))) (tk_wh (tk_and (tk_clt (tk_loc 9) (tk_lit (200))) (tk_cgt (tk_loc 7) (tk_lit (0)))) (tk_sq (tk_sq (tk_se 10 (tk_dv tk_lrem (tk_loc 5) (tk_loc 7))) (tk_sq (tk_se 5 (tk_loc 7)) (tk_se 7 (tk_loc 10)))) (tk_se 9 (tk_bin tk_iadd (tk_loc 9) (tk_lit (1))))))) (tk_re (tk_cs tkF_X6_cutBy [(tk_ter (tk_zeq (tk_loc 4)) (tk_loc 0) (tk_loc 2)), (tk_loc 5)]))))))
def tkF_X6_fraction : tk_F := tk_fn [1, 1, 0] tkS_X6_fraction
set_option maxRecDepth 20000 in
set_option maxHeartbeats 4000000 in
theorem tko_X6_fraction : tk_St (cX6_fraction, RX6, 12, { frames := 1, cells := 0, slots := 0, locals := 23 }, none) 1 (tk_ga 0 [1, 1, 0]) [] tkS_X6_fraction 0 0 := (tk_ok_sq (p1 := 10) (tk_ok_if (T := 6) (F := 10) (tk_ok_lleF (p1 := 1) (p2 := 2) (tgt := 10) (off := 7) (tk_ok_lload_n 2 2 (by decide +kernel) rfl (by decide)) (tk_ok_lconst 0 (0) (by decide +kernel) rfl (by decide +kernel)) (by decide +kernel) (by decide +kernel) (by decide)) (tk_ok_re (p1 := 9) (.inr rfl) (tk_ok_ldc2 (-9223372036854775808) 155 (by decide +kernel) (tk_at 530 (by decide +kernel) rfl) (by decide +kernel)) (by decide +kernel)) tk_ok_sk) (tk_ok_sq (p1 := 13) (tk_ok_lstore (Γ' := [(0, 1), (2, 1), (4, 0), (5, 1)]) (p1 := 11) 5 (tk_ok_lload_n 2 2 (by decide +kernel) rfl (by decide)) (by decide +kernel) (by decide) (by decide)) (tk_ok_sq (p1 := 21) (tk_ok_lstore (Γ' := [(0, 1), (2, 1), (4, 0), (5, 1), (7, 1)]) (p1 := 19) 7 (tk_ok_lrem (p1 := 17) (p2 := 18) (tk_ok_mabs (p1 := 14) (ix := 341) (tk_ok_lload_n 0 0 (by decide +kernel) rfl (by decide)) (by decide +kernel) (tk_at 701 (by decide +kernel) rfl) (tk_at 702 (by decide +kernel) rfl) (tk_at 76 (by decide +kernel) rfl) (tk_at 703 (by decide +kernel) rfl) (Nat.le_of_ble_eq_true rfl) (Nat.le_of_ble_eq_true rfl)) (tk_ok_lload_n 2 2 (by decide +kernel) rfl (by decide)) (by decide +kernel)) (by decide +kernel) (by decide) (by decide)) (tk_ok_sq (p1 := 60) (tk_ok_sub (Γ2 := [(0, 1), (2, 1), (4, 0), (5, 1), (7, 1)]) (tk_ok_sq (p1 := 24) (tk_ok_istore (Γ' := [(0, 1), (2, 1), (4, 0), (5, 1), (7, 1), (9, 0)]) (p1 := 22) 9 (tk_ok_iconst (0) (by decide +kernel) rfl (by decide +kernel)) (by decide +kernel) (by decide) (by decide)) (tk_ok_wh (T := 39) (F := 60) (tk_ok_and (p1 := 32) (tk_ok_cltF (p1 := 26) (p2 := 29) (tgt := 60) (off := 31) (tk_ok_iload 9 (by decide +kernel) (by decide)) (tk_ok_sipush (200) (by decide +kernel) (by decide +kernel) (by decide +kernel)) (by decide +kernel) (by decide)) (tk_ok_lgtF (p1 := 34) (p2 := 35) (tgt := 60) (off := 24) (tk_ok_lload 7 (by decide +kernel) (by decide)) (tk_ok_lconst 0 (0) (by decide +kernel) rfl (by decide +kernel)) (by decide +kernel) (by decide +kernel) (by decide))) (tk_ok_sgo (p1 := 57) (off := -33) (tk_ok_sq (p1 := 54) (tk_ok_sub (Γ2 := [(0, 1), (2, 1), (4, 0), (5, 1), (7, 1), (9, 0)]) (tk_ok_sq (p1 := 46) (tk_ok_lstore (Γ' := [(0, 1), (2, 1), (4, 0), (5, 1), (7, 1), (9, 0), (10, 1)]) (p1 := 44) 10 (tk_ok_lrem (p1 := 41) (p2 := 43) (tk_ok_lload 5 (by decide +kernel) (by decide)) (tk_ok_lload 7 (by decide +kernel) (by decide)) (by decide +kernel)) (by decide +kernel) (by decide) (by decide)) (tk_ok_sq (p1 := 50) (tk_ok_lstore (Γ' := [(0, 1), (2, 1), (4, 0), (5, 1), (7, 1), (9, 0), (10, 1)]) (p1 := 48) 5 (tk_ok_lload 7 (by decide +kernel) (by decide)) (by decide +kernel) (by decide) (by decide)) (tk_ok_lstore (Γ' := [(0, 1), (2, 1), (4, 0), (5, 1), (7, 1), (9, 0), (10, 1)]) (p1 := 52) 7 (tk_ok_lload 10 (by decide +kernel) (by decide)) (by decide +kernel) (by decide) (by decide)))) (by decide)) (tk_ok_iinc 9 (1) (by decide +kernel) (by decide) (by decide) (by decide))) (by decide +kernel) (by decide)))) (by decide)) (tk_ok_re (p1 := 75) (.inr rfl) (tk_ok_csl (p1 := 72) (ix := 344) (t := 1) (tk_ea1 (p1 := 70) (tk_ok_ter (T := 65) (F := 69) (tk_ok_zeqF (p2 := 62) (tgt := 69) (off := 7) (tk_ok_iload 4 (by decide +kernel) (by decide)) (by decide +kernel) (by decide)) (tk_ok_ego (p1 := 66) (off := 4) (tk_ok_lload_n 0 0 (by decide +kernel) rfl (by decide)) (by decide +kernel) (by decide)) (tk_ok_lload_n 2 2 (by decide +kernel) rfl (by decide))) (tk_ea1 (p1 := 72) (tk_ok_lload 5 (by decide +kernel) (by decide)) tk_ea0)) tkm_X6_cutBy ⟨(.inl (tk_at 704 rfl rfl)), tkw_ini6, tkw_c_X6_cutBy, ⟨by decide +kernel, by decide +kernel, by decide +kernel⟩, rfl, rfl, Nat.le_of_ble_eq_true rfl, Nat.le_of_ble_eq_true rfl⟩ tkw_i_X6_cutBy (by decide +kernel) (Nat.le_of_ble_eq_true rfl) rfl) (by decide +kernel))))))
theorem tkm_X6_fraction : tk_Met yX6_fraction cX6_fraction 12 (tk_rty 1) { frames := 1, cells := 0, slots := 0, locals := 23 } [1, 1, 0] 1 tkF_X6_fraction := tk_met (by decide) (by decide +kernel) (by decide) tko_X6_fraction
set_option maxRecDepth 20000 in
theorem tkw_c_X3_emptied : Cond.code yX3_emptied cX3_emptied 1 (tk_rty 0) ∈ tk_tbl := tk_at 726 rfl rfl
set_option maxRecDepth 20000 in
theorem tkw_i_X3_emptied : Cond.instanceMethod yX3_emptied ∈ tk_tbl := tk_at 724 rfl rfl
set_option maxRecDepth 20000 in
theorem tkw_s_X3_emptied : Cond.selects yX3_emptied.cls yX3_emptied yX3_emptied ∈ tk_tbl := tk_at 725 rfl rfl
def tkS_X3_emptied : tk_Sm := (tk_sq (tk_pf 3 0 (tk_loc 0) (tk_lit (0))) (tk_re (tk_lit (0))))
def tkF_X3_emptied : tk_F := tk_fn [2] tkS_X3_emptied
set_option maxRecDepth 20000 in
set_option maxHeartbeats 4000000 in
theorem tko_X3_emptied : tk_St (cX3_emptied, RX3, 1, { frames := 0, cells := 0, slots := 0, locals := 0 }, none) 0 (tk_ga 0 [2]) [] tkS_X3_emptied 0 0 := (tk_ok_sq (p1 := 5) (tk_ok_pi (j := 0) (p1 := 1) (p2 := 2) (ix := 18) (tk_ok_aload_n2 0 0 (by decide +kernel) rfl (by decide)) (tk_ok_iconst (0) (by decide +kernel) rfl (by decide +kernel)) tk_C3 (by decide +kernel) (by decide) (.inl (tk_at 99 rfl rfl)) rfl rfl rfl) (tk_ok_re (p1 := 6) (.inl rfl) (tk_ok_iconst (0) (by decide +kernel) rfl (by decide +kernel)) (by decide +kernel)))
theorem tkm_X3_emptied : tk_Met yX3_emptied cX3_emptied 1 (tk_rty 0) { frames := 0, cells := 0, slots := 0, locals := 0 } [2] 0 tkF_X3_emptied := tk_met (by decide) (by decide +kernel) (by decide) tko_X3_emptied
set_option maxRecDepth 20000 in
theorem tkw_c_X3_added : Cond.code yX3_added cX3_added 3 (tk_rty 0) ∈ tk_tbl := tk_at 730 rfl rfl
set_option maxRecDepth 20000 in
theorem tkw_i_X3_added : Cond.instanceMethod yX3_added ∈ tk_tbl := tk_at 728 rfl rfl
set_option maxRecDepth 20000 in
theorem tkw_s_X3_added : Cond.selects yX3_added.cls yX3_added yX3_added ∈ tk_tbl := tk_at 729 rfl rfl
def tkS_X3_added : tk_Sm := (tk_sq (tk_if (tk_or (tk_cge (tk_gf 3 0 (tk_loc 0)) (tk_aln 0 (tk_gr 3 (1) (tk_loc 0)))) (tk_cge (tk_gf 3 0 (tk_loc 0)) (tk_aln 0 (tk_gr 3 (2) (tk_loc 0))))) (tk_re (tk_lit (-4))) tk_sk) (tk_sq (tk_as 0 (tk_gr 3 (1) (tk_loc 0)) (tk_gf 3 0 (tk_loc 0)) (tk_loc 1)) (tk_sq (tk_as 0 (tk_gr 3 (2) (tk_loc 0)) (tk_gf 3 0 (tk_loc 0)) (tk_loc 2)) (tk_sq (tk_pfo tk_iadd 3 0 (tk_loc 0) (tk_lit (1))) (tk_re (tk_gf 3 0 (tk_loc 0)))))))
def tkF_X3_added : tk_F := tk_fn [2, 0, 0] tkS_X3_added
set_option maxRecDepth 20000 in
set_option maxHeartbeats 4000000 in
theorem tko_X3_added : tk_St (cX3_added, RX3, 3, { frames := 0, cells := 0, slots := 0, locals := 0 }, none) 0 (tk_ga 0 [2, 0, 0]) [] tkS_X3_added 0 0 := (tk_ok_sq (p1 := 27) (tk_ok_if (T := 24) (F := 27) (tk_ok_or (p1 := 12) (tk_ok_cgeT (p1 := 4) (p2 := 9) (tgt := 24) (off := 15) (tk_ok_gi (j := 0) (p1 := 1) (ix := 18) (tk_ok_aload_n2 0 0 (by decide +kernel) rfl (by decide)) tk_C3 (by decide +kernel) (by decide) (.inl (tk_at 99 rfl rfl)) rfl) (tk_ok_aln (p1 := 8) 0 (by decide) (tk_ok_gr (j := 1) (dl := 1) (p1 := 5) (ix := 9) (tk_ok_aload_n2 0 0 (by decide +kernel) rfl (by decide)) tk_C3 (by decide +kernel) (by decide) (.inl (tk_at 102 rfl rfl)) rfl (by decide) (fun o h => by simp only [tk_isC] at h; omega)) (by decide +kernel)) (by decide +kernel) (by decide)) (tk_ok_cgeF (p1 := 16) (p2 := 21) (tgt := 27) (off := 6) (tk_ok_gi (j := 0) (p1 := 13) (ix := 18) (tk_ok_aload_n2 0 0 (by decide +kernel) rfl (by decide)) tk_C3 (by decide +kernel) (by decide) (.inl (tk_at 99 rfl rfl)) rfl) (tk_ok_aln (p1 := 20) 0 (by decide) (tk_ok_gr (j := 2) (dl := 2) (p1 := 17) (ix := 15) (tk_ok_aload_n2 0 0 (by decide +kernel) rfl (by decide)) tk_C3 (by decide +kernel) (by decide) (.inl (tk_at 105 rfl rfl)) rfl (by decide) (fun o h => by simp only [tk_isC] at h; omega)) (by decide +kernel)) (by decide +kernel) (by decide))) (tk_ok_re (p1 := 26) (.inl rfl) (tk_ok_bipush (-4) (by decide +kernel) (by decide +kernel) (by decide +kernel)) (by decide +kernel)) tk_ok_sk) (tk_ok_sq (p1 := 37) (tk_ok_as0 (p1 := 31) (p2 := 35) (p3 := 36) (tk_ok_gr (j := 1) (dl := 1) (p1 := 28) (ix := 9) (tk_ok_aload_n2 0 0 (by decide +kernel) rfl (by decide)) tk_C3 (by decide +kernel) (by decide) (.inl (tk_at 102 rfl rfl)) rfl (by decide) (fun o h => by simp only [tk_isC] at h; omega)) (tk_ok_gi (j := 0) (p1 := 32) (ix := 18) (tk_ok_aload_n2 0 0 (by decide +kernel) rfl (by decide)) tk_C3 (by decide +kernel) (by decide) (.inl (tk_at 99 rfl rfl)) rfl) (tk_ok_iload_n 1 1 (by decide +kernel) rfl (by decide)) (by decide +kernel)) (tk_ok_sq (p1 := 47) (tk_ok_as0 (p1 := 41) (p2 := 45) (p3 := 46) (tk_ok_gr (j := 2) (dl := 2) (p1 := 38) (ix := 15) (tk_ok_aload_n2 0 0 (by decide +kernel) rfl (by decide)) tk_C3 (by decide +kernel) (by decide) (.inl (tk_at 105 rfl rfl)) rfl (by decide) (fun o h => by simp only [tk_isC] at h; omega)) (tk_ok_gi (j := 0) (p1 := 42) (ix := 18) (tk_ok_aload_n2 0 0 (by decide +kernel) rfl (by decide)) tk_C3 (by decide +kernel) (by decide) (.inl (tk_at 99 rfl rfl)) rfl) (tk_ok_iload_n 2 2 (by decide +kernel) rfl (by decide)) (by decide +kernel)) (tk_ok_sq (p1 := 57) (tk_ok_pfo (j := 0) (p1 := 48) (p2 := 53) (ix := 18) (tk_ok_aload_n2 0 0 (by decide +kernel) rfl (by decide)) (by decide +kernel) (by decide +kernel) (tk_ok_iconst (1) (by decide +kernel) rfl (by decide +kernel)) (tk_op_iadd (by decide +kernel)) (by decide +kernel) tk_C3 (by decide) (.inl (tk_at 99 rfl rfl)) rfl rfl rfl) (tk_ok_re (p1 := 61) (.inl rfl) (tk_ok_gi (j := 0) (p1 := 58) (ix := 18) (tk_ok_aload_n2 0 0 (by decide +kernel) rfl (by decide)) tk_C3 (by decide +kernel) (by decide) (.inl (tk_at 99 rfl rfl)) rfl) (by decide +kernel))))))
theorem tkm_X3_added : tk_Met yX3_added cX3_added 3 (tk_rty 0) { frames := 0, cells := 0, slots := 0, locals := 0 } [2, 0, 0] 0 tkF_X3_added := tk_met (by decide) (by decide +kernel) (by decide) tko_X3_added
set_option maxRecDepth 20000 in
theorem tkw_c_X3_copyRows : Cond.code yX3_copyRows cX3_copyRows 2 (tk_rty 9) ∈ tk_tbl := tk_at 685 rfl rfl
set_option maxRecDepth 20000 in
theorem tkw_i_X3_copyRows : Cond.instanceMethod yX3_copyRows ∈ tk_tbl := tk_at 683 rfl rfl
set_option maxRecDepth 20000 in
theorem tkw_s_X3_copyRows : Cond.selects yX3_copyRows.cls yX3_copyRows yX3_copyRows ∈ tk_tbl := tk_at 684 rfl rfl
def tkS_X3_copyRows : tk_Sm := (tk_sq (tk_sq (tk_pf 3 0 (tk_loc 0) (tk_gf 3 0 (tk_loc 1))) (tk_sq (tk_cpy 0 (tk_gr 3 (1) (tk_loc 1)) (tk_lit (0)) (tk_gr 3 (1) (tk_loc 0)) (tk_lit (0)) (tk_gf 3 0 (tk_loc 1))) (tk_cpy 0 (tk_gr 3 (2) (tk_loc 1)) (tk_lit (0)) (tk_gr 3 (2) (tk_loc 0)) (tk_lit (0)) (tk_gf 3 0 (tk_loc 1))))) tk_rev)
def tkF_X3_copyRows : tk_F := tk_fn [2, 2] tkS_X3_copyRows
set_option maxRecDepth 20000 in
set_option maxHeartbeats 4000000 in
theorem tko_X3_copyRows : tk_St (cX3_copyRows, RX3, 2, { frames := 1, cells := 0, slots := 0, locals := 23 }, none) 9 (tk_ga 0 [2, 2]) [] tkS_X3_copyRows 0 0 := (tk_ok_sq (p1 := 42) (tk_ok_sq (p1 := 8) (tk_ok_pi (j := 0) (p1 := 1) (p2 := 5) (ix := 18) (tk_ok_aload_n2 0 0 (by decide +kernel) rfl (by decide)) (tk_ok_gi (j := 0) (p1 := 2) (ix := 18) (tk_ok_aload_n2 1 1 (by decide +kernel) rfl (by decide)) tk_C3 (by decide +kernel) (by decide) (.inl (tk_at 99 rfl rfl)) rfl) tk_C3 (by decide +kernel) (by decide) (.inl (tk_at 99 rfl rfl)) rfl rfl rfl) (tk_ok_sq (p1 := 25) (tk_ok_cpy0 (p1 := 22) (ix := 22) (tk_ea1 (p1 := 12) (tk_ok_gr (j := 1) (dl := 1) (p1 := 9) (ix := 9) (tk_ok_aload_n2 1 1 (by decide +kernel) rfl (by decide)) tk_C3 (by decide +kernel) (by decide) (.inl (tk_at 102 rfl rfl)) rfl (by decide) (fun o h => by simp only [tk_isC] at h; omega)) (tk_ea1 (p1 := 13) (tk_ok_iconst (0) (by decide +kernel) rfl (by decide +kernel)) (tk_ea1 (p1 := 17) (tk_ok_gr (j := 1) (dl := 1) (p1 := 14) (ix := 9) (tk_ok_aload_n2 0 0 (by decide +kernel) rfl (by decide)) tk_C3 (by decide +kernel) (by decide) (.inl (tk_at 102 rfl rfl)) rfl (by decide) (fun o h => by simp only [tk_isC] at h; omega)) (tk_ea1 (p1 := 18) (tk_ok_iconst (0) (by decide +kernel) rfl (by decide +kernel)) (tk_ea1 (p1 := 22) (tk_ok_gi (j := 0) (p1 := 19) (ix := 18) (tk_ok_aload_n2 1 1 (by decide +kernel) rfl (by decide)) tk_C3 (by decide +kernel) (by decide) (.inl (tk_at 99 rfl rfl)) rfl) tk_ea0))))) (by decide +kernel) (tk_at 686 (by decide +kernel) rfl) (tk_at 681 (by decide +kernel) rfl) (tk_at 680 (by decide +kernel) rfl) (tk_at 78 (by decide +kernel) rfl) (Nat.le_of_ble_eq_true rfl) (by decide +kernel)) (tk_ok_cpy0 (p1 := 39) (ix := 22) (tk_ea1 (p1 := 29) (tk_ok_gr (j := 2) (dl := 2) (p1 := 26) (ix := 15) (tk_ok_aload_n2 1 1 (by decide +kernel) rfl (by decide)) tk_C3 (by decide +kernel) (by decide) (.inl (tk_at 105 rfl rfl)) rfl (by decide) (fun o h => by simp only [tk_isC] at h; omega)) (tk_ea1 (p1 := 30) (tk_ok_iconst (0) (by decide +kernel) rfl (by decide +kernel)) (tk_ea1 (p1 := 34) (tk_ok_gr (j := 2) (dl := 2) (p1 := 31) (ix := 15) (tk_ok_aload_n2 0 0 (by decide +kernel) rfl (by decide)) tk_C3 (by decide +kernel) (by decide) (.inl (tk_at 105 rfl rfl)) rfl (by decide) (fun o h => by simp only [tk_isC] at h; omega)) (tk_ea1 (p1 := 35) (tk_ok_iconst (0) (by decide +kernel) rfl (by decide +kernel)) (tk_ea1 (p1 := 39) (tk_ok_gi (j := 0) (p1 := 36) (ix := 18) (tk_ok_aload_n2 1 1 (by decide +kernel) rfl (by decide)) tk_C3 (by decide +kernel) (by decide) (.inl (tk_at 99 rfl rfl)) rfl) tk_ea0))))) (by decide +kernel) (tk_at 686 (by decide +kernel) rfl) (tk_at 681 (by decide +kernel) rfl) (tk_at 680 (by decide +kernel) rfl) (tk_at 78 (by decide +kernel) rfl) (Nat.le_of_ble_eq_true rfl) (by decide +kernel)))) (tk_ok_rev (by decide +kernel)))
theorem tkm_X3_copyRows : tk_Met yX3_copyRows cX3_copyRows 2 (tk_rty 9) { frames := 1, cells := 0, slots := 0, locals := 23 } [2, 2] 9 tkF_X3_copyRows := tk_met (by decide) (by decide +kernel) (by decide) tko_X3_copyRows
set_option maxRecDepth 20000 in
theorem tkw_c_X2_takeFrom : Cond.code yX2_takeFrom cX2_takeFrom 2 (tk_rty 9) ∈ tk_tbl := tk_at 678 rfl rfl
set_option maxRecDepth 20000 in
theorem tkw_i_X2_takeFrom : Cond.instanceMethod yX2_takeFrom ∈ tk_tbl := tk_at 676 rfl rfl
set_option maxRecDepth 20000 in
theorem tkw_s_X2_takeFrom : Cond.selects yX2_takeFrom.cls yX2_takeFrom yX2_takeFrom ∈ tk_tbl := tk_at 677 rfl rfl
def tkS_X2_takeFrom : tk_Sm := (tk_sq (tk_sq (tk_pf 2 0 (tk_loc 0) (tk_gf 2 0 (tk_loc 1))) (tk_sq (tk_pf 2 1 (tk_loc 0) (tk_gf 2 1 (tk_loc 1))) (tk_sq (tk_pf 2 2 (tk_loc 0) (tk_gf 2 2 (tk_loc 1))) (tk_sq (tk_pf 2 3 (tk_loc 0) (tk_gf 2 3 (tk_loc 1))) (tk_sq (tk_pf 2 4 (tk_loc 0) (tk_gf 2 4 (tk_loc 1))) (tk_sq (tk_cpy 0 (tk_gr 2 (1) (tk_loc 1)) (tk_lit (0)) (tk_gr 2 (1) (tk_loc 0)) (tk_lit (0)) (tk_gf 2 1 (tk_loc 0))) (tk_sq (tk_cpy 0 (tk_gr 2 (2) (tk_loc 1)) (tk_lit (0)) (tk_gr 2 (2) (tk_loc 0)) (tk_lit (0)) (tk_gf 2 1 (tk_loc 0))) (tk_sq (tk_cpy 0 (tk_gr 2 (3) (tk_loc 1)) (tk_lit (0)) (tk_gr 2 (3) (tk_loc 0)) (tk_lit (0)) (tk_gf 2 1 (tk_loc 0))) (tk_sq (tk_cpy 0 (tk_gr 2 (4) (tk_loc 1)) (tk_lit (0)) (tk_gr 2 (4) (tk_loc 0)) (tk_lit (0)) (tk_gf 2 2 (tk_loc 0))) (tk_sq (tk_cpy 0 (tk_gr 2 (5) (tk_loc 1)) (tk_lit (0)) (tk_gr 2 (5) (tk_loc 0)) (tk_lit (0)) (tk_gf 2 2 (tk_loc 0))) (tk_sq (tk_cpy 0 (tk_gr 2 (6) (tk_loc 1)) (tk_lit (0)) (tk_gr 2 (6) (tk_loc 0)) (tk_lit (0)) (tk_gf 2 2 (tk_loc 0))) (tk_sq (tk_cpy 0 (tk_gr 2 (7) (tk_loc 1)) (tk_lit (0)) (tk_gr 2 (7) (tk_loc 0)) (tk_lit (0)) (tk_gf 2 2 (tk_loc 0))) (tk_sq (tk_cpy 0 (tk_gr 2 (8) (tk_loc 1)) (tk_lit (0)) (tk_gr 2 (8) (tk_loc 0)) (tk_lit (0)) (tk_gf 2 2 (tk_loc 0))) (tk_sq (tk_cpy 0 (tk_gr 2 (9) (tk_loc 1)) (tk_lit (0)) (tk_gr 2 (9) (tk_loc 0)) (tk_lit (0)) (tk_gf 2 2 (tk_loc 0))) (tk_sq (tk_cpy 0 (tk_gr 2 (10) (tk_loc 1)) (tk_lit (0)) (tk_gr 2 (10) (tk_loc 0)) (tk_lit (0)) (tk_bin tk_imul (tk_gf 2 2 (tk_loc 0)) (tk_lit (4)))) (tk_sq (tk_xp (tk_cv 3 tkF_X3_copyRows [(tk_gr 2 (11) (tk_loc 0)), (tk_gr 2 (11) (tk_loc 1))])) (tk_sq (tk_xp (tk_cv 3 tkF_X3_copyRows [(tk_gr 2 (14) (tk_loc 0)), (tk_gr 2 (14) (tk_loc 1))])) (tk_xp (tk_cv 3 tkF_X3_copyRows [(tk_gr 2 (17) (tk_loc 0)), (tk_gr 2 (17) (tk_loc 1))]))))))))))))))))))) tk_rev)
def tkF_X2_takeFrom : tk_F := tk_fn [2, 2] tkS_X2_takeFrom
set_option maxRecDepth 20000 in
set_option maxHeartbeats 4000000 in
theorem tko_X2_takeFrom : tk_St (cX2_takeFrom, RX2, 2, { frames := 2, cells := 0, slots := 0, locals := 44 }, none) 9 (tk_ga 0 [2, 2]) [] tkS_X2_takeFrom 0 0 := (tk_ok_sq (p1 := 245) (tk_ok_sq (p1 := 8) (tk_ok_pi (j := 0) (p1 := 1) (p2 := 5) (ix := 9) (tk_ok_aload_n2 0 0 (by decide +kernel) rfl (by decide)) (tk_ok_gi (j := 0) (p1 := 2) (ix := 9) (tk_ok_aload_n2 1 1 (by decide +kernel) rfl (by decide)) tk_C2 (by decide +kernel) (by decide) (.inl (tk_at 116 rfl rfl)) rfl) tk_C2 (by decide +kernel) (by decide) (.inl (tk_at 116 rfl rfl)) rfl rfl rfl) (tk_ok_sq (p1 := 16) (tk_ok_pi (j := 1) (p1 := 9) (p2 := 13) (ix := 61) (tk_ok_aload_n2 0 0 (by decide +kernel) rfl (by decide)) (tk_ok_gi (j := 1) (p1 := 10) (ix := 61) (tk_ok_aload_n2 1 1 (by decide +kernel) rfl (by decide)) tk_C2 (by decide +kernel) (by decide) (.inl (tk_at 119 rfl rfl)) rfl) tk_C2 (by decide +kernel) (by decide) (.inl (tk_at 119 rfl rfl)) rfl rfl rfl) (tk_ok_sq (p1 := 24) (tk_ok_pi (j := 2) (p1 := 17) (p2 := 21) (ix := 64) (tk_ok_aload_n2 0 0 (by decide +kernel) rfl (by decide)) (tk_ok_gi (j := 2) (p1 := 18) (ix := 64) (tk_ok_aload_n2 1 1 (by decide +kernel) rfl (by decide)) tk_C2 (by decide +kernel) (by decide) (.inl (tk_at 122 rfl rfl)) rfl) tk_C2 (by decide +kernel) (by decide) (.inl (tk_at 122 rfl rfl)) rfl rfl rfl) (tk_ok_sq (p1 := 32) (tk_ok_pi (j := 3) (p1 := 25) (p2 := 29) (ix := 67) (tk_ok_aload_n2 0 0 (by decide +kernel) rfl (by decide)) (tk_ok_gi (j := 3) (p1 := 26) (ix := 67) (tk_ok_aload_n2 1 1 (by decide +kernel) rfl (by decide)) tk_C2 (by decide +kernel) (by decide) (.inl (tk_at 126 rfl rfl)) rfl) tk_C2 (by decide +kernel) (by decide) (.inl (tk_at 126 rfl rfl)) rfl rfl rfl) (tk_ok_sq (p1 := 40) (tk_ok_pi (j := 4) (p1 := 33) (p2 := 37) (ix := 70) (tk_ok_aload_n2 0 0 (by decide +kernel) rfl (by decide)) (tk_ok_gi (j := 4) (p1 := 34) (ix := 70) (tk_ok_aload_n2 1 1 (by decide +kernel) rfl (by decide)) tk_C2 (by decide +kernel) (by decide) (.inl (tk_at 128 rfl rfl)) rfl) tk_C2 (by decide +kernel) (by decide) (.inl (tk_at 128 rfl rfl)) rfl rfl rfl) (tk_ok_sq (p1 := 57) (tk_ok_cpy0 (p1 := 54) (ix := 73) (tk_ea1 (p1 := 44) (tk_ok_gr (j := 5) (dl := 1) (p1 := 41) (ix := 15) (tk_ok_aload_n2 1 1 (by decide +kernel) rfl (by decide)) tk_C2 (by decide +kernel) (by decide) (.inl (tk_at 130 rfl rfl)) rfl (by decide) (fun o h => by simp only [tk_isC] at h; omega)) (tk_ea1 (p1 := 45) (tk_ok_iconst (0) (by decide +kernel) rfl (by decide +kernel)) (tk_ea1 (p1 := 49) (tk_ok_gr (j := 5) (dl := 1) (p1 := 46) (ix := 15) (tk_ok_aload_n2 0 0 (by decide +kernel) rfl (by decide)) tk_C2 (by decide +kernel) (by decide) (.inl (tk_at 130 rfl rfl)) rfl (by decide) (fun o h => by simp only [tk_isC] at h; omega)) (tk_ea1 (p1 := 50) (tk_ok_iconst (0) (by decide +kernel) rfl (by decide +kernel)) (tk_ea1 (p1 := 54) (tk_ok_gi (j := 1) (p1 := 51) (ix := 61) (tk_ok_aload_n2 0 0 (by decide +kernel) rfl (by decide)) tk_C2 (by decide +kernel) (by decide) (.inl (tk_at 119 rfl rfl)) rfl) tk_ea0))))) (by decide +kernel) (tk_at 679 (by decide +kernel) rfl) (tk_at 681 (by decide +kernel) rfl) (tk_at 680 (by decide +kernel) rfl) (tk_at 78 (by decide +kernel) rfl) (Nat.le_of_ble_eq_true rfl) (by decide +kernel)) (tk_ok_sq (p1 := 74) (tk_ok_cpy0 (p1 := 71) (ix := 73) (tk_ea1 (p1 := 61) (tk_ok_gr (j := 6) (dl := 2) (p1 := 58) (ix := 19) (tk_ok_aload_n2 1 1 (by decide +kernel) rfl (by decide)) tk_C2 (by decide +kernel) (by decide) (.inl (tk_at 133 rfl rfl)) rfl (by decide) (fun o h => by simp only [tk_isC] at h; omega)) (tk_ea1 (p1 := 62) (tk_ok_iconst (0) (by decide +kernel) rfl (by decide +kernel)) (tk_ea1 (p1 := 66) (tk_ok_gr (j := 6) (dl := 2) (p1 := 63) (ix := 19) (tk_ok_aload_n2 0 0 (by decide +kernel) rfl (by decide)) tk_C2 (by decide +kernel) (by decide) (.inl (tk_at 133 rfl rfl)) rfl (by decide) (fun o h => by simp only [tk_isC] at h; omega)) (tk_ea1 (p1 := 67) (tk_ok_iconst (0) (by decide +kernel) rfl (by decide +kernel)) (tk_ea1 (p1 := 71) (tk_ok_gi (j := 1) (p1 := 68) (ix := 61) (tk_ok_aload_n2 0 0 (by decide +kernel) rfl (by decide)) tk_C2 (by decide +kernel) (by decide) (.inl (tk_at 119 rfl rfl)) rfl) tk_ea0))))) (by decide +kernel) (tk_at 679 (by decide +kernel) rfl) (tk_at 681 (by decide +kernel) rfl) (tk_at 680 (by decide +kernel) rfl) (tk_at 78 (by decide +kernel) rfl) (Nat.le_of_ble_eq_true rfl) (by decide +kernel)) (tk_ok_sq (p1 := 91) (tk_ok_cpy0 (p1 := 88) (ix := 73) (tk_ea1 (p1 := 78) (tk_ok_gr (j := 7) (dl := 3) (p1 := 75) (ix := 22) (tk_ok_aload_n2 1 1 (by decide +kernel) rfl (by decide)) tk_C2 (by decide +kernel) (by decide) (.inl (tk_at 136 rfl rfl)) rfl (by decide) (fun o h => by simp only [tk_isC] at h; omega)) (tk_ea1 (p1 := 79) (tk_ok_iconst (0) (by decide +kernel) rfl (by decide +kernel)) (tk_ea1 (p1 := 83) (tk_ok_gr (j := 7) (dl := 3) (p1 := 80) (ix := 22) (tk_ok_aload_n2 0 0 (by decide +kernel) rfl (by decide)) tk_C2 (by decide +kernel) (by decide) (.inl (tk_at 136 rfl rfl)) rfl (by decide) (fun o h => by simp only [tk_isC] at h; omega)) (tk_ea1 (p1 := 84) (tk_ok_iconst (0) (by decide +kernel) rfl (by decide +kernel)) (tk_ea1 (p1 := 88) (tk_ok_gi (j := 1) (p1 := 85) (ix := 61) (tk_ok_aload_n2 0 0 (by decide +kernel) rfl (by decide)) tk_C2 (by decide +kernel) (by decide) (.inl (tk_at 119 rfl rfl)) rfl) tk_ea0))))) (by decide +kernel) (tk_at 679 (by decide +kernel) rfl) (tk_at 681 (by decide +kernel) rfl) (tk_at 680 (by decide +kernel) rfl) (tk_at 78 (by decide +kernel) rfl) (Nat.le_of_ble_eq_true rfl) (by decide +kernel)) (tk_ok_sq (p1 := 108) (tk_ok_cpy0 (p1 := 105) (ix := 73) (tk_ea1 (p1 := 95) (tk_ok_gr (j := 8) (dl := 4) (p1 := 92) (ix := 25) (tk_ok_aload_n2 1 1 (by decide +kernel) rfl (by decide)) tk_C2 (by decide +kernel) (by decide) (.inl (tk_at 139 rfl rfl)) rfl (by decide) (fun o h => by simp only [tk_isC] at h; omega)) (tk_ea1 (p1 := 96) (tk_ok_iconst (0) (by decide +kernel) rfl (by decide +kernel)) (tk_ea1 (p1 := 100) (tk_ok_gr (j := 8) (dl := 4) (p1 := 97) (ix := 25) (tk_ok_aload_n2 0 0 (by decide +kernel) rfl (by decide)) tk_C2 (by decide +kernel) (by decide) (.inl (tk_at 139 rfl rfl)) rfl (by decide) (fun o h => by simp only [tk_isC] at h; omega)) (tk_ea1 (p1 := 101) (tk_ok_iconst (0) (by decide +kernel) rfl (by decide +kernel)) (tk_ea1 (p1 := 105) (tk_ok_gi (j := 2) (p1 := 102) (ix := 64) (tk_ok_aload_n2 0 0 (by decide +kernel) rfl (by decide)) tk_C2 (by decide +kernel) (by decide) (.inl (tk_at 122 rfl rfl)) rfl) tk_ea0))))) (by decide +kernel) (tk_at 679 (by decide +kernel) rfl) (tk_at 681 (by decide +kernel) rfl) (tk_at 680 (by decide +kernel) rfl) (tk_at 78 (by decide +kernel) rfl) (Nat.le_of_ble_eq_true rfl) (by decide +kernel)) (tk_ok_sq (p1 := 125) (tk_ok_cpy0 (p1 := 122) (ix := 73) (tk_ea1 (p1 := 112) (tk_ok_gr (j := 9) (dl := 5) (p1 := 109) (ix := 28) (tk_ok_aload_n2 1 1 (by decide +kernel) rfl (by decide)) tk_C2 (by decide +kernel) (by decide) (.inl (tk_at 141 rfl rfl)) rfl (by decide) (fun o h => by simp only [tk_isC] at h; omega)) (tk_ea1 (p1 := 113) (tk_ok_iconst (0) (by decide +kernel) rfl (by decide +kernel)) (tk_ea1 (p1 := 117) (tk_ok_gr (j := 9) (dl := 5) (p1 := 114) (ix := 28) (tk_ok_aload_n2 0 0 (by decide +kernel) rfl (by decide)) tk_C2 (by decide +kernel) (by decide) (.inl (tk_at 141 rfl rfl)) rfl (by decide) (fun o h => by simp only [tk_isC] at h; omega)) (tk_ea1 (p1 := 118) (tk_ok_iconst (0) (by decide +kernel) rfl (by decide +kernel)) (tk_ea1 (p1 := 122) (tk_ok_gi (j := 2) (p1 := 119) (ix := 64) (tk_ok_aload_n2 0 0 (by decide +kernel) rfl (by decide)) tk_C2 (by decide +kernel) (by decide) (.inl (tk_at 122 rfl rfl)) rfl) tk_ea0))))) (by decide +kernel) (tk_at 679 (by decide +kernel) rfl) (tk_at 681 (by decide +kernel) rfl) (tk_at 680 (by decide +kernel) rfl) (tk_at 78 (by decide +kernel) rfl) (Nat.le_of_ble_eq_true rfl) (by decide +kernel)) (tk_ok_sq (p1 := 142) (tk_ok_cpy0 (p1 := 139) (ix := 73) (tk_ea1 (p1 := 129) (tk_ok_gr (j := 10) (dl := 6) (p1 := 126) (ix := 31) (tk_ok_aload_n2 1 1 (by decide +kernel) rfl (by decide)) tk_C2 (by decide +kernel) (by decide) (.inl (tk_at 143 rfl rfl)) rfl (by decide) (fun o h => by simp only [tk_isC] at h; omega)) (tk_ea1 (p1 := 130) (tk_ok_iconst (0) (by decide +kernel) rfl (by decide +kernel)) (tk_ea1 (p1 := 134) (tk_ok_gr (j := 10) (dl := 6) (p1 := 131) (ix := 31) (tk_ok_aload_n2 0 0 (by decide +kernel) rfl (by decide)) tk_C2 (by decide +kernel) (by decide) (.inl (tk_at 143 rfl rfl)) rfl (by decide) (fun o h => by simp only [tk_isC] at h; omega)) (tk_ea1 (p1 := 135) (tk_ok_iconst (0) (by decide +kernel) rfl (by decide +kernel)) (tk_ea1 (p1 := 139) (tk_ok_gi (j := 2) (p1 := 136) (ix := 64) (tk_ok_aload_n2 0 0 (by decide +kernel) rfl (by decide)) tk_C2 (by decide +kernel) (by decide) (.inl (tk_at 122 rfl rfl)) rfl) tk_ea0))))) (by decide +kernel) (tk_at 679 (by decide +kernel) rfl) (tk_at 681 (by decide +kernel) rfl) (tk_at 680 (by decide +kernel) rfl) (tk_at 78 (by decide +kernel) rfl) (Nat.le_of_ble_eq_true rfl) (by decide +kernel)) (tk_ok_sq (p1 := 159) (tk_ok_cpy0 (p1 := 156) (ix := 73) (tk_ea1 (p1 := 146) (tk_ok_gr (j := 11) (dl := 7) (p1 := 143) (ix := 34) (tk_ok_aload_n2 1 1 (by decide +kernel) rfl (by decide)) tk_C2 (by decide +kernel) (by decide) (.inl (tk_at 145 rfl rfl)) rfl (by decide) (fun o h => by simp only [tk_isC] at h; omega)) (tk_ea1 (p1 := 147) (tk_ok_iconst (0) (by decide +kernel) rfl (by decide +kernel)) (tk_ea1 (p1 := 151) (tk_ok_gr (j := 11) (dl := 7) (p1 := 148) (ix := 34) (tk_ok_aload_n2 0 0 (by decide +kernel) rfl (by decide)) tk_C2 (by decide +kernel) (by decide) (.inl (tk_at 145 rfl rfl)) rfl (by decide) (fun o h => by simp only [tk_isC] at h; omega)) (tk_ea1 (p1 := 152) (tk_ok_iconst (0) (by decide +kernel) rfl (by decide +kernel)) (tk_ea1 (p1 := 156) (tk_ok_gi (j := 2) (p1 := 153) (ix := 64) (tk_ok_aload_n2 0 0 (by decide +kernel) rfl (by decide)) tk_C2 (by decide +kernel) (by decide) (.inl (tk_at 122 rfl rfl)) rfl) tk_ea0))))) (by decide +kernel) (tk_at 679 (by decide +kernel) rfl) (tk_at 681 (by decide +kernel) rfl) (tk_at 680 (by decide +kernel) rfl) (tk_at 78 (by decide +kernel) rfl) (Nat.le_of_ble_eq_true rfl) (by decide +kernel)) (tk_ok_sq (p1 := 176) (tk_ok_cpy0 (p1 := 173) (ix := 73) (tk_ea1 (p1 := 163) (tk_ok_gr (j := 12) (dl := 8) (p1 := 160) (ix := 37) (tk_ok_aload_n2 1 1 (by decide +kernel) rfl (by decide)) tk_C2 (by decide +kernel) (by decide) (.inl (tk_at 148 rfl rfl)) rfl (by decide) (fun o h => by simp only [tk_isC] at h; omega)) (tk_ea1 (p1 := 164) (tk_ok_iconst (0) (by decide +kernel) rfl (by decide +kernel)) (tk_ea1 (p1 := 168) (tk_ok_gr (j := 12) (dl := 8) (p1 := 165) (ix := 37) (tk_ok_aload_n2 0 0 (by decide +kernel) rfl (by decide)) tk_C2 (by decide +kernel) (by decide) (.inl (tk_at 148 rfl rfl)) rfl (by decide) (fun o h => by simp only [tk_isC] at h; omega)) (tk_ea1 (p1 := 169) (tk_ok_iconst (0) (by decide +kernel) rfl (by decide +kernel)) (tk_ea1 (p1 := 173) (tk_ok_gi (j := 2) (p1 := 170) (ix := 64) (tk_ok_aload_n2 0 0 (by decide +kernel) rfl (by decide)) tk_C2 (by decide +kernel) (by decide) (.inl (tk_at 122 rfl rfl)) rfl) tk_ea0))))) (by decide +kernel) (tk_at 679 (by decide +kernel) rfl) (tk_at 681 (by decide +kernel) rfl) (tk_at 680 (by decide +kernel) rfl) (tk_at 78 (by decide +kernel) rfl) (Nat.le_of_ble_eq_true rfl) (by decide +kernel)) (tk_ok_sq (p1 := 193) (tk_ok_cpy0 (p1 := 190) (ix := 73) (tk_ea1 (p1 := 180) (tk_ok_gr (j := 13) (dl := 9) (p1 := 177) (ix := 40) (tk_ok_aload_n2 1 1 (by decide +kernel) rfl (by decide)) tk_C2 (by decide +kernel) (by decide) (.inl (tk_at 151 rfl rfl)) rfl (by decide) (fun o h => by simp only [tk_isC] at h; omega)) (tk_ea1 (p1 := 181) (tk_ok_iconst (0) (by decide +kernel) rfl (by decide +kernel)) (tk_ea1 (p1 := 185) (tk_ok_gr (j := 13) (dl := 9) (p1 := 182) (ix := 40) (tk_ok_aload_n2 0 0 (by decide +kernel) rfl (by decide)) tk_C2 (by decide +kernel) (by decide) (.inl (tk_at 151 rfl rfl)) rfl (by decide) (fun o h => by simp only [tk_isC] at h; omega)) (tk_ea1 (p1 := 186) (tk_ok_iconst (0) (by decide +kernel) rfl (by decide +kernel)) (tk_ea1 (p1 := 190) (tk_ok_gi (j := 2) (p1 := 187) (ix := 64) (tk_ok_aload_n2 0 0 (by decide +kernel) rfl (by decide)) tk_C2 (by decide +kernel) (by decide) (.inl (tk_at 122 rfl rfl)) rfl) tk_ea0))))) (by decide +kernel) (tk_at 679 (by decide +kernel) rfl) (tk_at 681 (by decide +kernel) rfl) (tk_at 680 (by decide +kernel) rfl) (tk_at 78 (by decide +kernel) rfl) (Nat.le_of_ble_eq_true rfl) (by decide +kernel)) (tk_ok_sq (p1 := 212) (tk_ok_cpy0 (p1 := 209) (ix := 73) (tk_ea1 (p1 := 197) (tk_ok_gr (j := 14) (dl := 10) (p1 := 194) (ix := 43) (tk_ok_aload_n2 1 1 (by decide +kernel) rfl (by decide)) tk_C2 (by decide +kernel) (by decide) (.inl (tk_at 155 rfl rfl)) rfl (by decide) (fun o h => by simp only [tk_isC] at h; omega)) (tk_ea1 (p1 := 198) (tk_ok_iconst (0) (by decide +kernel) rfl (by decide +kernel)) (tk_ea1 (p1 := 202) (tk_ok_gr (j := 14) (dl := 10) (p1 := 199) (ix := 43) (tk_ok_aload_n2 0 0 (by decide +kernel) rfl (by decide)) tk_C2 (by decide +kernel) (by decide) (.inl (tk_at 155 rfl rfl)) rfl (by decide) (fun o h => by simp only [tk_isC] at h; omega)) (tk_ea1 (p1 := 203) (tk_ok_iconst (0) (by decide +kernel) rfl (by decide +kernel)) (tk_ea1 (p1 := 209) (tk_ok_imul (p1 := 207) (p2 := 208) (tk_ok_gi (j := 2) (p1 := 204) (ix := 64) (tk_ok_aload_n2 0 0 (by decide +kernel) rfl (by decide)) tk_C2 (by decide +kernel) (by decide) (.inl (tk_at 122 rfl rfl)) rfl) (tk_ok_iconst (4) (by decide +kernel) rfl (by decide +kernel)) (by decide +kernel)) tk_ea0))))) (by decide +kernel) (tk_at 679 (by decide +kernel) rfl) (tk_at 681 (by decide +kernel) rfl) (tk_at 680 (by decide +kernel) rfl) (tk_at 78 (by decide +kernel) rfl) (Nat.le_of_ble_eq_true rfl) (by decide +kernel)) (tk_ok_sq (p1 := 223) (tk_ok_cvv (p1 := 220) (ix := 79) (tk_ea1 (p1 := 216) (tk_ok_gr (j := 15) (dl := 11) (p1 := 213) (ix := 51) (tk_ok_aload_n2 0 0 (by decide +kernel) rfl (by decide)) tk_C2 (by decide +kernel) (by decide) (.inl (tk_at 157 rfl rfl)) rfl (by decide) (fun o h => by simp only [tk_isC] at h; omega)) (tk_ea1 (p1 := 220) (tk_ok_gr (j := 15) (dl := 11) (p1 := 217) (ix := 51) (tk_ok_aload_n2 1 1 (by decide +kernel) rfl (by decide)) tk_C2 (by decide +kernel) (by decide) (.inl (tk_at 157 rfl rfl)) rfl (by decide) (fun o h => by simp only [tk_isC] at h; omega)) tk_ea0)) tkm_X3_copyRows ⟨(.inl (tk_at 682 rfl rfl)), tkw_ini3, tkw_c_X3_copyRows, ⟨by decide +kernel, by decide +kernel, by decide +kernel⟩, rfl, rfl, Nat.le_of_ble_eq_true rfl, Nat.le_of_ble_eq_true rfl⟩ tkw_i_X3_copyRows tkw_s_X3_copyRows tk_C3 (by decide +kernel)) (tk_ok_sq (p1 := 234) (tk_ok_cvv (p1 := 231) (ix := 79) (tk_ea1 (p1 := 227) (tk_ok_gr (j := 16) (dl := 14) (p1 := 224) (ix := 55) (tk_ok_aload_n2 0 0 (by decide +kernel) rfl (by decide)) tk_C2 (by decide +kernel) (by decide) (.inl (tk_at 159 rfl rfl)) rfl (by decide) (fun o h => by simp only [tk_isC] at h; omega)) (tk_ea1 (p1 := 231) (tk_ok_gr (j := 16) (dl := 14) (p1 := 228) (ix := 55) (tk_ok_aload_n2 1 1 (by decide +kernel) rfl (by decide)) tk_C2 (by decide +kernel) (by decide) (.inl (tk_at 159 rfl rfl)) rfl (by decide) (fun o h => by simp only [tk_isC] at h; omega)) tk_ea0)) tkm_X3_copyRows ⟨(.inl (tk_at 682 rfl rfl)), tkw_ini3, tkw_c_X3_copyRows, ⟨by decide +kernel, by decide +kernel, by decide +kernel⟩, rfl, rfl, Nat.le_of_ble_eq_true rfl, Nat.le_of_ble_eq_true rfl⟩ tkw_i_X3_copyRows tkw_s_X3_copyRows tk_C3 (by decide +kernel)) (tk_ok_cvv (p1 := 242) (ix := 79) (tk_ea1 (p1 := 238) (tk_ok_gr (j := 17) (dl := 17) (p1 := 235) (ix := 58) (tk_ok_aload_n2 0 0 (by decide +kernel) rfl (by decide)) tk_C2 (by decide +kernel) (by decide) (.inl (tk_at 161 rfl rfl)) rfl (by decide) (fun o h => by simp only [tk_isC] at h; omega)) (tk_ea1 (p1 := 242) (tk_ok_gr (j := 17) (dl := 17) (p1 := 239) (ix := 58) (tk_ok_aload_n2 1 1 (by decide +kernel) rfl (by decide)) tk_C2 (by decide +kernel) (by decide) (.inl (tk_at 161 rfl rfl)) rfl (by decide) (fun o h => by simp only [tk_isC] at h; omega)) tk_ea0)) tkm_X3_copyRows ⟨(.inl (tk_at 682 rfl rfl)), tkw_ini3, tkw_c_X3_copyRows, ⟨by decide +kernel, by decide +kernel, by decide +kernel⟩, rfl, rfl, Nat.le_of_ble_eq_true rfl, Nat.le_of_ble_eq_true rfl⟩ tkw_i_X3_copyRows tkw_s_X3_copyRows tk_C3 (by decide +kernel))))))))))))))))))) (tk_ok_rev (by decide +kernel)))
theorem tkm_X2_takeFrom : tk_Met yX2_takeFrom cX2_takeFrom 2 (tk_rty 9) { frames := 2, cells := 0, slots := 0, locals := 44 } [2, 2] 9 tkF_X2_takeFrom := tk_met (by decide) (by decide +kernel) (by decide) tko_X2_takeFrom
set_option maxRecDepth 20000 in
theorem tkw_c_X2_hasCurrency : Cond.code yX2_hasCurrency cX2_hasCurrency 2 (tk_rty 4) ∈ tk_tbl := tk_at 363 rfl rfl
set_option maxRecDepth 20000 in
theorem tkw_i_X2_hasCurrency : Cond.instanceMethod yX2_hasCurrency ∈ tk_tbl := tk_at 361 rfl rfl
set_option maxRecDepth 20000 in
theorem tkw_s_X2_hasCurrency : Cond.selects yX2_hasCurrency.cls yX2_hasCurrency yX2_hasCurrency ∈ tk_tbl := tk_at 362 rfl rfl
def tkS_X2_hasCurrency : tk_Sm := (tk_rez (tk_ter (tk_and (tk_zge (tk_loc 1)) (tk_clt (tk_loc 1) (tk_gf 2 0 (tk_loc 0)))) (tk_lit 1) (tk_lit 0)))
def tkF_X2_hasCurrency : tk_F := tk_fn [2, 0] tkS_X2_hasCurrency
set_option maxRecDepth 20000 in
set_option maxHeartbeats 4000000 in
theorem tko_X2_hasCurrency : tk_St (cX2_hasCurrency, RX2, 2, { frames := 0, cells := 0, slots := 0, locals := 0 }, none) 4 (tk_ga 0 [2, 0]) [] tkS_X2_hasCurrency 0 0 := (tk_ok_rez (p1 := 17) (tk_ok_ter (T := 12) (F := 16) (tk_ok_and (p1 := 4) (tk_ok_zgeF (p2 := 1) (tgt := 16) (off := 15) (tk_ok_iload_n 1 1 (by decide +kernel) rfl (by decide)) (by decide +kernel) (by decide)) (tk_ok_cltF (p1 := 5) (p2 := 9) (tgt := 16) (off := 7) (tk_ok_iload_n 1 1 (by decide +kernel) rfl (by decide)) (tk_ok_gi (j := 0) (p1 := 6) (ix := 9) (tk_ok_aload_n2 0 0 (by decide +kernel) rfl (by decide)) tk_C2 (by decide +kernel) (by decide) (.inl (tk_at 116 rfl rfl)) rfl) (by decide +kernel) (by decide))) (tk_ok_ego (p1 := 13) (off := 4) (tk_ok_iconst 1 (by decide +kernel) rfl (by decide +kernel)) (by decide +kernel) (by decide)) (tk_ok_iconst 0 (by decide +kernel) rfl (by decide +kernel))) (by decide +kernel))
theorem tkm_X2_hasCurrency : tk_Met yX2_hasCurrency cX2_hasCurrency 2 (tk_rty 4) { frames := 0, cells := 0, slots := 0, locals := 0 } [2, 0] 4 tkF_X2_hasCurrency := tk_met (by decide) (by decide +kernel) (by decide) tko_X2_hasCurrency
set_option maxRecDepth 20000 in
theorem tkw_c_X2_hasTicket : Cond.code yX2_hasTicket cX2_hasTicket 2 (tk_rty 4) ∈ tk_tbl := tk_at 399 rfl rfl
set_option maxRecDepth 20000 in
theorem tkw_i_X2_hasTicket : Cond.instanceMethod yX2_hasTicket ∈ tk_tbl := tk_at 397 rfl rfl
set_option maxRecDepth 20000 in
theorem tkw_s_X2_hasTicket : Cond.selects yX2_hasTicket.cls yX2_hasTicket yX2_hasTicket ∈ tk_tbl := tk_at 398 rfl rfl
def tkS_X2_hasTicket : tk_Sm := (tk_rez (tk_ter (tk_and (tk_zge (tk_loc 1)) (tk_clt (tk_loc 1) (tk_gf 2 1 (tk_loc 0)))) (tk_lit 1) (tk_lit 0)))
def tkF_X2_hasTicket : tk_F := tk_fn [2, 0] tkS_X2_hasTicket
set_option maxRecDepth 20000 in
set_option maxHeartbeats 4000000 in
theorem tko_X2_hasTicket : tk_St (cX2_hasTicket, RX2, 2, { frames := 0, cells := 0, slots := 0, locals := 0 }, none) 4 (tk_ga 0 [2, 0]) [] tkS_X2_hasTicket 0 0 := (tk_ok_rez (p1 := 17) (tk_ok_ter (T := 12) (F := 16) (tk_ok_and (p1 := 4) (tk_ok_zgeF (p2 := 1) (tgt := 16) (off := 15) (tk_ok_iload_n 1 1 (by decide +kernel) rfl (by decide)) (by decide +kernel) (by decide)) (tk_ok_cltF (p1 := 5) (p2 := 9) (tgt := 16) (off := 7) (tk_ok_iload_n 1 1 (by decide +kernel) rfl (by decide)) (tk_ok_gi (j := 1) (p1 := 6) (ix := 61) (tk_ok_aload_n2 0 0 (by decide +kernel) rfl (by decide)) tk_C2 (by decide +kernel) (by decide) (.inl (tk_at 119 rfl rfl)) rfl) (by decide +kernel) (by decide))) (tk_ok_ego (p1 := 13) (off := 4) (tk_ok_iconst 1 (by decide +kernel) rfl (by decide +kernel)) (by decide +kernel) (by decide)) (tk_ok_iconst 0 (by decide +kernel) rfl (by decide +kernel))) (by decide +kernel))
theorem tkm_X2_hasTicket : tk_Met yX2_hasTicket cX2_hasTicket 2 (tk_rty 4) { frames := 0, cells := 0, slots := 0, locals := 0 } [2, 0] 4 tkF_X2_hasTicket := tk_met (by decide) (by decide +kernel) (by decide) tko_X2_hasTicket
set_option maxRecDepth 20000 in
theorem tkw_c_X2_hasClient : Cond.code yX2_hasClient cX2_hasClient 2 (tk_rty 4) ∈ tk_tbl := tk_at 407 rfl rfl
set_option maxRecDepth 20000 in
theorem tkw_i_X2_hasClient : Cond.instanceMethod yX2_hasClient ∈ tk_tbl := tk_at 405 rfl rfl
set_option maxRecDepth 20000 in
theorem tkw_s_X2_hasClient : Cond.selects yX2_hasClient.cls yX2_hasClient yX2_hasClient ∈ tk_tbl := tk_at 406 rfl rfl
def tkS_X2_hasClient : tk_Sm := (tk_rez (tk_ter (tk_and (tk_zge (tk_loc 1)) (tk_clt (tk_loc 1) (tk_gf 2 2 (tk_loc 0)))) (tk_lit 1) (tk_lit 0)))
def tkF_X2_hasClient : tk_F := tk_fn [2, 0] tkS_X2_hasClient
set_option maxRecDepth 20000 in
set_option maxHeartbeats 4000000 in
theorem tko_X2_hasClient : tk_St (cX2_hasClient, RX2, 2, { frames := 0, cells := 0, slots := 0, locals := 0 }, none) 4 (tk_ga 0 [2, 0]) [] tkS_X2_hasClient 0 0 := (tk_ok_rez (p1 := 17) (tk_ok_ter (T := 12) (F := 16) (tk_ok_and (p1 := 4) (tk_ok_zgeF (p2 := 1) (tgt := 16) (off := 15) (tk_ok_iload_n 1 1 (by decide +kernel) rfl (by decide)) (by decide +kernel) (by decide)) (tk_ok_cltF (p1 := 5) (p2 := 9) (tgt := 16) (off := 7) (tk_ok_iload_n 1 1 (by decide +kernel) rfl (by decide)) (tk_ok_gi (j := 2) (p1 := 6) (ix := 64) (tk_ok_aload_n2 0 0 (by decide +kernel) rfl (by decide)) tk_C2 (by decide +kernel) (by decide) (.inl (tk_at 122 rfl rfl)) rfl) (by decide +kernel) (by decide))) (tk_ok_ego (p1 := 13) (off := 4) (tk_ok_iconst 1 (by decide +kernel) rfl (by decide +kernel)) (by decide +kernel) (by decide)) (tk_ok_iconst 0 (by decide +kernel) rfl (by decide +kernel))) (by decide +kernel))
theorem tkm_X2_hasClient : tk_Met yX2_hasClient cX2_hasClient 2 (tk_rty 4) { frames := 0, cells := 0, slots := 0, locals := 0 } [2, 0] 4 tkF_X2_hasClient := tk_met (by decide) (by decide +kernel) (by decide) tko_X2_hasClient
end
