section
/-- a private method of a class that the tables say can be made, by its rows of tables_1 -/
def lw_okq (q : MethodName × Nat) : Prop := (q.1.cls ≠ "java/lang/invoke/MethodHandle" ∧ q.1.cls ≠ "java/lang/invoke/VarHandle") ∧ Cond.instantiable q.1.cls q.2 ∈ tables_1 ∧ Cond.privateMethod q.1 ∈ tables_1 ∧ Cond.instanceMethod q.1 ∈ tables_1
theorem lw_p0 : lw_okq (⟨"UsageDesk$Tree", "addNode", "(II)I"⟩, 7) := ⟨⟨by decide +kernel, by decide +kernel⟩, List.mem_of_getElem? (i := 89) (by decide +kernel), List.mem_of_getElem? (i := 399) (by decide +kernel), List.mem_of_getElem? (i := 400) (by decide +kernel)⟩
theorem lw_p1 : lw_okq (⟨"UsageDesk$Book", "beginsWith", "(II)Z"⟩, 7) := ⟨⟨by decide +kernel, by decide +kernel⟩, List.mem_of_getElem? (i := 51) (by decide +kernel), List.mem_of_getElem? (i := 423) (by decide +kernel), List.mem_of_getElem? (i := 424) (by decide +kernel)⟩
theorem lw_p2 : lw_okq (⟨"UsageDesk$Tree", "askForChildren", "(I)V"⟩, 7) := ⟨⟨by decide +kernel, by decide +kernel⟩, List.mem_of_getElem? (i := 89) (by decide +kernel), List.mem_of_getElem? (i := 431) (by decide +kernel), List.mem_of_getElem? (i := 432) (by decide +kernel)⟩
theorem lw_p3 : lw_okq (⟨"UsageDesk$Tree", "nameChildren", "(II)V"⟩, 7) := ⟨⟨by decide +kernel, by decide +kernel⟩, List.mem_of_getElem? (i := 89) (by decide +kernel), List.mem_of_getElem? (i := 439) (by decide +kernel), List.mem_of_getElem? (i := 440) (by decide +kernel)⟩
theorem lw_p4 : lw_okq (⟨"UsageDesk$Tree", "goDown", "(I)V"⟩, 7) := ⟨⟨by decide +kernel, by decide +kernel⟩, List.mem_of_getElem? (i := 89) (by decide +kernel), List.mem_of_getElem? (i := 443) (by decide +kernel), List.mem_of_getElem? (i := 444) (by decide +kernel)⟩
theorem lw_p5 : lw_okq (⟨"UsageDesk$Melter", "meltsWithKept", "(I)Z"⟩, 13) := ⟨⟨by decide +kernel, by decide +kernel⟩, List.mem_of_getElem? (i := 124) (by decide +kernel), List.mem_of_getElem? (i := 464) (by decide +kernel), List.mem_of_getElem? (i := 465) (by decide +kernel)⟩
theorem lw_p6 : lw_okq (⟨"UsageDesk$Melter", "melt", "(II)V"⟩, 13) := ⟨⟨by decide +kernel, by decide +kernel⟩, List.mem_of_getElem? (i := 124) (by decide +kernel), List.mem_of_getElem? (i := 468) (by decide +kernel), List.mem_of_getElem? (i := 469) (by decide +kernel)⟩
theorem lw_p7 : lw_okq (⟨"UsageDesk$Melter", "addPair", "(II)V"⟩, 13) := ⟨⟨by decide +kernel, by decide +kernel⟩, List.mem_of_getElem? (i := 124) (by decide +kernel), List.mem_of_getElem? (i := 472) (by decide +kernel), List.mem_of_getElem? (i := 473) (by decide +kernel)⟩
theorem lw_p8 : lw_okq (⟨"UsageDesk$Melter", "standing", "(I)I"⟩, 13) := ⟨⟨by decide +kernel, by decide +kernel⟩, List.mem_of_getElem? (i := 124) (by decide +kernel), List.mem_of_getElem? (i := 476) (by decide +kernel), List.mem_of_getElem? (i := 477) (by decide +kernel)⟩
theorem lw_p9 : lw_okq (⟨"UsageDesk$Melter", "join", "(II)V"⟩, 13) := ⟨⟨by decide +kernel, by decide +kernel⟩, List.mem_of_getElem? (i := 124) (by decide +kernel), List.mem_of_getElem? (i := 484) (by decide +kernel), List.mem_of_getElem? (i := 485) (by decide +kernel)⟩
theorem lw_p10 : lw_okq (⟨"UsageDesk$Melter", "takesBindingRow", "()Z"⟩, 13) := ⟨⟨by decide +kernel, by decide +kernel⟩, List.mem_of_getElem? (i := 124) (by decide +kernel), List.mem_of_getElem? (i := 488) (by decide +kernel), List.mem_of_getElem? (i := 489) (by decide +kernel)⟩
theorem lw_p11 : lw_okq (⟨"UsageDesk$Melter", "takesRow", "(I)Z"⟩, 13) := ⟨⟨by decide +kernel, by decide +kernel⟩, List.mem_of_getElem? (i := 124) (by decide +kernel), List.mem_of_getElem? (i := 492) (by decide +kernel), List.mem_of_getElem? (i := 493) (by decide +kernel)⟩
theorem lw_p12 : lw_okq (⟨"UsageDesk$Melter", "shortenWays", "()V"⟩, 13) := ⟨⟨by decide +kernel, by decide +kernel⟩, List.mem_of_getElem? (i := 124) (by decide +kernel), List.mem_of_getElem? (i := 499) (by decide +kernel), List.mem_of_getElem? (i := 500) (by decide +kernel)⟩
theorem lw_p13 : lw_okq (⟨"UsageDesk$Melter", "takeBack", "()V"⟩, 13) := ⟨⟨by decide +kernel, by decide +kernel⟩, List.mem_of_getElem? (i := 124) (by decide +kernel), List.mem_of_getElem? (i := 503) (by decide +kernel), List.mem_of_getElem? (i := 504) (by decide +kernel)⟩
theorem lw_p14 : lw_okq (⟨"UsageDesk$Law", "countRow", "(LUsageDesk$Book;II)V"⟩, 3) := ⟨⟨by decide +kernel, by decide +kernel⟩, List.mem_of_getElem? (i := 170) (by decide +kernel), List.mem_of_getElem? (i := 528) (by decide +kernel), List.mem_of_getElem? (i := 529) (by decide +kernel)⟩
theorem lw_p15 : lw_okq (⟨"UsageDesk$Fewest", "placeFrom", "(II)Z"⟩, 5) := ⟨⟨by decide +kernel, by decide +kernel⟩, List.mem_of_getElem? (i := 191) (by decide +kernel), List.mem_of_getElem? (i := 560) (by decide +kernel), List.mem_of_getElem? (i := 561) (by decide +kernel)⟩
def lw_privs_1 : List (MethodName × Nat) := [(⟨"UsageDesk$Tree", "addNode", "(II)I"⟩, 7), (⟨"UsageDesk$Book", "beginsWith", "(II)Z"⟩, 7), (⟨"UsageDesk$Tree", "askForChildren", "(I)V"⟩, 7), (⟨"UsageDesk$Tree", "nameChildren", "(II)V"⟩, 7), (⟨"UsageDesk$Tree", "goDown", "(I)V"⟩, 7), (⟨"UsageDesk$Melter", "meltsWithKept", "(I)Z"⟩, 13), (⟨"UsageDesk$Melter", "melt", "(II)V"⟩, 13), (⟨"UsageDesk$Melter", "addPair", "(II)V"⟩, 13), (⟨"UsageDesk$Melter", "standing", "(I)I"⟩, 13), (⟨"UsageDesk$Melter", "join", "(II)V"⟩, 13), (⟨"UsageDesk$Melter", "takesBindingRow", "()Z"⟩, 13), (⟨"UsageDesk$Melter", "takesRow", "(I)Z"⟩, 13), (⟨"UsageDesk$Melter", "shortenWays", "()V"⟩, 13), (⟨"UsageDesk$Melter", "takeBack", "()V"⟩, 13), (⟨"UsageDesk$Law", "countRow", "(LUsageDesk$Book;II)V"⟩, 3), (⟨"UsageDesk$Fewest", "placeFrom", "(II)Z"⟩, 5)]
theorem lw_r1 : ∀ q ∈ lw_privs_1, lw_okq q := List.forall_mem_cons.mpr ⟨lw_p0, List.forall_mem_cons.mpr ⟨lw_p1, List.forall_mem_cons.mpr ⟨lw_p2, List.forall_mem_cons.mpr ⟨lw_p3, List.forall_mem_cons.mpr ⟨lw_p4, List.forall_mem_cons.mpr ⟨lw_p5, List.forall_mem_cons.mpr ⟨lw_p6, List.forall_mem_cons.mpr ⟨lw_p7, List.forall_mem_cons.mpr ⟨lw_p8, List.forall_mem_cons.mpr ⟨lw_p9, List.forall_mem_cons.mpr ⟨lw_p10, List.forall_mem_cons.mpr ⟨lw_p11, List.forall_mem_cons.mpr ⟨lw_p12, List.forall_mem_cons.mpr ⟨lw_p13, List.forall_mem_cons.mpr ⟨lw_p14, List.forall_mem_cons.mpr ⟨lw_p15, fun _ h => absurd h List.not_mem_nil⟩⟩⟩⟩⟩⟩⟩⟩⟩⟩⟩⟩⟩⟩⟩⟩
theorem lw_p16 : lw_okq (⟨"UsageDesk$Fewest", "slotInto", "(I)I"⟩, 5) := ⟨⟨by decide +kernel, by decide +kernel⟩, List.mem_of_getElem? (i := 191) (by decide +kernel), List.mem_of_getElem? (i := 564) (by decide +kernel), List.mem_of_getElem? (i := 565) (by decide +kernel)⟩
theorem lw_p17 : lw_okq (⟨"UsageDesk$Fewest", "stateAt", "(I)I"⟩, 5) := ⟨⟨by decide +kernel, by decide +kernel⟩, List.mem_of_getElem? (i := 191) (by decide +kernel), List.mem_of_getElem? (i := 568) (by decide +kernel), List.mem_of_getElem? (i := 569) (by decide +kernel)⟩
theorem lw_p18 : lw_okq (⟨"UsageDesk$Fewest", "placeFree", "(III)Z"⟩, 5) := ⟨⟨by decide +kernel, by decide +kernel⟩, List.mem_of_getElem? (i := 191) (by decide +kernel), List.mem_of_getElem? (i := 576) (by decide +kernel), List.mem_of_getElem? (i := 577) (by decide +kernel)⟩
theorem lw_p19 : lw_okq (⟨"UsageDesk$Fewest", "barredSlots", "()I"⟩, 5) := ⟨⟨by decide +kernel, by decide +kernel⟩, List.mem_of_getElem? (i := 191) (by decide +kernel), List.mem_of_getElem? (i := 580) (by decide +kernel), List.mem_of_getElem? (i := 581) (by decide +kernel)⟩
theorem lw_p20 : lw_okq (⟨"UsageDesk$Fewest", "slotLackedBy", "(I)I"⟩, 5) := ⟨⟨by decide +kernel, by decide +kernel⟩, List.mem_of_getElem? (i := 191) (by decide +kernel), List.mem_of_getElem? (i := 584) (by decide +kernel), List.mem_of_getElem? (i := 585) (by decide +kernel)⟩
theorem lw_p21 : lw_okq (⟨"UsageDesk$Fewest", "isLost", "(II)Z"⟩, 5) := ⟨⟨by decide +kernel, by decide +kernel⟩, List.mem_of_getElem? (i := 191) (by decide +kernel), List.mem_of_getElem? (i := 590) (by decide +kernel), List.mem_of_getElem? (i := 591) (by decide +kernel)⟩
theorem lw_p22 : lw_okq (⟨"UsageDesk", "addBytes", "(I)V"⟩, 11) := ⟨⟨by decide +kernel, by decide +kernel⟩, List.mem_of_getElem? (i := 21) (by decide +kernel), List.mem_of_getElem? (i := 599) (by decide +kernel), List.mem_of_getElem? (i := 600) (by decide +kernel)⟩
theorem lw_p23 : lw_okq (⟨"UsageDesk$Holder", "meet", "(II)V"⟩, 10) := ⟨⟨by decide +kernel, by decide +kernel⟩, List.mem_of_getElem? (i := 250) (by decide +kernel), List.mem_of_getElem? (i := 615) (by decide +kernel), List.mem_of_getElem? (i := 616) (by decide +kernel)⟩
theorem lw_p24 : lw_okq (⟨"UsageDesk$Holder", "closeGroup", "(II)V"⟩, 10) := ⟨⟨by decide +kernel, by decide +kernel⟩, List.mem_of_getElem? (i := 250) (by decide +kernel), List.mem_of_getElem? (i := 619) (by decide +kernel), List.mem_of_getElem? (i := 620) (by decide +kernel)⟩
theorem lw_p25 : lw_okq (⟨"UsageDesk$Holder", "spread", "(II)V"⟩, 10) := ⟨⟨by decide +kernel, by decide +kernel⟩, List.mem_of_getElem? (i := 250) (by decide +kernel), List.mem_of_getElem? (i := 623) (by decide +kernel), List.mem_of_getElem? (i := 624) (by decide +kernel)⟩
theorem lw_p26 : lw_okq (⟨"UsageDesk$Holder", "enterBracket", "(II)V"⟩, 10) := ⟨⟨by decide +kernel, by decide +kernel⟩, List.mem_of_getElem? (i := 250) (by decide +kernel), List.mem_of_getElem? (i := 627) (by decide +kernel), List.mem_of_getElem? (i := 628) (by decide +kernel)⟩
theorem lw_p27 : lw_okq (⟨"UsageDesk$Holder", "breaks", "(II)Z"⟩, 10) := ⟨⟨by decide +kernel, by decide +kernel⟩, List.mem_of_getElem? (i := 250) (by decide +kernel), List.mem_of_getElem? (i := 631) (by decide +kernel), List.mem_of_getElem? (i := 632) (by decide +kernel)⟩
theorem lw_p28 : lw_okq (⟨"UsageDesk$Holder", "writeBreak", "(II)V"⟩, 10) := ⟨⟨by decide +kernel, by decide +kernel⟩, List.mem_of_getElem? (i := 250) (by decide +kernel), List.mem_of_getElem? (i := 641) (by decide +kernel), List.mem_of_getElem? (i := 642) (by decide +kernel)⟩
theorem lw_p29 : lw_okq (⟨"UsageDesk$Mender", "reckonCosts", "()V"⟩, 6) := ⟨⟨by decide +kernel, by decide +kernel⟩, List.mem_of_getElem? (i := 290) (by decide +kernel), List.mem_of_getElem? (i := 662) (by decide +kernel), List.mem_of_getElem? (i := 663) (by decide +kernel)⟩
theorem lw_p30 : lw_okq (⟨"UsageDesk$Mender", "costFrom", "(II)I"⟩, 6) := ⟨⟨by decide +kernel, by decide +kernel⟩, List.mem_of_getElem? (i := 290) (by decide +kernel), List.mem_of_getElem? (i := 667) (by decide +kernel), List.mem_of_getElem? (i := 668) (by decide +kernel)⟩
theorem lw_p31 : lw_okq (⟨"UsageDesk$Mender", "costKeeping", "(II)I"⟩, 6) := ⟨⟨by decide +kernel, by decide +kernel⟩, List.mem_of_getElem? (i := 290) (by decide +kernel), List.mem_of_getElem? (i := 671) (by decide +kernel), List.mem_of_getElem? (i := 672) (by decide +kernel)⟩
def lw_privs_2 : List (MethodName × Nat) := [(⟨"UsageDesk$Fewest", "slotInto", "(I)I"⟩, 5), (⟨"UsageDesk$Fewest", "stateAt", "(I)I"⟩, 5), (⟨"UsageDesk$Fewest", "placeFree", "(III)Z"⟩, 5), (⟨"UsageDesk$Fewest", "barredSlots", "()I"⟩, 5), (⟨"UsageDesk$Fewest", "slotLackedBy", "(I)I"⟩, 5), (⟨"UsageDesk$Fewest", "isLost", "(II)Z"⟩, 5), (⟨"UsageDesk", "addBytes", "(I)V"⟩, 11), (⟨"UsageDesk$Holder", "meet", "(II)V"⟩, 10), (⟨"UsageDesk$Holder", "closeGroup", "(II)V"⟩, 10), (⟨"UsageDesk$Holder", "spread", "(II)V"⟩, 10), (⟨"UsageDesk$Holder", "enterBracket", "(II)V"⟩, 10), (⟨"UsageDesk$Holder", "breaks", "(II)Z"⟩, 10), (⟨"UsageDesk$Holder", "writeBreak", "(II)V"⟩, 10), (⟨"UsageDesk$Mender", "reckonCosts", "()V"⟩, 6), (⟨"UsageDesk$Mender", "costFrom", "(II)I"⟩, 6), (⟨"UsageDesk$Mender", "costKeeping", "(II)I"⟩, 6)]
theorem lw_r2 : ∀ q ∈ lw_privs_2, lw_okq q := List.forall_mem_cons.mpr ⟨lw_p16, List.forall_mem_cons.mpr ⟨lw_p17, List.forall_mem_cons.mpr ⟨lw_p18, List.forall_mem_cons.mpr ⟨lw_p19, List.forall_mem_cons.mpr ⟨lw_p20, List.forall_mem_cons.mpr ⟨lw_p21, List.forall_mem_cons.mpr ⟨lw_p22, List.forall_mem_cons.mpr ⟨lw_p23, List.forall_mem_cons.mpr ⟨lw_p24, List.forall_mem_cons.mpr ⟨lw_p25, List.forall_mem_cons.mpr ⟨lw_p26, List.forall_mem_cons.mpr ⟨lw_p27, List.forall_mem_cons.mpr ⟨lw_p28, List.forall_mem_cons.mpr ⟨lw_p29, List.forall_mem_cons.mpr ⟨lw_p30, List.forall_mem_cons.mpr ⟨lw_p31, fun _ h => absurd h List.not_mem_nil⟩⟩⟩⟩⟩⟩⟩⟩⟩⟩⟩⟩⟩⟩⟩⟩
theorem lw_p32 : lw_okq (⟨"UsageDesk$Mender", "lowerByPutting", "(I)Z"⟩, 6) := ⟨⟨by decide +kernel, by decide +kernel⟩, List.mem_of_getElem? (i := 290) (by decide +kernel), List.mem_of_getElem? (i := 678) (by decide +kernel), List.mem_of_getElem? (i := 679) (by decide +kernel)⟩
theorem lw_p33 : lw_okq (⟨"UsageDesk$Mender", "costPutting", "(III)I"⟩, 6) := ⟨⟨by decide +kernel, by decide +kernel⟩, List.mem_of_getElem? (i := 290) (by decide +kernel), List.mem_of_getElem? (i := 682) (by decide +kernel), List.mem_of_getElem? (i := 683) (by decide +kernel)⟩
theorem lw_p34 : lw_okq (⟨"UsageDesk$Mender", "goCheapestWay", "()V"⟩, 6) := ⟨⟨by decide +kernel, by decide +kernel⟩, List.mem_of_getElem? (i := 290) (by decide +kernel), List.mem_of_getElem? (i := 686) (by decide +kernel), List.mem_of_getElem? (i := 687) (by decide +kernel)⟩
theorem lw_p35 : lw_okq (⟨"UsageDesk$Mender", "goOneOn", "(I)V"⟩, 6) := ⟨⟨by decide +kernel, by decide +kernel⟩, List.mem_of_getElem? (i := 290) (by decide +kernel), List.mem_of_getElem? (i := 690) (by decide +kernel), List.mem_of_getElem? (i := 691) (by decide +kernel)⟩
theorem lw_p36 : lw_okq (⟨"UsageDesk$Mender", "make", "(I)V"⟩, 6) := ⟨⟨by decide +kernel, by decide +kernel⟩, List.mem_of_getElem? (i := 290) (by decide +kernel), List.mem_of_getElem? (i := 694) (by decide +kernel), List.mem_of_getElem? (i := 695) (by decide +kernel)⟩
theorem lw_p37 : lw_okq (⟨"java/lang/Throwable", "fillInStackTrace", "(I)Ljava/lang/Throwable;"⟩, 6) := ⟨⟨by decide +kernel, by decide +kernel⟩, List.mem_of_getElem? (i := 757) (by decide +kernel), List.mem_of_getElem? (i := 755) (by decide +kernel), List.mem_of_getElem? (i := 756) (by decide +kernel)⟩
theorem lw_p38 : lw_okq (⟨"UsageDesk", "checkStep", "(II)V"⟩, 11) := ⟨⟨by decide +kernel, by decide +kernel⟩, List.mem_of_getElem? (i := 21) (by decide +kernel), List.mem_of_getElem? (i := 833) (by decide +kernel), List.mem_of_getElem? (i := 834) (by decide +kernel)⟩
theorem lw_p39 : lw_okq (⟨"UsageDesk$Routine", "endS", "(II)V"⟩, 8) := ⟨⟨by decide +kernel, by decide +kernel⟩, List.mem_of_getElem? (i := 213) (by decide +kernel), List.mem_of_getElem? (i := 868) (by decide +kernel), List.mem_of_getElem? (i := 869) (by decide +kernel)⟩
theorem lw_p40 : lw_okq (⟨"UsageDesk$Routine", "closeBracket", "(II)V"⟩, 8) := ⟨⟨by decide +kernel, by decide +kernel⟩, List.mem_of_getElem? (i := 213) (by decide +kernel), List.mem_of_getElem? (i := 872) (by decide +kernel), List.mem_of_getElem? (i := 873) (by decide +kernel)⟩
theorem lw_p41 : lw_okq (⟨"UsageDesk$Habits", "findLastPlaces", "(I)V"⟩, 4) := ⟨⟨by decide +kernel, by decide +kernel⟩, List.mem_of_getElem? (i := 317) (by decide +kernel), List.mem_of_getElem? (i := 889) (by decide +kernel), List.mem_of_getElem? (i := 890) (by decide +kernel)⟩
theorem lw_p42 : lw_okq (⟨"UsageDesk$Habits", "addRow", "()V"⟩, 4) := ⟨⟨by decide +kernel, by decide +kernel⟩, List.mem_of_getElem? (i := 317) (by decide +kernel), List.mem_of_getElem? (i := 896) (by decide +kernel), List.mem_of_getElem? (i := 897) (by decide +kernel)⟩
theorem lw_p43 : lw_okq (⟨"UsageDesk$Habits", "isRanked", "(I)Z"⟩, 4) := ⟨⟨by decide +kernel, by decide +kernel⟩, List.mem_of_getElem? (i := 317) (by decide +kernel), List.mem_of_getElem? (i := 919) (by decide +kernel), List.mem_of_getElem? (i := 920) (by decide +kernel)⟩
theorem lw_p44 : lw_okq (⟨"UsageDesk$Habits", "countAhead", "(I)I"⟩, 4) := ⟨⟨by decide +kernel, by decide +kernel⟩, List.mem_of_getElem? (i := 317) (by decide +kernel), List.mem_of_getElem? (i := 924) (by decide +kernel), List.mem_of_getElem? (i := 925) (by decide +kernel)⟩
theorem lw_p45 : lw_okq (⟨"UsageDesk$Habits", "isAhead", "(II)Z"⟩, 4) := ⟨⟨by decide +kernel, by decide +kernel⟩, List.mem_of_getElem? (i := 317) (by decide +kernel), List.mem_of_getElem? (i := 928) (by decide +kernel), List.mem_of_getElem? (i := 929) (by decide +kernel)⟩
theorem lw_p46 : lw_okq (⟨"UsageDeskModel", "clearBreak", "()V"⟩, 55) := ⟨⟨by decide +kernel, by decide +kernel⟩, List.mem_of_getElem? (i := 933) (by decide +kernel), List.mem_of_getElem? (i := 939) (by decide +kernel), List.mem_of_getElem? (i := 940) (by decide +kernel)⟩
theorem lw_p47 : lw_okq (⟨"UsageDeskModel", "bad", "(ZI)Z"⟩, 55) := ⟨⟨by decide +kernel, by decide +kernel⟩, List.mem_of_getElem? (i := 933) (by decide +kernel), List.mem_of_getElem? (i := 1120) (by decide +kernel), List.mem_of_getElem? (i := 1121) (by decide +kernel)⟩
def lw_privs_3 : List (MethodName × Nat) := [(⟨"UsageDesk$Mender", "lowerByPutting", "(I)Z"⟩, 6), (⟨"UsageDesk$Mender", "costPutting", "(III)I"⟩, 6), (⟨"UsageDesk$Mender", "goCheapestWay", "()V"⟩, 6), (⟨"UsageDesk$Mender", "goOneOn", "(I)V"⟩, 6), (⟨"UsageDesk$Mender", "make", "(I)V"⟩, 6), (⟨"java/lang/Throwable", "fillInStackTrace", "(I)Ljava/lang/Throwable;"⟩, 6), (⟨"UsageDesk", "checkStep", "(II)V"⟩, 11), (⟨"UsageDesk$Routine", "endS", "(II)V"⟩, 8), (⟨"UsageDesk$Routine", "closeBracket", "(II)V"⟩, 8), (⟨"UsageDesk$Habits", "findLastPlaces", "(I)V"⟩, 4), (⟨"UsageDesk$Habits", "addRow", "()V"⟩, 4), (⟨"UsageDesk$Habits", "isRanked", "(I)Z"⟩, 4), (⟨"UsageDesk$Habits", "countAhead", "(I)I"⟩, 4), (⟨"UsageDesk$Habits", "isAhead", "(II)Z"⟩, 4), (⟨"UsageDeskModel", "clearBreak", "()V"⟩, 55), (⟨"UsageDeskModel", "bad", "(ZI)Z"⟩, 55)]
theorem lw_r3 : ∀ q ∈ lw_privs_3, lw_okq q := List.forall_mem_cons.mpr ⟨lw_p32, List.forall_mem_cons.mpr ⟨lw_p33, List.forall_mem_cons.mpr ⟨lw_p34, List.forall_mem_cons.mpr ⟨lw_p35, List.forall_mem_cons.mpr ⟨lw_p36, List.forall_mem_cons.mpr ⟨lw_p37, List.forall_mem_cons.mpr ⟨lw_p38, List.forall_mem_cons.mpr ⟨lw_p39, List.forall_mem_cons.mpr ⟨lw_p40, List.forall_mem_cons.mpr ⟨lw_p41, List.forall_mem_cons.mpr ⟨lw_p42, List.forall_mem_cons.mpr ⟨lw_p43, List.forall_mem_cons.mpr ⟨lw_p44, List.forall_mem_cons.mpr ⟨lw_p45, List.forall_mem_cons.mpr ⟨lw_p46, List.forall_mem_cons.mpr ⟨lw_p47, fun _ h => absurd h List.not_mem_nil⟩⟩⟩⟩⟩⟩⟩⟩⟩⟩⟩⟩⟩⟩⟩⟩
theorem lw_p48 : lw_okq (⟨"UsageDeskModel", "isRow", "(I)Z"⟩, 55) := ⟨⟨by decide +kernel, by decide +kernel⟩, List.mem_of_getElem? (i := 933) (by decide +kernel), List.mem_of_getElem? (i := 1140) (by decide +kernel), List.mem_of_getElem? (i := 1141) (by decide +kernel)⟩
theorem lw_p49 : lw_okq (⟨"UsageDeskModel", "cutOf", "(I)I"⟩, 55) := ⟨⟨by decide +kernel, by decide +kernel⟩, List.mem_of_getElem? (i := 933) (by decide +kernel), List.mem_of_getElem? (i := 1148) (by decide +kernel), List.mem_of_getElem? (i := 1149) (by decide +kernel)⟩
theorem lw_p50 : lw_okq (⟨"UsageDeskModel", "quarrels", "(II)Z"⟩, 55) := ⟨⟨by decide +kernel, by decide +kernel⟩, List.mem_of_getElem? (i := 933) (by decide +kernel), List.mem_of_getElem? (i := 1152) (by decide +kernel), List.mem_of_getElem? (i := 1153) (by decide +kernel)⟩
theorem lw_p51 : lw_okq (⟨"UsageDeskModel", "isLeftOut", "(I)Z"⟩, 55) := ⟨⟨by decide +kernel, by decide +kernel⟩, List.mem_of_getElem? (i := 933) (by decide +kernel), List.mem_of_getElem? (i := 1156) (by decide +kernel), List.mem_of_getElem? (i := 1157) (by decide +kernel)⟩
theorem lw_p52 : lw_okq (⟨"UsageDeskModel", "tree", "()V"⟩, 55) := ⟨⟨by decide +kernel, by decide +kernel⟩, List.mem_of_getElem? (i := 933) (by decide +kernel), List.mem_of_getElem? (i := 1164) (by decide +kernel), List.mem_of_getElem? (i := 1165) (by decide +kernel)⟩
theorem lw_p53 : lw_okq (⟨"UsageDeskModel", "melts", "(II)V"⟩, 55) := ⟨⟨by decide +kernel, by decide +kernel⟩, List.mem_of_getElem? (i := 933) (by decide +kernel), List.mem_of_getElem? (i := 1168) (by decide +kernel), List.mem_of_getElem? (i := 1169) (by decide +kernel)⟩
theorem lw_p54 : lw_okq (⟨"UsageDeskModel", "leastOf", "(I)I"⟩, 55) := ⟨⟨by decide +kernel, by decide +kernel⟩, List.mem_of_getElem? (i := 933) (by decide +kernel), List.mem_of_getElem? (i := 1172) (by decide +kernel), List.mem_of_getElem? (i := 1173) (by decide +kernel)⟩
theorem lw_p55 : lw_okq (⟨"UsageDeskModel", "sets", "(II)V"⟩, 55) := ⟨⟨by decide +kernel, by decide +kernel⟩, List.mem_of_getElem? (i := 933) (by decide +kernel), List.mem_of_getElem? (i := 1176) (by decide +kernel), List.mem_of_getElem? (i := 1177) (by decide +kernel)⟩
theorem lw_p56 : lw_okq (⟨"UsageDeskModel", "takesWrong", "()Z"⟩, 55) := ⟨⟨by decide +kernel, by decide +kernel⟩, List.mem_of_getElem? (i := 933) (by decide +kernel), List.mem_of_getElem? (i := 1180) (by decide +kernel), List.mem_of_getElem? (i := 1181) (by decide +kernel)⟩
theorem lw_p57 : lw_okq (⟨"UsageDeskModel", "takesBack", "()V"⟩, 55) := ⟨⟨by decide +kernel, by decide +kernel⟩, List.mem_of_getElem? (i := 933) (by decide +kernel), List.mem_of_getElem? (i := 1184) (by decide +kernel), List.mem_of_getElem? (i := 1185) (by decide +kernel)⟩
theorem lw_p58 : lw_okq (⟨"UsageDeskModel", "placeOf", "(II)I"⟩, 55) := ⟨⟨by decide +kernel, by decide +kernel⟩, List.mem_of_getElem? (i := 933) (by decide +kernel), List.mem_of_getElem? (i := 1188) (by decide +kernel), List.mem_of_getElem? (i := 1189) (by decide +kernel)⟩
theorem lw_p59 : lw_okq (⟨"UsageDeskModel", "isStep", "(II)Z"⟩, 55) := ⟨⟨by decide +kernel, by decide +kernel⟩, List.mem_of_getElem? (i := 933) (by decide +kernel), List.mem_of_getElem? (i := 1196) (by decide +kernel), List.mem_of_getElem? (i := 1197) (by decide +kernel)⟩
theorem lw_p60 : lw_okq (⟨"UsageDeskModel", "isWrongTaken", "()Z"⟩, 55) := ⟨⟨by decide +kernel, by decide +kernel⟩, List.mem_of_getElem? (i := 933) (by decide +kernel), List.mem_of_getElem? (i := 1216) (by decide +kernel), List.mem_of_getElem? (i := 1217) (by decide +kernel)⟩
theorem lw_p61 : lw_okq (⟨"UsageDeskModel", "can", "(III)Z"⟩, 55) := ⟨⟨by decide +kernel, by decide +kernel⟩, List.mem_of_getElem? (i := 933) (by decide +kernel), List.mem_of_getElem? (i := 1220) (by decide +kernel), List.mem_of_getElem? (i := 1221) (by decide +kernel)⟩
theorem lw_p62 : lw_okq (⟨"UsageDeskModel", "reads", "(I)I"⟩, 55) := ⟨⟨by decide +kernel, by decide +kernel⟩, List.mem_of_getElem? (i := 933) (by decide +kernel), List.mem_of_getElem? (i := 1232) (by decide +kernel), List.mem_of_getElem? (i := 1233) (by decide +kernel)⟩
theorem lw_p63 : lw_okq (⟨"UsageDeskModel", "now", "()I"⟩, 55) := ⟨⟨by decide +kernel, by decide +kernel⟩, List.mem_of_getElem? (i := 933) (by decide +kernel), List.mem_of_getElem? (i := 1236) (by decide +kernel), List.mem_of_getElem? (i := 1237) (by decide +kernel)⟩
def lw_privs_4 : List (MethodName × Nat) := [(⟨"UsageDeskModel", "isRow", "(I)Z"⟩, 55), (⟨"UsageDeskModel", "cutOf", "(I)I"⟩, 55), (⟨"UsageDeskModel", "quarrels", "(II)Z"⟩, 55), (⟨"UsageDeskModel", "isLeftOut", "(I)Z"⟩, 55), (⟨"UsageDeskModel", "tree", "()V"⟩, 55), (⟨"UsageDeskModel", "melts", "(II)V"⟩, 55), (⟨"UsageDeskModel", "leastOf", "(I)I"⟩, 55), (⟨"UsageDeskModel", "sets", "(II)V"⟩, 55), (⟨"UsageDeskModel", "takesWrong", "()Z"⟩, 55), (⟨"UsageDeskModel", "takesBack", "()V"⟩, 55), (⟨"UsageDeskModel", "placeOf", "(II)I"⟩, 55), (⟨"UsageDeskModel", "isStep", "(II)Z"⟩, 55), (⟨"UsageDeskModel", "isWrongTaken", "()Z"⟩, 55), (⟨"UsageDeskModel", "can", "(III)Z"⟩, 55), (⟨"UsageDeskModel", "reads", "(I)I"⟩, 55), (⟨"UsageDeskModel", "now", "()I"⟩, 55)]
theorem lw_r4 : ∀ q ∈ lw_privs_4, lw_okq q := List.forall_mem_cons.mpr ⟨lw_p48, List.forall_mem_cons.mpr ⟨lw_p49, List.forall_mem_cons.mpr ⟨lw_p50, List.forall_mem_cons.mpr ⟨lw_p51, List.forall_mem_cons.mpr ⟨lw_p52, List.forall_mem_cons.mpr ⟨lw_p53, List.forall_mem_cons.mpr ⟨lw_p54, List.forall_mem_cons.mpr ⟨lw_p55, List.forall_mem_cons.mpr ⟨lw_p56, List.forall_mem_cons.mpr ⟨lw_p57, List.forall_mem_cons.mpr ⟨lw_p58, List.forall_mem_cons.mpr ⟨lw_p59, List.forall_mem_cons.mpr ⟨lw_p60, List.forall_mem_cons.mpr ⟨lw_p61, List.forall_mem_cons.mpr ⟨lw_p62, List.forall_mem_cons.mpr ⟨lw_p63, fun _ h => absurd h List.not_mem_nil⟩⟩⟩⟩⟩⟩⟩⟩⟩⟩⟩⟩⟩⟩⟩⟩
theorem lw_p64 : lw_okq (⟨"UsageDeskModel", "state", "()I"⟩, 55) := ⟨⟨by decide +kernel, by decide +kernel⟩, List.mem_of_getElem? (i := 933) (by decide +kernel), List.mem_of_getElem? (i := 1240) (by decide +kernel), List.mem_of_getElem? (i := 1241) (by decide +kernel)⟩
theorem lw_p65 : lw_okq (⟨"UsageDeskModel", "adds", "(III)V"⟩, 55) := ⟨⟨by decide +kernel, by decide +kernel⟩, List.mem_of_getElem? (i := 933) (by decide +kernel), List.mem_of_getElem? (i := 1244) (by decide +kernel), List.mem_of_getElem? (i := 1245) (by decide +kernel)⟩
theorem lw_p66 : lw_okq (⟨"UsageDeskModel", "bracket", "(I)I"⟩, 55) := ⟨⟨by decide +kernel, by decide +kernel⟩, List.mem_of_getElem? (i := 933) (by decide +kernel), List.mem_of_getElem? (i := 1248) (by decide +kernel), List.mem_of_getElem? (i := 1249) (by decide +kernel)⟩
theorem lw_p67 : lw_okq (⟨"UsageDeskModel", "isNearer", "(II)Z"⟩, 55) := ⟨⟨by decide +kernel, by decide +kernel⟩, List.mem_of_getElem? (i := 933) (by decide +kernel), List.mem_of_getElem? (i := 1257) (by decide +kernel), List.mem_of_getElem? (i := 1258) (by decide +kernel)⟩
theorem lw_p68 : lw_okq (⟨"UsageDeskModel", "closes", "()V"⟩, 55) := ⟨⟨by decide +kernel, by decide +kernel⟩, List.mem_of_getElem? (i := 933) (by decide +kernel), List.mem_of_getElem? (i := 1261) (by decide +kernel), List.mem_of_getElem? (i := 1262) (by decide +kernel)⟩
theorem lw_p69 : lw_okq (⟨"UsageDeskModel", "leads", "(III)Z"⟩, 55) := ⟨⟨by decide +kernel, by decide +kernel⟩, List.mem_of_getElem? (i := 933) (by decide +kernel), List.mem_of_getElem? (i := 1265) (by decide +kernel), List.mem_of_getElem? (i := 1266) (by decide +kernel)⟩
theorem lw_p70 : lw_okq (⟨"UsageDeskModel", "breaksOn", "(I)V"⟩, 55) := ⟨⟨by decide +kernel, by decide +kernel⟩, List.mem_of_getElem? (i := 933) (by decide +kernel), List.mem_of_getElem? (i := 1269) (by decide +kernel), List.mem_of_getElem? (i := 1270) (by decide +kernel)⟩
theorem lw_p71 : lw_okq (⟨"UsageDeskModel", "goesOn", "(II)I"⟩, 55) := ⟨⟨by decide +kernel, by decide +kernel⟩, List.mem_of_getElem? (i := 933) (by decide +kernel), List.mem_of_getElem? (i := 1273) (by decide +kernel), List.mem_of_getElem? (i := 1274) (by decide +kernel)⟩
theorem lw_p72 : lw_okq (⟨"UsageDeskModel", "habits", "()V"⟩, 55) := ⟨⟨by decide +kernel, by decide +kernel⟩, List.mem_of_getElem? (i := 933) (by decide +kernel), List.mem_of_getElem? (i := 1289) (by decide +kernel), List.mem_of_getElem? (i := 1290) (by decide +kernel)⟩
theorem lw_p73 : lw_okq (⟨"UsageDeskModel", "isAhead", "(II)Z"⟩, 55) := ⟨⟨by decide +kernel, by decide +kernel⟩, List.mem_of_getElem? (i := 933) (by decide +kernel), List.mem_of_getElem? (i := 1297) (by decide +kernel), List.mem_of_getElem? (i := 1298) (by decide +kernel)⟩
def lw_privs_5 : List (MethodName × Nat) := [(⟨"UsageDeskModel", "state", "()I"⟩, 55), (⟨"UsageDeskModel", "adds", "(III)V"⟩, 55), (⟨"UsageDeskModel", "bracket", "(I)I"⟩, 55), (⟨"UsageDeskModel", "isNearer", "(II)Z"⟩, 55), (⟨"UsageDeskModel", "closes", "()V"⟩, 55), (⟨"UsageDeskModel", "leads", "(III)Z"⟩, 55), (⟨"UsageDeskModel", "breaksOn", "(I)V"⟩, 55), (⟨"UsageDeskModel", "goesOn", "(II)I"⟩, 55), (⟨"UsageDeskModel", "habits", "()V"⟩, 55), (⟨"UsageDeskModel", "isAhead", "(II)Z"⟩, 55)]
theorem lw_r5 : ∀ q ∈ lw_privs_5, lw_okq q := List.forall_mem_cons.mpr ⟨lw_p64, List.forall_mem_cons.mpr ⟨lw_p65, List.forall_mem_cons.mpr ⟨lw_p66, List.forall_mem_cons.mpr ⟨lw_p67, List.forall_mem_cons.mpr ⟨lw_p68, List.forall_mem_cons.mpr ⟨lw_p69, List.forall_mem_cons.mpr ⟨lw_p70, List.forall_mem_cons.mpr ⟨lw_p71, List.forall_mem_cons.mpr ⟨lw_p72, List.forall_mem_cons.mpr ⟨lw_p73, fun _ h => absurd h List.not_mem_nil⟩⟩⟩⟩⟩⟩⟩⟩⟩⟩
def lw_privs : List (MethodName × Nat) := lw_privs_1 ++ (lw_privs_2 ++ (lw_privs_3 ++ (lw_privs_4 ++ (lw_privs_5))))
def lw_tbl : List Cond := k2_sels lw_privs ++ tables_1
theorem lw_privs_ok : ∀ q ∈ lw_privs, lw_okq q := by
  show ∀ q ∈ lw_privs_1 ++ (lw_privs_2 ++ (lw_privs_3 ++ (lw_privs_4 ++ (lw_privs_5)))), lw_okq q
  exact List.forall_mem_append.mpr ⟨lw_r1, List.forall_mem_append.mpr ⟨lw_r2, List.forall_mem_append.mpr ⟨lw_r3, List.forall_mem_append.mpr ⟨lw_r4, lw_r5⟩⟩⟩⟩
end
section
def RX0 : String := "UsageDesk$Book"
def TX0 : u_T := fun k => match k with
  | 0 => ("UsageDesk$Book", "calls", "[I", true)
  | 1 => ("UsageDesk$Book", "sizes", "[I", true)
  | 2 => ("UsageDesk$Book", "right", "[Z", true)
  | 3 => ("UsageDesk$Book", "there", "[Z", true)
  | 4 => ("UsageDesk$Book", "binding", "[I", true)
  | 5 => ("UsageDesk$Book", "bindingSize", "I", false)
  | _ => ("UsageDesk$Book", "told", "I", false)
def tyX0 : Nat → FieldType := fun k => match k with
  | 0 => .array .int
  | 1 => .array .int
  | 2 => .array .boolean
  | 3 => .array .boolean
  | 4 => .array .int
  | 5 => .int
  | _ => .int
abbrev wsX00 : List Cond := u_ws RX0 TX0 7
theorem nmX0 : ∀ a, a < 7 → ∀ b, b < 7 → a ≠ b → (TX0 a).2.1 ≠ (TX0 b).2.1 := by decide +kernel
theorem tyX0_ok : ∀ k, k < 7 → parseFieldDescriptor (TX0 k).2.2.1 = some (tyX0 k) := by decide +kernel
abbrev cX0_init : ByteArray := prog_2_method_1_code
def yX0_init : MethodName := ⟨RX0, "<init>", "()V"⟩
abbrev cX0_knows : ByteArray := prog_2_method_2_code
def yX0_knows : MethodName := ⟨RX0, "knows", "(I)Z"⟩
abbrev cX0_enter : ByteArray := prog_2_method_3_code
def yX0_enter : MethodName := ⟨RX0, "enter", "(LUsageDesk$Line;Z)I"⟩
abbrev cX0_sizeOf : ByteArray := prog_2_method_4_code
def yX0_sizeOf : MethodName := ⟨RX0, "sizeOf", "(I)I"⟩
abbrev cX0_callAt : ByteArray := prog_2_method_5_code
def yX0_callAt : MethodName := ⟨RX0, "callAt", "(II)I"⟩
abbrev cX0_isRightThere : ByteArray := prog_2_method_6_code
def yX0_isRightThere : MethodName := ⟨RX0, "isRightThere", "(I)Z"⟩
abbrev cX0_isWrongThere : ByteArray := prog_2_method_7_code
def yX0_isWrongThere : MethodName := ⟨RX0, "isWrongThere", "(I)Z"⟩
abbrev cX0_countThere : ByteArray := prog_2_method_8_code
def yX0_countThere : MethodName := ⟨RX0, "countThere", "()I"⟩
abbrev cX0_standingOf : ByteArray := prog_2_method_9_code
def yX0_standingOf : MethodName := ⟨RX0, "standingOf", "(I)I"⟩
abbrev cX0_cutSize : ByteArray := prog_2_method_10_code
def yX0_cutSize : MethodName := ⟨RX0, "cutSize", "(I)I"⟩
abbrev cX0_isLeftOut : ByteArray := prog_2_method_11_code
def yX0_isLeftOut : MethodName := ⟨RX0, "isLeftOut", "(I)Z"⟩
abbrev cX0_gatherBinding : ByteArray := prog_2_method_12_code
def yX0_gatherBinding : MethodName := ⟨RX0, "gatherBinding", "()V"⟩
abbrev cX0_beginsWith : ByteArray := prog_2_method_13_code
def yX0_beginsWith : MethodName := ⟨RX0, "beginsWith", "(II)Z"⟩
def RX1 : String := "UsageDesk$Fewest"
def TX1 : u_T := fun k => match k with
  | 0 => ("UsageDesk$Fewest", "book", "LUsageDesk$Book;", true)
  | 1 => ("UsageDesk$Fewest", "tree", "LUsageDesk$Tree;", true)
  | 2 => ("UsageDesk$Fewest", "next", "[I", true)
  | 3 => ("UsageDesk$Fewest", "stateOf", "[I", true)
  | _ => ("UsageDesk$Fewest", "allowed", "I", false)
def tyX1 : Nat → FieldType := fun k => match k with
  | 0 => .object "UsageDesk$Book"
  | 1 => .object "UsageDesk$Tree"
  | 2 => .array .int
  | 3 => .array .int
  | _ => .int
abbrev wsX10 : List Cond := u_ws RX1 TX1 5
theorem nmX1 : ∀ a, a < 5 → ∀ b, b < 5 → a ≠ b → (TX1 a).2.1 ≠ (TX1 b).2.1 := by decide +kernel
theorem tyX1_ok : ∀ k, k < 5 → parseFieldDescriptor (TX1 k).2.2.1 = some (tyX1 k) := by decide +kernel
abbrev cX1_init : ByteArray := prog_3_method_1_code
def yX1_init : MethodName := ⟨RX1, "<init>", "(LUsageDesk$Book;LUsageDesk$Tree;)V"⟩
abbrev cX1_states : ByteArray := prog_3_method_2_code
def yX1_states : MethodName := ⟨RX1, "states", "()I"⟩
abbrev cX1_placeFrom : ByteArray := prog_3_method_3_code
def yX1_placeFrom : MethodName := ⟨RX1, "placeFrom", "(II)Z"⟩
abbrev cX1_placeFree : ByteArray := prog_3_method_4_code
def yX1_placeFree : MethodName := ⟨RX1, "placeFree", "(III)Z"⟩
abbrev cX1_slotInto : ByteArray := prog_3_method_5_code
def yX1_slotInto : MethodName := ⟨RX1, "slotInto", "(I)I"⟩
abbrev cX1_stateAt : ByteArray := prog_3_method_6_code
def yX1_stateAt : MethodName := ⟨RX1, "stateAt", "(I)I"⟩
abbrev cX1_slotOf : ByteArray := prog_3_method_7_code
def yX1_slotOf : MethodName := ⟨RX1, "slotOf", "(II)I"⟩
abbrev cX1_isLost : ByteArray := prog_3_method_8_code
def yX1_isLost : MethodName := ⟨RX1, "isLost", "(II)Z"⟩
abbrev cX1_barredSlots : ByteArray := prog_3_method_9_code
def yX1_barredSlots : MethodName := ⟨RX1, "barredSlots", "()I"⟩
abbrev cX1_slotLackedBy : ByteArray := prog_3_method_10_code
def yX1_slotLackedBy : MethodName := ⟨RX1, "slotLackedBy", "(I)I"⟩
def RX2 : String := "UsageDesk$Habits"
def TX2 : u_T := fun k => match k with
  | 0 => ("UsageDesk$Habits", "book", "LUsageDesk$Book;", true)
  | 1 => ("UsageDesk$Habits", "have", "[I", true)
  | 2 => ("UsageDesk$Habits", "holds", "[I", true)
  | _ => ("UsageDesk$Habits", "lastPlace", "[I", true)
def tyX2 : Nat → FieldType := fun k => match k with
  | 0 => .object "UsageDesk$Book"
  | 1 => .array .int
  | 2 => .array .int
  | _ => .array .int
abbrev wsX20 : List Cond := u_ws RX2 TX2 4
theorem nmX2 : ∀ a, a < 4 → ∀ b, b < 4 → a ≠ b → (TX2 a).2.1 ≠ (TX2 b).2.1 := by decide +kernel
theorem tyX2_ok : ∀ k, k < 4 → parseFieldDescriptor (TX2 k).2.2.1 = some (tyX2 k) := by decide +kernel
abbrev cX2_init : ByteArray := prog_4_method_1_code
def yX2_init : MethodName := ⟨RX2, "<init>", "(LUsageDesk$Book;)V"⟩
abbrev cX2_having : ByteArray := prog_4_method_2_code
def yX2_having : MethodName := ⟨RX2, "having", "(I)I"⟩
abbrev cX2_holding : ByteArray := prog_4_method_3_code
def yX2_holding : MethodName := ⟨RX2, "holding", "(II)I"⟩
abbrev cX2_survey : ByteArray := prog_4_method_4_code
def yX2_survey : MethodName := ⟨RX2, "survey", "()V"⟩
abbrev cX2_findLastPlaces : ByteArray := prog_4_method_5_code
def yX2_findLastPlaces : MethodName := ⟨RX2, "findLastPlaces", "(I)V"⟩
abbrev cX2_addRow : ByteArray := prog_4_method_6_code
def yX2_addRow : MethodName := ⟨RX2, "addRow", "()V"⟩
abbrev cX2_atRank : ByteArray := prog_4_method_7_code
def yX2_atRank : MethodName := ⟨RX2, "atRank", "(I)I"⟩
abbrev cX2_isRanked : ByteArray := prog_4_method_8_code
def yX2_isRanked : MethodName := ⟨RX2, "isRanked", "(I)Z"⟩
abbrev cX2_countAhead : ByteArray := prog_4_method_9_code
def yX2_countAhead : MethodName := ⟨RX2, "countAhead", "(I)I"⟩
abbrev cX2_isAhead : ByteArray := prog_4_method_10_code
def yX2_isAhead : MethodName := ⟨RX2, "isAhead", "(II)Z"⟩
def RX3 : String := "UsageDesk$Holder"
def TX3 : u_T := fun k => match k with
  | 0 => ("UsageDesk$Holder", "text", "LUsageDesk$Routine;", true)
  | 1 => ("UsageDesk$Holder", "law", "LUsageDesk$Law;", true)
  | 2 => ("UsageDesk$Holder", "pairs", "[I", true)
  | 3 => ("UsageDesk$Holder", "met", "[Z", true)
  | 4 => ("UsageDesk$Holder", "groupStart", "[I", true)
  | 5 => ("UsageDesk$Holder", "groupFrom", "[I", true)
  | 6 => ("UsageDesk$Holder", "groupCall", "[I", true)
  | 7 => ("UsageDesk$Holder", "found", "LUsageDesk$Line;", true)
  | 8 => ("UsageDesk$Holder", "pairSize", "I", false)
  | _ => ("UsageDesk$Holder", "groupSize", "I", false)
def tyX3 : Nat → FieldType := fun k => match k with
  | 0 => .object "UsageDesk$Routine"
  | 1 => .object "UsageDesk$Law"
  | 2 => .array .int
  | 3 => .array .boolean
  | 4 => .array .int
  | 5 => .array .int
  | 6 => .array .int
  | 7 => .object "UsageDesk$Line"
  | 8 => .int
  | _ => .int
abbrev wsX30 : List Cond := u_ws RX3 TX3 10
theorem nmX3 : ∀ a, a < 10 → ∀ b, b < 10 → a ≠ b → (TX3 a).2.1 ≠ (TX3 b).2.1 := by decide +kernel
theorem tyX3_ok : ∀ k, k < 10 → parseFieldDescriptor (TX3 k).2.2.1 = some (tyX3 k) := by decide +kernel
abbrev cX3_init : ByteArray := prog_5_method_1_code
def yX3_init : MethodName := ⟨RX3, "<init>", "(LUsageDesk$Routine;LUsageDesk$Law;)V"⟩
abbrev cX3_findBreak : ByteArray := prog_5_method_2_code
def yX3_findBreak : MethodName := ⟨RX3, "findBreak", "()V"⟩
abbrev cX3_breaks : ByteArray := prog_5_method_3_code
def yX3_breaks : MethodName := ⟨RX3, "breaks", "(II)Z"⟩
abbrev cX3_meet : ByteArray := prog_5_method_4_code
def yX3_meet : MethodName := ⟨RX3, "meet", "(II)V"⟩
abbrev cX3_closeGroup : ByteArray := prog_5_method_5_code
def yX3_closeGroup : MethodName := ⟨RX3, "closeGroup", "(II)V"⟩
abbrev cX3_spread : ByteArray := prog_5_method_6_code
def yX3_spread : MethodName := ⟨RX3, "spread", "(II)V"⟩
abbrev cX3_enterBracket : ByteArray := prog_5_method_7_code
def yX3_enterBracket : MethodName := ⟨RX3, "enterBracket", "(II)V"⟩
abbrev cX3_writeBreak : ByteArray := prog_5_method_8_code
def yX3_writeBreak : MethodName := ⟨RX3, "writeBreak", "(II)V"⟩
def RX4 : String := "UsageDesk$Law"
def TX4 : u_T := fun k => match k with
  | 0 => ("UsageDesk$Law", "next", "[I", true)
  | 1 => ("UsageDesk$Law", "times", "[I", true)
  | _ => ("UsageDesk$Law", "states", "I", false)
def tyX4 : Nat → FieldType := fun k => match k with
  | 0 => .array .int
  | 1 => .array .int
  | _ => .int
abbrev wsX40 : List Cond := u_ws RX4 TX4 3
theorem nmX4 : ∀ a, a < 3 → ∀ b, b < 3 → a ≠ b → (TX4 a).2.1 ≠ (TX4 b).2.1 := by decide +kernel
theorem tyX4_ok : ∀ k, k < 3 → parseFieldDescriptor (TX4 k).2.2.1 = some (tyX4 k) := by decide +kernel
abbrev cX4_init : ByteArray := prog_6_method_1_code
def yX4_init : MethodName := ⟨RX4, "<init>", "()V"⟩
abbrev cX4_clear : ByteArray := prog_6_method_2_code
def yX4_clear : MethodName := ⟨RX4, "clear", "(I)V"⟩
abbrev cX4_hasState : ByteArray := prog_6_method_3_code
def yX4_hasState : MethodName := ⟨RX4, "hasState", "(I)Z"⟩
abbrev cX4_setStep : ByteArray := prog_6_method_4_code
def yX4_setStep : MethodName := ⟨RX4, "setStep", "(III)V"⟩
abbrev cX4_after : ByteArray := prog_6_method_5_code
def yX4_after : MethodName := ⟨RX4, "after", "(II)I"⟩
abbrev cX4_timesOver : ByteArray := prog_6_method_6_code
def yX4_timesOver : MethodName := ⟨RX4, "timesOver", "(II)I"⟩
abbrev cX4_countOver : ByteArray := prog_6_method_7_code
def yX4_countOver : MethodName := ⟨RX4, "countOver", "(LUsageDesk$Book;LUsageDesk$Tree;)V"⟩
abbrev cX4_countRow : ByteArray := prog_6_method_8_code
def yX4_countRow : MethodName := ⟨RX4, "countRow", "(LUsageDesk$Book;II)V"⟩
abbrev cX4_countSteps : ByteArray := prog_6_method_9_code
def yX4_countSteps : MethodName := ⟨RX4, "countSteps", "()I"⟩
abbrev cX4_stepsBelow : ByteArray := prog_6_method_10_code
def yX4_stepsBelow : MethodName := ⟨RX4, "stepsBelow", "(I)I"⟩
def RX5 : String := "UsageDesk$Line"
def TX5 : u_T := fun k => match k with
  | 0 => ("UsageDesk$Line", "cells", "[I", true)
  | _ => ("UsageDesk$Line", "size", "I", false)
def tyX5 : Nat → FieldType := fun k => match k with
  | 0 => .array .int
  | _ => .int
abbrev wsX50 : List Cond := u_ws RX5 TX5 2
theorem nmX5 : ∀ a, a < 2 → ∀ b, b < 2 → a ≠ b → (TX5 a).2.1 ≠ (TX5 b).2.1 := by decide +kernel
theorem tyX5_ok : ∀ k, k < 2 → parseFieldDescriptor (TX5 k).2.2.1 = some (tyX5 k) := by decide +kernel
abbrev cX5_init : ByteArray := prog_7_method_1_code
def yX5_init : MethodName := ⟨RX5, "<init>", "(I)V"⟩
abbrev cX5_append : ByteArray := prog_7_method_2_code
def yX5_append : MethodName := ⟨RX5, "append", "(I)Z"⟩
abbrev cX5_at : ByteArray := prog_7_method_3_code
def yX5_at : MethodName := ⟨RX5, "at", "(I)I"⟩
abbrev cX5_turnRound : ByteArray := prog_7_method_4_code
def yX5_turnRound : MethodName := ⟨RX5, "turnRound", "()V"⟩
def RX6 : String := "UsageDesk$Melter"
def TX6 : u_T := fun k => match k with
  | 0 => ("UsageDesk$Melter", "book", "LUsageDesk$Book;", true)
  | 1 => ("UsageDesk$Melter", "tree", "LUsageDesk$Tree;", true)
  | 2 => ("UsageDesk$Melter", "into", "[I", true)
  | 3 => ("UsageDesk$Melter", "kept", "[I", true)
  | 4 => ("UsageDesk$Melter", "stateOf", "[I", true)
  | 5 => ("UsageDesk$Melter", "pairLeft", "[I", true)
  | 6 => ("UsageDesk$Melter", "pairRight", "[I", true)
  | 7 => ("UsageDesk$Melter", "meltedNodes", "[I", true)
  | 8 => ("UsageDesk$Melter", "changedSlots", "[I", true)
  | 9 => ("UsageDesk$Melter", "keptSize", "I", false)
  | 10 => ("UsageDesk$Melter", "pairSize", "I", false)
  | 11 => ("UsageDesk$Melter", "meltedSize", "I", false)
  | _ => ("UsageDesk$Melter", "changedSize", "I", false)
def tyX6 : Nat → FieldType := fun k => match k with
  | 0 => .object "UsageDesk$Book"
  | 1 => .object "UsageDesk$Tree"
  | 2 => .array .int
  | 3 => .array .int
  | 4 => .array .int
  | 5 => .array .int
  | 6 => .array .int
  | 7 => .array .int
  | 8 => .array .int
  | 9 => .int
  | 10 => .int
  | 11 => .int
  | _ => .int
abbrev wsX60 : List Cond := u_ws RX6 TX6 13
theorem nmX6 : ∀ a, a < 13 → ∀ b, b < 13 → a ≠ b → (TX6 a).2.1 ≠ (TX6 b).2.1 := by decide +kernel
theorem tyX6_ok : ∀ k, k < 13 → parseFieldDescriptor (TX6 k).2.2.1 = some (tyX6 k) := by decide +kernel
abbrev cX6_init : ByteArray := prog_8_method_1_code
def yX6_init : MethodName := ⟨RX6, "<init>", "(LUsageDesk$Book;LUsageDesk$Tree;)V"⟩
abbrev cX6_meltAll : ByteArray := prog_8_method_2_code
def yX6_meltAll : MethodName := ⟨RX6, "meltAll", "()Z"⟩
abbrev cX6_writeInto : ByteArray := prog_8_method_3_code
def yX6_writeInto : MethodName := ⟨RX6, "writeInto", "(LUsageDesk$Law;)V"⟩
abbrev cX6_meltsWithKept : ByteArray := prog_8_method_4_code
def yX6_meltsWithKept : MethodName := ⟨RX6, "meltsWithKept", "(I)Z"⟩
abbrev cX6_melt : ByteArray := prog_8_method_5_code
def yX6_melt : MethodName := ⟨RX6, "melt", "(II)V"⟩
abbrev cX6_addPair : ByteArray := prog_8_method_6_code
def yX6_addPair : MethodName := ⟨RX6, "addPair", "(II)V"⟩
abbrev cX6_join : ByteArray := prog_8_method_7_code
def yX6_join : MethodName := ⟨RX6, "join", "(II)V"⟩
abbrev cX6_takeBack : ByteArray := prog_8_method_8_code
def yX6_takeBack : MethodName := ⟨RX6, "takeBack", "()V"⟩
abbrev cX6_shortenWays : ByteArray := prog_8_method_9_code
def yX6_shortenWays : MethodName := ⟨RX6, "shortenWays", "()V"⟩
abbrev cX6_standing : ByteArray := prog_8_method_10_code
def yX6_standing : MethodName := ⟨RX6, "standing", "(I)I"⟩
abbrev cX6_takesBindingRow : ByteArray := prog_8_method_11_code
def yX6_takesBindingRow : MethodName := ⟨RX6, "takesBindingRow", "()Z"⟩
abbrev cX6_takesRow : ByteArray := prog_8_method_12_code
def yX6_takesRow : MethodName := ⟨RX6, "takesRow", "(I)Z"⟩
def RX7 : String := "UsageDesk$Mender"
def TX7 : u_T := fun k => match k with
  | 0 => ("UsageDesk$Mender", "hand", "LUsageDesk$Line;", true)
  | 1 => ("UsageDesk$Mender", "law", "LUsageDesk$Law;", true)
  | 2 => ("UsageDesk$Mender", "costs", "[I", true)
  | 3 => ("UsageDesk$Mender", "made", "LUsageDesk$Line;", true)
  | 4 => ("UsageDesk$Mender", "place", "I", false)
  | _ => ("UsageDesk$Mender", "state", "I", false)
def tyX7 : Nat → FieldType := fun k => match k with
  | 0 => .object "UsageDesk$Line"
  | 1 => .object "UsageDesk$Law"
  | 2 => .array .int
  | 3 => .object "UsageDesk$Line"
  | 4 => .int
  | _ => .int
abbrev wsX70 : List Cond := u_ws RX7 TX7 6
theorem nmX7 : ∀ a, a < 6 → ∀ b, b < 6 → a ≠ b → (TX7 a).2.1 ≠ (TX7 b).2.1 := by decide +kernel
theorem tyX7_ok : ∀ k, k < 6 → parseFieldDescriptor (TX7 k).2.2.1 = some (tyX7 k) := by decide +kernel
abbrev cX7_init : ByteArray := prog_9_method_1_code
def yX7_init : MethodName := ⟨RX7, "<init>", "(LUsageDesk$Line;LUsageDesk$Law;)V"⟩
abbrev cX7_mendHand : ByteArray := prog_9_method_2_code
def yX7_mendHand : MethodName := ⟨RX7, "mendHand", "()I"⟩
abbrev cX7_costFrom : ByteArray := prog_9_method_3_code
def yX7_costFrom : MethodName := ⟨RX7, "costFrom", "(II)I"⟩
abbrev cX7_reckonCosts : ByteArray := prog_9_method_4_code
def yX7_reckonCosts : MethodName := ⟨RX7, "reckonCosts", "()V"⟩
abbrev cX7_costKeeping : ByteArray := prog_9_method_5_code
def yX7_costKeeping : MethodName := ⟨RX7, "costKeeping", "(II)I"⟩
abbrev cX7_costPutting : ByteArray := prog_9_method_6_code
def yX7_costPutting : MethodName := ⟨RX7, "costPutting", "(III)I"⟩
abbrev cX7_lowerByPutting : ByteArray := prog_9_method_7_code
def yX7_lowerByPutting : MethodName := ⟨RX7, "lowerByPutting", "(I)Z"⟩
abbrev cX7_goCheapestWay : ByteArray := prog_9_method_8_code
def yX7_goCheapestWay : MethodName := ⟨RX7, "goCheapestWay", "()V"⟩
abbrev cX7_goOneOn : ByteArray := prog_9_method_9_code
def yX7_goOneOn : MethodName := ⟨RX7, "goOneOn", "(I)V"⟩
abbrev cX7_make : ByteArray := prog_9_method_10_code
def yX7_make : MethodName := ⟨RX7, "make", "(I)V"⟩
def RX8 : String := "UsageDesk$Routine"
def TX8 : u_T := fun k => match k with
  | 0 => ("UsageDesk$Routine", "text", "[I", true)
  | 1 => ("UsageDesk$Routine", "sEnd", "[I", true)
  | 2 => ("UsageDesk$Routine", "partner", "[I", true)
  | 3 => ("UsageDesk$Routine", "behind", "[I", true)
  | 4 => ("UsageDesk$Routine", "repeated", "[Z", true)
  | 5 => ("UsageDesk$Routine", "openAt", "[I", true)
  | 6 => ("UsageDesk$Routine", "latestStart", "[I", true)
  | _ => ("UsageDesk$Routine", "size", "I", false)
def tyX8 : Nat → FieldType := fun k => match k with
  | 0 => .array .int
  | 1 => .array .int
  | 2 => .array .int
  | 3 => .array .int
  | 4 => .array .boolean
  | 5 => .array .int
  | 6 => .array .int
  | _ => .int
abbrev wsX80 : List Cond := u_ws RX8 TX8 8
theorem nmX8 : ∀ a, a < 8 → ∀ b, b < 8 → a ≠ b → (TX8 a).2.1 ≠ (TX8 b).2.1 := by decide +kernel
theorem tyX8_ok : ∀ k, k < 8 → parseFieldDescriptor (TX8 k).2.2.1 = some (tyX8 k) := by decide +kernel
abbrev cX8_init : ByteArray := prog_10_method_1_code
def yX8_init : MethodName := ⟨RX8, "<init>", "()V"⟩
abbrev cX8_faultIn : ByteArray := prog_10_method_2_code
def yX8_faultIn : MethodName := ⟨RX8, "faultIn", "([II)I"⟩
abbrev cX8_mayStand : ByteArray := prog_10_method_3_code
def yX8_mayStand : MethodName := ⟨RX8, "mayStand", "(IIZ)Z"⟩
abbrev cX8_replaceBy : ByteArray := prog_10_method_4_code
def yX8_replaceBy : MethodName := ⟨RX8, "replaceBy", "([II)V"⟩
abbrev cX8_endS : ByteArray := prog_10_method_5_code
def yX8_endS : MethodName := ⟨RX8, "endS", "(II)V"⟩
abbrev cX8_closeBracket : ByteArray := prog_10_method_6_code
def yX8_closeBracket : MethodName := ⟨RX8, "closeBracket", "(II)V"⟩
abbrev cX8_callAt : ByteArray := prog_10_method_7_code
def yX8_callAt : MethodName := ⟨RX8, "callAt", "(I)I"⟩
def RX9 : String := "UsageDesk$Tree"
def TX9 : u_T := fun k => match k with
  | 0 => ("UsageDesk$Tree", "book", "LUsageDesk$Book;", true)
  | 1 => ("UsageDesk$Tree", "child", "[I", true)
  | 2 => ("UsageDesk$Tree", "parent", "[I", true)
  | 3 => ("UsageDesk$Tree", "lastCall", "[I", true)
  | 4 => ("UsageDesk$Tree", "cut", "[I", true)
  | 5 => ("UsageDesk$Tree", "reached", "[I", true)
  | _ => ("UsageDesk$Tree", "size", "I", false)
def tyX9 : Nat → FieldType := fun k => match k with
  | 0 => .object "UsageDesk$Book"
  | 1 => .array .int
  | 2 => .array .int
  | 3 => .array .int
  | 4 => .array .int
  | 5 => .array .int
  | _ => .int
abbrev wsX90 : List Cond := u_ws RX9 TX9 7
theorem nmX9 : ∀ a, a < 7 → ∀ b, b < 7 → a ≠ b → (TX9 a).2.1 ≠ (TX9 b).2.1 := by decide +kernel
theorem tyX9_ok : ∀ k, k < 7 → parseFieldDescriptor (TX9 k).2.2.1 = some (tyX9 k) := by decide +kernel
abbrev cX9_init : ByteArray := prog_11_method_1_code
def yX9_init : MethodName := ⟨RX9, "<init>", "(LUsageDesk$Book;)V"⟩
abbrev cX9_childOf : ByteArray := prog_11_method_2_code
def yX9_childOf : MethodName := ⟨RX9, "childOf", "(II)I"⟩
abbrev cX9_grow : ByteArray := prog_11_method_3_code
def yX9_grow : MethodName := ⟨RX9, "grow", "()V"⟩
abbrev cX9_addNode : ByteArray := prog_11_method_4_code
def yX9_addNode : MethodName := ⟨RX9, "addNode", "(II)I"⟩
abbrev cX9_askForChildren : ByteArray := prog_11_method_5_code
def yX9_askForChildren : MethodName := ⟨RX9, "askForChildren", "(I)V"⟩
abbrev cX9_nameChildren : ByteArray := prog_11_method_6_code
def yX9_nameChildren : MethodName := ⟨RX9, "nameChildren", "(II)V"⟩
abbrev cX9_goDown : ByteArray := prog_11_method_7_code
def yX9_goDown : MethodName := ⟨RX9, "goDown", "(I)V"⟩
def RX10 : String := "UsageDesk"
def TX10 : u_T := fun k => match k with
  | 0 => ("UsageDesk", "inHand", "LUsageDesk$Line;", true)
  | 1 => ("UsageDesk", "book", "LUsageDesk$Book;", true)
  | 2 => ("UsageDesk", "tree", "LUsageDesk$Tree;", true)
  | 3 => ("UsageDesk", "melter", "LUsageDesk$Melter;", true)
  | 4 => ("UsageDesk", "law", "LUsageDesk$Law;", true)
  | 5 => ("UsageDesk", "fewest", "LUsageDesk$Fewest;", true)
  | 6 => ("UsageDesk", "tape", "LUsageDesk$Line;", true)
  | 7 => ("UsageDesk", "latest", "LUsageDesk$Routine;", true)
  | 8 => ("UsageDesk", "holder", "LUsageDesk$Holder;", true)
  | 9 => ("UsageDesk", "mender", "LUsageDesk$Mender;", true)
  | _ => ("UsageDesk", "habits", "LUsageDesk$Habits;", true)
def tyX10 : Nat → FieldType := fun k => match k with
  | 0 => .object "UsageDesk$Line"
  | 1 => .object "UsageDesk$Book"
  | 2 => .object "UsageDesk$Tree"
  | 3 => .object "UsageDesk$Melter"
  | 4 => .object "UsageDesk$Law"
  | 5 => .object "UsageDesk$Fewest"
  | 6 => .object "UsageDesk$Line"
  | 7 => .object "UsageDesk$Routine"
  | 8 => .object "UsageDesk$Holder"
  | 9 => .object "UsageDesk$Mender"
  | _ => .object "UsageDesk$Habits"
abbrev wsX100 : List Cond := u_ws RX10 TX10 11
theorem nmX10 : ∀ a, a < 11 → ∀ b, b < 11 → a ≠ b → (TX10 a).2.1 ≠ (TX10 b).2.1 := by decide +kernel
theorem tyX10_ok : ∀ k, k < 11 → parseFieldDescriptor (TX10 k).2.2.1 = some (tyX10 k) := by decide +kernel
abbrev cX10_init : ByteArray := prog_1_method_1_code
def yX10_init : MethodName := ⟨RX10, "<init>", "()V"⟩
abbrev cX10_push : ByteArray := prog_1_method_2_code
def yX10_push : MethodName := ⟨RX10, "push", "(I)I"⟩
abbrev cX10_empty : ByteArray := prog_1_method_3_code
def yX10_empty : MethodName := ⟨RX10, "empty", "()I"⟩
abbrev cX10_hand : ByteArray := prog_1_method_4_code
def yX10_hand : MethodName := ⟨RX10, "hand", "(I)I"⟩
abbrev cX10_row : ByteArray := prog_1_method_5_code
def yX10_row : MethodName := ⟨RX10, "row", "(Z)I"⟩
abbrev cX10_drop : ByteArray := prog_1_method_6_code
def yX10_drop : MethodName := ⟨RX10, "drop", "(I)Z"⟩
abbrev cX10_told : ByteArray := prog_1_method_7_code
def yX10_told : MethodName := ⟨RX10, "told", "(II)I"⟩
abbrev cX10_learn : ByteArray := prog_1_method_8_code
def yX10_learn : MethodName := ⟨RX10, "learn", "()I"⟩
abbrev cX10_step : ByteArray := prog_1_method_9_code
def yX10_step : MethodName := ⟨RX10, "step", "(II)I"⟩
abbrev cX10_seen : ByteArray := prog_1_method_10_code
def yX10_seen : MethodName := ⟨RX10, "seen", "(II)I"⟩
abbrev cX10_doubt : ByteArray := prog_1_method_11_code
def yX10_doubt : MethodName := ⟨RX10, "doubt", "(I)I"⟩
abbrev cX10_takes : ByteArray := prog_1_method_12_code
def yX10_takes : MethodName := ⟨RX10, "takes", "()I"⟩
abbrev cX10_least : ByteArray := prog_1_method_13_code
def yX10_least : MethodName := ⟨RX10, "least", "()I"⟩
abbrev cX10_feed : ByteArray := prog_1_method_14_code
def yX10_feed : MethodName := ⟨RX10, "feed", "(IIIII)I"⟩
abbrev cX10_routine : ByteArray := prog_1_method_15_code
def yX10_routine : MethodName := ⟨RX10, "routine", "(I)I"⟩
abbrev cX10_hold : ByteArray := prog_1_method_16_code
def yX10_hold : MethodName := ⟨RX10, "hold", "()I"⟩
abbrev cX10_broken : ByteArray := prog_1_method_17_code
def yX10_broken : MethodName := ⟨RX10, "broken", "(I)I"⟩
abbrev cX10_mend : ByteArray := prog_1_method_18_code
def yX10_mend : MethodName := ⟨RX10, "mend", "()I"⟩
abbrev cX10_habit : ByteArray := prog_1_method_19_code
def yX10_habit : MethodName := ⟨RX10, "habit", "(III)I"⟩
abbrev cX10_rank : ByteArray := prog_1_method_20_code
def yX10_rank : MethodName := ⟨RX10, "rank", "(II)I"⟩
abbrev cX10_count : ByteArray := prog_1_method_21_code
def yX10_count : MethodName := ⟨RX10, "count", "(I)I"⟩
abbrev cX10_checkStep : ByteArray := prog_1_method_22_code
def yX10_checkStep : MethodName := ⟨RX10, "checkStep", "(II)V"⟩
abbrev cX10_addBytes : ByteArray := prog_1_method_23_code
def yX10_addBytes : MethodName := ⟨RX10, "addBytes", "(I)V"⟩
abbrev cX10_isCall : ByteArray := prog_1_method_24_code
def yX10_isCall : MethodName := ⟨RX10, "isCall", "(I)Z"⟩
def RX11 : String := "UsageDeskModel"
def TX11 : u_T := fun k => match k with
  | 0 => ("UsageDeskModel", "thrown", "I", false)
  | 1 => ("UsageDeskModel", "hand", "[I", true)
  | 2 => ("UsageDeskModel", "handMany", "I", false)
  | 3 => ("UsageDeskModel", "rowCalls", "[I", true)
  | 4 => ("UsageDeskModel", "rowMany", "[I", true)
  | 5 => ("UsageDeskModel", "isRight", "[Z", true)
  | 6 => ("UsageDeskModel", "isThere", "[Z", true)
  | 7 => ("UsageDeskModel", "rows", "I", false)
  | 8 => ("UsageDeskModel", "cut", "[I", true)
  | 9 => ("UsageDeskModel", "asks", "[Z", true)
  | 10 => ("UsageDeskModel", "child", "[I", true)
  | 11 => ("UsageDeskModel", "above", "[I", true)
  | 12 => ("UsageDeskModel", "by", "[I", true)
  | 13 => ("UsageDeskModel", "nodes", "I", false)
  | 14 => ("UsageDeskModel", "raw", "[I", true)
  | 15 => ("UsageDeskModel", "rawOf", "[I", true)
  | 16 => ("UsageDeskModel", "into", "[I", true)
  | 17 => ("UsageDeskModel", "steps", "[I", true)
  | 18 => ("UsageDeskModel", "pastAt", "[I", true)
  | 19 => ("UsageDeskModel", "pastWas", "[I", true)
  | 20 => ("UsageDeskModel", "past", "I", false)
  | 21 => ("UsageDeskModel", "waitOne", "[I", true)
  | 22 => ("UsageDeskModel", "waitOther", "[I", true)
  | 23 => ("UsageDeskModel", "lawStep", "[I", true)
  | 24 => ("UsageDeskModel", "lawSeen", "[I", true)
  | 25 => ("UsageDeskModel", "lawMany", "I", false)
  | 26 => ("UsageDeskModel", "kept", "[I", true)
  | 27 => ("UsageDeskModel", "stateOf", "[I", true)
  | 28 => ("UsageDeskModel", "goes", "[I", true)
  | 29 => ("UsageDeskModel", "tape", "[B", true)
  | 30 => ("UsageDeskModel", "taped", "I", false)
  | 31 => ("UsageDeskModel", "size", "I", false)
  | 32 => ("UsageDeskModel", "at", "I", false)
  | 33 => ("UsageDeskModel", "open", "I", false)
  | 34 => ("UsageDeskModel", "edgeFrom", "[I", true)
  | 35 => ("UsageDeskModel", "edgeTo", "[I", true)
  | 36 => ("UsageDeskModel", "edgeBy", "[I", true)
  | 37 => ("UsageDeskModel", "edges", "I", false)
  | 38 => ("UsageDeskModel", "states", "I", false)
  | 39 => ("UsageDeskModel", "end", "I", false)
  | 40 => ("UsageDeskModel", "newFrom", "[I", true)
  | 41 => ("UsageDeskModel", "newTo", "[I", true)
  | 42 => ("UsageDeskModel", "newBy", "[I", true)
  | 43 => ("UsageDeskModel", "newEdges", "I", false)
  | 44 => ("UsageDeskModel", "newStates", "I", false)
  | 45 => ("UsageDeskModel", "isWrong", "Z", false)
  | 46 => ("UsageDeskModel", "far", "[I", true)
  | 47 => ("UsageDeskModel", "in", "[Z", true)
  | 48 => ("UsageDeskModel", "next", "[Z", true)
  | 49 => ("UsageDeskModel", "broken", "[I", false)
  | 50 => ("UsageDeskModel", "brokenMany", "I", false)
  | 51 => ("UsageDeskModel", "costs", "[I", true)
  | 52 => ("UsageDeskModel", "made", "[I", true)
  | 53 => ("UsageDeskModel", "with", "[I", true)
  | _ => ("UsageDeskModel", "holds", "[I", true)
def tyX11 : Nat → FieldType := fun k => match k with
  | 0 => .int
  | 1 => .array .int
  | 2 => .int
  | 3 => .array .int
  | 4 => .array .int
  | 5 => .array .boolean
  | 6 => .array .boolean
  | 7 => .int
  | 8 => .array .int
  | 9 => .array .boolean
  | 10 => .array .int
  | 11 => .array .int
  | 12 => .array .int
  | 13 => .int
  | 14 => .array .int
  | 15 => .array .int
  | 16 => .array .int
  | 17 => .array .int
  | 18 => .array .int
  | 19 => .array .int
  | 20 => .int
  | 21 => .array .int
  | 22 => .array .int
  | 23 => .array .int
  | 24 => .array .int
  | 25 => .int
  | 26 => .array .int
  | 27 => .array .int
  | 28 => .array .int
  | 29 => .array .byte
  | 30 => .int
  | 31 => .int
  | 32 => .int
  | 33 => .int
  | 34 => .array .int
  | 35 => .array .int
  | 36 => .array .int
  | 37 => .int
  | 38 => .int
  | 39 => .int
  | 40 => .array .int
  | 41 => .array .int
  | 42 => .array .int
  | 43 => .int
  | 44 => .int
  | 45 => .boolean
  | 46 => .array .int
  | 47 => .array .boolean
  | 48 => .array .boolean
  | 49 => .array .int
  | 50 => .int
  | 51 => .array .int
  | 52 => .array .int
  | 53 => .array .int
  | _ => .array .int
abbrev wsX110 : List Cond := u_ws RX11 TX11 55
theorem nmX11 : ∀ a, a < 55 → ∀ b, b < 55 → a ≠ b → (TX11 a).2.1 ≠ (TX11 b).2.1 := by decide +kernel
theorem tyX11_ok : ∀ k, k < 55 → parseFieldDescriptor (TX11 k).2.2.1 = some (tyX11 k) := by decide +kernel
abbrev cX11_init : ByteArray := prog_13_method_1_code
def yX11_init : MethodName := ⟨RX11, "<init>", "()V"⟩
abbrev cX11_thrown : ByteArray := prog_13_method_2_code
def yX11_thrown : MethodName := ⟨RX11, "thrown", "()I"⟩
abbrev cX11_bad : ByteArray := prog_13_method_3_code
def yX11_bad : MethodName := ⟨RX11, "bad", "(ZI)Z"⟩
abbrev cX11_isCall : ByteArray := prog_13_method_4_code
def yX11_isCall : MethodName := ⟨RX11, "isCall", "(I)Z"⟩
abbrev cX11_push : ByteArray := prog_13_method_5_code
def yX11_push : MethodName := ⟨RX11, "push", "(I)I"⟩
abbrev cX11_empty : ByteArray := prog_13_method_6_code
def yX11_empty : MethodName := ⟨RX11, "empty", "()I"⟩
abbrev cX11_hand : ByteArray := prog_13_method_7_code
def yX11_hand : MethodName := ⟨RX11, "hand", "(I)I"⟩
abbrev cX11_row : ByteArray := prog_13_method_8_code
def yX11_row : MethodName := ⟨RX11, "row", "(Z)I"⟩
abbrev cX11_isRow : ByteArray := prog_13_method_9_code
def yX11_isRow : MethodName := ⟨RX11, "isRow", "(I)Z"⟩
abbrev cX11_drop : ByteArray := prog_13_method_10_code
def yX11_drop : MethodName := ⟨RX11, "drop", "(I)Z"⟩
abbrev cX11_quarrels : ByteArray := prog_13_method_11_code
def yX11_quarrels : MethodName := ⟨RX11, "quarrels", "(II)Z"⟩
abbrev cX11_cutOf : ByteArray := prog_13_method_12_code
def yX11_cutOf : MethodName := ⟨RX11, "cutOf", "(I)I"⟩
abbrev cX11_isLeftOut : ByteArray := prog_13_method_13_code
def yX11_isLeftOut : MethodName := ⟨RX11, "isLeftOut", "(I)Z"⟩
abbrev cX11_told : ByteArray := prog_13_method_14_code
def yX11_told : MethodName := ⟨RX11, "told", "(II)I"⟩
abbrev cX11_tree : ByteArray := prog_13_method_15_code
def yX11_tree : MethodName := ⟨RX11, "tree", "()V"⟩
abbrev cX11_leastOf : ByteArray := prog_13_method_16_code
def yX11_leastOf : MethodName := ⟨RX11, "leastOf", "(I)I"⟩
abbrev cX11_sets : ByteArray := prog_13_method_17_code
def yX11_sets : MethodName := ⟨RX11, "sets", "(II)V"⟩
abbrev cX11_takesBack : ByteArray := prog_13_method_18_code
def yX11_takesBack : MethodName := ⟨RX11, "takesBack", "()V"⟩
abbrev cX11_melts : ByteArray := prog_13_method_19_code
def yX11_melts : MethodName := ⟨RX11, "melts", "(II)V"⟩
abbrev cX11_takesWrong : ByteArray := prog_13_method_20_code
def yX11_takesWrong : MethodName := ⟨RX11, "takesWrong", "()Z"⟩
abbrev cX11_learn : ByteArray := prog_13_method_21_code
def yX11_learn : MethodName := ⟨RX11, "learn", "()I"⟩
abbrev cX11_placeOf : ByteArray := prog_13_method_22_code
def yX11_placeOf : MethodName := ⟨RX11, "placeOf", "(II)I"⟩
abbrev cX11_isStep : ByteArray := prog_13_method_23_code
def yX11_isStep : MethodName := ⟨RX11, "isStep", "(II)Z"⟩
abbrev cX11_step : ByteArray := prog_13_method_24_code
def yX11_step : MethodName := ⟨RX11, "step", "(II)I"⟩
abbrev cX11_seen : ByteArray := prog_13_method_25_code
def yX11_seen : MethodName := ⟨RX11, "seen", "(II)I"⟩
abbrev cX11_doubt : ByteArray := prog_13_method_26_code
def yX11_doubt : MethodName := ⟨RX11, "doubt", "(I)I"⟩
abbrev cX11_takes : ByteArray := prog_13_method_27_code
def yX11_takes : MethodName := ⟨RX11, "takes", "()I"⟩
abbrev cX11_least : ByteArray := prog_13_method_28_code
def yX11_least : MethodName := ⟨RX11, "least", "()I"⟩
abbrev cX11_isWrongTaken : ByteArray := prog_13_method_29_code
def yX11_isWrongTaken : MethodName := ⟨RX11, "isWrongTaken", "()Z"⟩
abbrev cX11_can : ByteArray := prog_13_method_30_code
def yX11_can : MethodName := ⟨RX11, "can", "(III)Z"⟩
abbrev cX11_feed : ByteArray := prog_13_method_31_code
def yX11_feed : MethodName := ⟨RX11, "feed", "(IIIII)I"⟩
abbrev cX11_now : ByteArray := prog_13_method_32_code
def yX11_now : MethodName := ⟨RX11, "now", "()I"⟩
abbrev cX11_adds : ByteArray := prog_13_method_33_code
def yX11_adds : MethodName := ⟨RX11, "adds", "(III)V"⟩
abbrev cX11_state : ByteArray := prog_13_method_34_code
def yX11_state : MethodName := ⟨RX11, "state", "()I"⟩
abbrev cX11_reads : ByteArray := prog_13_method_35_code
def yX11_reads : MethodName := ⟨RX11, "reads", "(I)I"⟩
abbrev cX11_bracket : ByteArray := prog_13_method_36_code
def yX11_bracket : MethodName := ⟨RX11, "bracket", "(I)I"⟩
abbrev cX11_routine : ByteArray := prog_13_method_37_code
def yX11_routine : MethodName := ⟨RX11, "routine", "(I)I"⟩
abbrev cX11_clearBreak : ByteArray := prog_13_method_38_code
def yX11_clearBreak : MethodName := ⟨RX11, "clearBreak", "()V"⟩
abbrev cX11_hold : ByteArray := prog_13_method_39_code
def yX11_hold : MethodName := ⟨RX11, "hold", "()I"⟩
abbrev cX11_isNearer : ByteArray := prog_13_method_40_code
def yX11_isNearer : MethodName := ⟨RX11, "isNearer", "(II)Z"⟩
abbrev cX11_closes : ByteArray := prog_13_method_41_code
def yX11_closes : MethodName := ⟨RX11, "closes", "()V"⟩
abbrev cX11_leads : ByteArray := prog_13_method_42_code
def yX11_leads : MethodName := ⟨RX11, "leads", "(III)Z"⟩
abbrev cX11_goesOn : ByteArray := prog_13_method_43_code
def yX11_goesOn : MethodName := ⟨RX11, "goesOn", "(II)I"⟩
abbrev cX11_breaksOn : ByteArray := prog_13_method_44_code
def yX11_breaksOn : MethodName := ⟨RX11, "breaksOn", "(I)V"⟩
abbrev cX11_broken : ByteArray := prog_13_method_45_code
def yX11_broken : MethodName := ⟨RX11, "broken", "(I)I"⟩
abbrev cX11_mend : ByteArray := prog_13_method_46_code
def yX11_mend : MethodName := ⟨RX11, "mend", "()I"⟩
abbrev cX11_habits : ByteArray := prog_13_method_47_code
def yX11_habits : MethodName := ⟨RX11, "habits", "()V"⟩
abbrev cX11_habit : ByteArray := prog_13_method_48_code
def yX11_habit : MethodName := ⟨RX11, "habit", "(III)I"⟩
abbrev cX11_isAhead : ByteArray := prog_13_method_49_code
def yX11_isAhead : MethodName := ⟨RX11, "isAhead", "(II)Z"⟩
abbrev cX11_rank : ByteArray := prog_13_method_50_code
def yX11_rank : MethodName := ⟨RX11, "rank", "(II)I"⟩
abbrev cX11_count : ByteArray := prog_13_method_51_code
def yX11_count : MethodName := ⟨RX11, "count", "(I)I"⟩
def RJ9 : String := "java/lang/Math"
def TJ9 : u_T := fun k => match k with
  | _ => ("", "", "", false)
abbrev cJ9_max_7cf53 : ByteArray := prog_17_method_65_code
def yJ9_max_7cf53 : MethodName := ⟨RJ9, "max", "(II)I"⟩
abbrev cJ9_min_7cf53 : ByteArray := prog_17_method_69_code
def yJ9_min_7cf53 : MethodName := ⟨RJ9, "min", "(II)I"⟩
def RJ0 : String := "java/lang/String"
def TJ0 : u_T := fun k => match k with
  | _ => ("", "", "", false)
def RJ7 : String := "java/util/Arrays"
def TJ7 : u_T := fun k => match k with
  | _ => ("", "", "", false)
abbrev cJ7_fill_53178 : ByteArray := prog_21_method_103_code
def yJ7_fill_53178 : MethodName := ⟨RJ7, "fill", "([II)V"⟩
def RL : String := "UsageDeskLaw"
abbrev cL_push : ByteArray := method_3_code
def yL_push : MethodName := ⟨RL, "push", "(LUsageDesk;I[J)I"⟩
abbrev cL_drop : ByteArray := method_4_code
def yL_drop : MethodName := ⟨RL, "drop", "(LUsageDesk;I[J)I"⟩
abbrev cL_told : ByteArray := method_5_code
def yL_told : MethodName := ⟨RL, "told", "(LUsageDesk;II[J)I"⟩
abbrev cL_step : ByteArray := method_6_code
def yL_step : MethodName := ⟨RL, "step", "(LUsageDesk;II[J)I"⟩
abbrev cL_seen : ByteArray := method_7_code
def yL_seen : MethodName := ⟨RL, "seen", "(LUsageDesk;II[J)I"⟩
abbrev cL_routine : ByteArray := method_8_code
def yL_routine : MethodName := ⟨RL, "routine", "(LUsageDesk;I[J)I"⟩
abbrev cL_habit : ByteArray := method_9_code
def yL_habit : MethodName := ⟨RL, "habit", "(LUsageDesk;III[J)I"⟩
abbrev cL_rank : ByteArray := method_10_code
def yL_rank : MethodName := ⟨RL, "rank", "(LUsageDesk;II[J)I"⟩
abbrev cL_law : ByteArray := code
def yL_law : MethodName := ⟨RL, "law", "([I)Z"⟩
abbrev vwCl : List vw_C := [(RX0, TX0, 7), (RX1, TX1, 5), (RX2, TX2, 4), (RX3, TX3, 10), (RX4, TX4, 3), (RX5, TX5, 2), (RX6, TX6, 13), (RX7, TX7, 6), (RX8, TX8, 8), (RX9, TX9, 7), (RX10, TX10, 11), (RX11, TX11, 55)]
end
section
/-! BASE: a world of fixed shape, its numbers as one function M (cell, place) of whole numbers; an abstract machine K over it; a row of K an instruction. -/
/-- the tables' words that every method may be given -/
def tbg : List Cond := lw_tbl.filter goodWord
abbrev V : Type := Int ⊕ Nat
abbrev Mem : Type := Nat → Int → Int
abbrev Lv : Type := List (Nat × V)
/-- a cell's shape: an array (type, length), or an object (class, its fields: a cell or a number) -/
abbrev Sh : Type := (FieldType × Nat) ⊕ (Nat × List (Option Nat))
def up (M : Mem) (k : Nat) (i v : Int) : Mem := fun k' i' => if k' = k ∧ i' = i then v else M k' i'
abbrev inR (z : Int) : Prop := -2147483648 ≤ z ∧ z < 2147483648
def Rg (M : Mem) : Prop := ∀ k i, inR (M k i)
def vv (ad : Nat → Nat) : V → Value
  | .inl z => .int (Int32.ofInt z)
  | .inr k => .ref (ad k)
def cA (cI cZ cB : ClassId) : FieldType → ClassId
  | .boolean => cZ
  | .byte => cB
  | _ => cI
def fv (ad : Nat → Nat) (M : Mem) (k : Nat) (j : Nat) : Option Nat → Value
  | some r => .ref (ad r)
  | none => .int (Int32.ofInt (M k j))
def cellOf (cI cZ cB : ClassId) (ad : Nat → Nat) (M : Mem) (k : Nat) : Sh → va_E
  | .inl (ty, n) => .inl (cA cI cZ cB ty, n, .inl (fun j => Int32.ofInt (M k j)))
  | .inr (ci, fs) => .inr (ci, fs.mapIdx (fun j f => fv ad M k j f))
def wsOf (sh : Nat → Sh) (N : Nat) (cI cZ cB : ClassId) (ad : Nat → Nat) (M : Mem) : va_W := (List.range N).map (fun k => (ad k, cellOf cI cZ cB ad M k (sh k)))
abbrev tyl (cI cZ cB : ClassId) : List (ClassId × FieldType) := [(cI, .int), (cZ, .boolean), (cB, .byte)]
theorem wsOf_at {sh : Nat → Sh} {N : Nat} {cI cZ cB : ClassId} {ad : Nat → Nat} {M : Mem} {k : Nat} (hk : k < N) : (wsOf sh N cI cZ cB ad M)[k]? = some (ad k, cellOf cI cZ cB ad M k (sh k)) := by
  simp [wsOf, hk]
theorem wsOf_len {sh : Nat → Sh} {N : Nat} {cI cZ cB : ClassId} {ad : Nat → Nat} {M : Mem} : (wsOf sh N cI cZ cB ad M).length = N := by simp [wsOf]
theorem wsOf_set {sh : Nat → Sh} {N : Nat} {cI cZ cB : ClassId} {ad : Nat → Nat} {M M' : Mem} {k : Nat} {e : va_E} (hk : k < N) (he : cellOf cI cZ cB ad M' k (sh k) = e) (ho : ∀ j, j ≠ k → M' j = M j) : (wsOf sh N cI cZ cB ad M).set k (ad k, e) = wsOf sh N cI cZ cB ad M' := by
  apply List.ext_getElem?
  intro j
  by_cases hj : j = k
  · subst hj
    rw [List.getElem?_set_self (by rw [wsOf_len]; exact hk), wsOf_at hk, he]
  · rw [List.getElem?_set_ne (Ne.symm hj)]
    by_cases hjN : j < N
    · rw [wsOf_at hjN, wsOf_at hjN]
      have := ho j hj
      congr 2
      unfold cellOf fv
      rw [this]
    · rw [List.getElem?_eq_none (by rw [wsOf_len]; omega), List.getElem?_eq_none (by rw [wsOf_len]; omega)]
theorem up_ne {M : Mem} {k : Nat} {i v : Int} {j : Nat} (h : j ≠ k) : up M k i v j = M j := by
  funext x; simp [up, h]
theorem up_same {M : Mem} {k : Nat} {i v : Int} : up M k i v k i = v := by simp [up]
theorem up_at {M : Mem} {k : Nat} {i v : Int} {j : Int} : up M k i v k j = if j = i then v else M k j := by simp [up]
theorem Rg.up {M : Mem} (h : Rg M) {k : Nat} {i v : Int} (hv : inR v) : Rg (up M k i v) := by
  intro k' i'; unfold Jvm.Pilot.CUsageDeskLaw_law_r3463_3d926f.up; split
  · exact hv
  · exact h _ _
/-! locals -/
def lk : Lv → Nat → Option V
  | [], _ => none
  | (j, w) :: t, i => match Nat.beq j i with
    | true => some w
    | false => lk t i
def rml : Lv → Nat → Lv
  | [], _ => []
  | (j, w) :: t, i => match Nat.beq j i with
    | true => rml t i
    | false => (j, w) :: rml t i
def inl : Lv → Nat → V → Lv
  | [], i, v => [(i, v)]
  | (j, w) :: t, i, v => match Nat.blt i j with
    | true => (i, v) :: (j, w) :: t
    | false => (j, w) :: inl t i v
def sl (lv : Lv) (i : Nat) (v : V) : Lv := inl (rml lv i) i v
theorem lk_mem : ∀ {lv : Lv} {i : Nat} {v : V}, lk lv i = some v → (i, v) ∈ lv
  | [], i, v, h => by simp [lk] at h
  | (j, w) :: t, i, v, h => by
    unfold lk at h
    cases hb : Nat.beq j i with
    | true => rw [hb] at h; simp at h; have := Nat.eq_of_beq_eq_true hb; subst this; subst h; exact List.mem_cons_self
    | false => rw [hb] at h; exact List.mem_cons_of_mem _ (lk_mem h)
theorem rml_mem : ∀ {lv : Lv} {i : Nat} {q : Nat × V}, q ∈ rml lv i → q ∈ lv ∧ q.1 ≠ i
  | [], i, q, h => by simp [rml] at h
  | (j, w) :: t, i, q, h => by
    unfold rml at h
    cases hb : Nat.beq j i with
    | true => rw [hb] at h; have := rml_mem (lv := t) h; exact ⟨List.mem_cons_of_mem _ this.1, this.2⟩
    | false =>
      rw [hb] at h
      rcases List.mem_cons.mp h with h | h
      · subst h; exact ⟨List.mem_cons_self, Nat.ne_of_beq_eq_false hb⟩
      · have := rml_mem (lv := t) h; exact ⟨List.mem_cons_of_mem _ this.1, this.2⟩
theorem inl_mem : ∀ {lv : Lv} {i : Nat} {v : V} {q : Nat × V}, q ∈ inl lv i v → q = (i, v) ∨ q ∈ lv
  | [], i, v, q, h => by simp [inl] at h; exact Or.inl h
  | (j, w) :: t, i, v, q, h => by
    unfold inl at h
    cases hb : Nat.blt i j with
    | true =>
      rw [hb] at h
      rcases List.mem_cons.mp h with h | h
      · exact Or.inl h
      · exact Or.inr h
    | false =>
      rw [hb] at h
      rcases List.mem_cons.mp h with h | h
      · exact Or.inr (by rw [h]; exact List.mem_cons_self)
      · rcases inl_mem (lv := t) h with h | h
        · exact Or.inl h
        · exact Or.inr (List.mem_cons_of_mem _ h)
theorem sl_mem {lv : Lv} {i : Nat} {v : V} {q : Nat × V} (h : q ∈ sl lv i v) : q = (i, v) ∨ (q ∈ lv ∧ q.1 ≠ i) := by
  rcases inl_mem h with h | h
  · exact Or.inl h
  · exact Or.inr (rml_mem h)
def lm (ad : Nat → Nat) (lv : Lv) : List (Nat × Value) := lv.map (fun q => (q.1, vv ad q.2))
theorem lm_at {ad : Nat → Nat} {ls : Array Slot} {n : Nat} {lv : Lv} (h : lv_has ls n (lm ad lv)) {i : Nat} {v : V} (hl : lk lv i = some v) : ls[i]? = some (.val (vv ad v)) :=
  h.2.2 (i, vv ad v) (List.mem_map.mpr ⟨(i, v), lk_mem hl, rfl⟩)
theorem lv_mono {ls : Array Slot} {n : Nat} {l l' : List (Nat × Value)} (h : lv_has ls n l) (hs : ∀ q ∈ l', q ∈ l) : lv_has ls n l' := ⟨h.1, h.2.1, fun q hq => h.2.2 q (hs q hq)⟩
theorem vv_cat (ad : Nat → Nat) (v : V) : (vv ad v).category = 1 := by cases v <;> rfl
theorem lm_store {ad : Nat → Nat} {ls : Array Slot} {n i : Nat} {lv : Lv} {v : V} (h : lv_has ls n ((i, vv ad v) :: (lm ad lv).filter (fun q => !(q.1 == i) && !(q.1 + 1 == i && q.2.category == 2)))) : lv_has ls n (lm ad (sl lv i v)) := by
  refine lv_mono h fun q hq => ?_
  obtain ⟨q0, h0, rfl⟩ := List.mem_map.mp hq
  rcases sl_mem h0 with h1 | ⟨h1, h2⟩
  · subst h1; exact List.mem_cons_self
  · refine List.mem_cons_of_mem _ (List.mem_filter.mpr ⟨List.mem_map.mpr ⟨q0, h1, rfl⟩, ?_⟩)
    simp [vv_cat, h2]
theorem lm_sub {ad : Nat → Nat} {ls : Array Slot} {n : Nat} {lv lv' : Lv} (h : lv_has ls n (lm ad lv)) (hs : lv'.all (fun q => match lk lv q.1 with | some _ => true | none => false) = true) (hv : ∀ q ∈ lv', lk lv q.1 = some q.2) : lv_has ls n (lm ad lv') := by
  refine lv_mono h fun q hq => ?_
  obtain ⟨q0, h0, rfl⟩ := List.mem_map.mp hq
  exact List.mem_map.mpr ⟨q0, lk_mem (hv q0 h0), rfl⟩
end
section
/-! the abstract machine over a world, and its rows -/
abbrev Kt : Type := Nat → Lv → List V → Mem → Prop
def wd (sh : Nat → Sh) (N : Nat) (D : va_G) (cI cZ cB : ClassId) (ad : Nat → Nat) (A : Nat → Prop) (M : Mem) (t : State) : Prop := Rg M ∧ va_P D vwCl (wsOf sh N cI cZ cB ad M) t.heap ∧ va_K D vwCl (tyl cI cZ cB) t ∧ va_D A (wsOf sh N cI cZ cB ad M)
def qq (ret : Option FieldType) (post : Int → Mem → Prop) (B : Mem → State → Prop) (A : Nat → Prop) : Array Value → State → Outcome → State → Prop := match ret with
  | none => va_Qv (fun u => post 0 u) B A
  | some _ => va_Qi (fun r u => ∃ z, r = Int32.ofInt z ∧ inR z ∧ post z u) B A
def KK (sh : Nat → Sh) (N nL : Nat) (R : Room) (p : Program) (l : Launch) (e : Env) (s : State) (m : MethodId) (args : Array Value) (below : List Frame) (meth : Method) (c : Code) (D : va_G) (cI cZ cB : ClassId) (ad : Nat → Nat) (A : Nat → Prop) (ce sn : Nat) (Q : State → Prop) : Kt := fun pc lv stk M =>
  Rg M → ∀ (H : Heap) (locs : List Loc) (ls : Array Slot), va_P D vwCl (wsOf sh N cI cZ cB ad M) H → va_S A s.heap H locs → lv_has ls nL (lm ad lv) → W p l e R s m args below meth c H locs ce sn Q (F0 m pc ls (stk.map (vv ad)))
def Ctx (sh : Nat → Sh) (N : Nat) (own : String) (cc : ByteArray) (nL : Nat) (ret : Option FieldType) (R : Room) (post : Int → Mem → Prop) (K : Kt) : Prop :=
  ∃ (p : Program) (l : Launch) (e : Env) (s : State) (m : MethodId) (args : Array Value) (below : List Frame) (meth : Method) (c : Code) (D : va_G) (cI cZ cB : ClassId) (ad : Nat → Nat) (A : Nat → Prop),
    (p.tables.exec = Jvm.exec ∧ c.code = cc ∧ c.maxLocals = nL ∧ s.vm.findClass own = some m.cls ∧ (∀ w ∈ tbg, w.before args s = true)) ∧ (meth.sig.returnType = ret ∧ meth.locks = false) ∧ va_K D vwCl (tyl cI cZ cB) s ∧ (∀ q, s.heap.size ≤ q → A q) ∧ (∀ M, va_D A (wsOf sh N cI cZ cB ad M)) ∧
    K = KK sh N nL R p l e s m args below meth c D cI cZ cB ad A 0 0 (MQ below (qq ret post (wd sh N D cI cZ cB ad A) A) args s 0 0 A)
section ROWS
variable {sh : Nat → Sh} {N : Nat} {own : String} {cc : ByteArray} {nL : Nat} {ret : Option FieldType} {R : Room} {post : Int → Mem → Prop} {K : Kt}
variable {pc : Nat} {lv : Lv} {stk : List V} {M : Mem}
theorem k_sub (C : Ctx sh N own cc nL ret R post K) (lv' : Lv) (hv : ∀ q ∈ lv', lk lv q.1 = some q.2) (kk : K pc lv' stk M) : K pc lv stk M := by
  obtain ⟨p, l, e, s, m, args, below, meth, c, D, cI, cZ, cB, ad, A, ⟨hx, hb, hml, hown, hts⟩, ⟨hr, hlk⟩, hK, hA, hD, rfl⟩ := C
  intro hM H locs ls hP hS hl
  refine kk hM H locs ls hP hS (lv_mono hl fun q hq => ?_)
  obtain ⟨q0, h0, rfl⟩ := List.mem_map.mp hq
  exact List.mem_map.mpr ⟨q0, lk_mem (hv q0 h0), rfl⟩
theorem k_rg (C : Ctx sh N own cc nL ret R post K) (kk : Rg M → K pc lv stk M) : K pc lv stk M := by
  obtain ⟨p, l, e, s, m, args, below, meth, c, D, cI, cZ, cB, ad, A, ⟨hx, hb, hml, hown, hts⟩, ⟨hr, hlk⟩, hK, hA, hD, rfl⟩ := C
  intro hM
  exact kk hM hM
theorem k_iconst (C : Ctx sh N own cc nL ret R post K) {n : Int} (hd : decode cc pc = .ok (.iconst n, 1)) (kk : K (pc + 1) lv (.inl n :: stk) M) : K pc lv stk M := by
  obtain ⟨p, l, e, s, m, args, below, meth, c, D, cI, cZ, cB, ad, A, ⟨hx, hb, hml, hown, hts⟩, ⟨hr, hlk⟩, hK, hA, hD, rfl⟩ := C
  intro hM H locs ls hP hS hl
  exact lv_iconst hx hb hd rfl (kk hM H locs ls hP hS hl)
theorem k_bipush (C : Ctx sh N own cc nL ret R post K) {n : Int} (hd : decode cc pc = .ok (.bipush n, 2)) (hv : (Int8.ofInt n).toInt32 = Int32.ofInt n) (kk : K (pc + 2) lv (.inl n :: stk) M) : K pc lv stk M := by
  obtain ⟨p, l, e, s, m, args, below, meth, c, D, cI, cZ, cB, ad, A, ⟨hx, hb, hml, hown, hts⟩, ⟨hr, hlk⟩, hK, hA, hD, rfl⟩ := C
  intro hM H locs ls hP hS hl
  exact lv_bipush hx hb hd hv (kk hM H locs ls hP hS hl)
theorem k_sipush (C : Ctx sh N own cc nL ret R post K) {n : Int} (hd : decode cc pc = .ok (.sipush n, 3)) (hv : (Int16.ofInt n).toInt32 = Int32.ofInt n) (kk : K (pc + 3) lv (.inl n :: stk) M) : K pc lv stk M := by
  obtain ⟨p, l, e, s, m, args, below, meth, c, D, cI, cZ, cB, ad, A, ⟨hx, hb, hml, hown, hts⟩, ⟨hr, hlk⟩, hK, hA, hD, rfl⟩ := C
  intro hM H locs ls hP hS hl
  exact lv_sipush hx hb hd hv (kk hM H locs ls hP hS hl)
theorem k_iload_n (C : Ctx sh N own cc nL ret R post K) {k : Fin 4} {i : Nat} {z : Int} (hd : decode cc pc = .ok (.iload_n k, 1)) (hi : (k : Nat) = i) (hl' : lk lv i = some (.inl z)) (kk : K (pc + 1) lv (.inl z :: stk) M) : K pc lv stk M := by
  obtain ⟨p, l, e, s, m, args, below, meth, c, D, cI, cZ, cB, ad, A, ⟨hx, hb, hml, hown, hts⟩, ⟨hr, hlk⟩, hK, hA, hD, rfl⟩ := C
  intro hM H locs ls hP hS hl
  exact lv_iload_n hx hb hd hi (lm_at hl hl') (kk hM H locs ls hP hS hl)
theorem k_iload (C : Ctx sh N own cc nL ret R post K) {i : Nat} {z : Int} (hd : decode cc pc = .ok (.iload i, 2)) (hl' : lk lv i = some (.inl z)) (kk : K (pc + 2) lv (.inl z :: stk) M) : K pc lv stk M := by
  obtain ⟨p, l, e, s, m, args, below, meth, c, D, cI, cZ, cB, ad, A, ⟨hx, hb, hml, hown, hts⟩, ⟨hr, hlk⟩, hK, hA, hD, rfl⟩ := C
  intro hM H locs ls hP hS hl
  exact lv_iload hx hb hd (lm_at hl hl') (kk hM H locs ls hP hS hl)
theorem k_aload_n (C : Ctx sh N own cc nL ret R post K) {k : Fin 4} {i : Nat} {z : Nat} (hd : decode cc pc = .ok (.aload_n k, 1)) (hi : (k : Nat) = i) (hl' : lk lv i = some (.inr z)) (kk : K (pc + 1) lv (.inr z :: stk) M) : K pc lv stk M := by
  obtain ⟨p, l, e, s, m, args, below, meth, c, D, cI, cZ, cB, ad, A, ⟨hx, hb, hml, hown, hts⟩, ⟨hr, hlk⟩, hK, hA, hD, rfl⟩ := C
  intro hM H locs ls hP hS hl
  exact lv_aload_n hx hb hd hi (lm_at hl hl') (kk hM H locs ls hP hS hl)
theorem k_aload (C : Ctx sh N own cc nL ret R post K) {i : Nat} {z : Nat} (hd : decode cc pc = .ok (.aload i, 2)) (hl' : lk lv i = some (.inr z)) (kk : K (pc + 2) lv (.inr z :: stk) M) : K pc lv stk M := by
  obtain ⟨p, l, e, s, m, args, below, meth, c, D, cI, cZ, cB, ad, A, ⟨hx, hb, hml, hown, hts⟩, ⟨hr, hlk⟩, hK, hA, hD, rfl⟩ := C
  intro hM H locs ls hP hS hl
  exact lv_aload hx hb hd (lm_at hl hl') (kk hM H locs ls hP hS hl)
theorem k_istore_n (C : Ctx sh N own cc nL ret R post K) {k : Fin 4} {i : Nat} {z : Int} (hd : decode cc pc = .ok (.istore_n k, 1)) (hi : (k : Nat) = i) (hn : i < nL) (kk : K (pc + 1) (sl lv i (.inl z)) stk M) : K pc lv (.inl z :: stk) M := by
  obtain ⟨p, l, e, s, m, args, below, meth, c, D, cI, cZ, cB, ad, A, ⟨hx, hb, hml, hown, hts⟩, ⟨hr, hlk⟩, hK, hA, hD, rfl⟩ := C
  intro hM H locs ls hP hS hl
  exact lv_istore_n hx hb hd hi hl hn rfl (fun ls' hl' => kk hM H locs ls' hP hS (lm_store (v := .inl z) hl'))
theorem k_istore (C : Ctx sh N own cc nL ret R post K) {i : Nat} {z : Int} (hd : decode cc pc = .ok (.istore i, 2)) (hn : i < nL) (kk : K (pc + 2) (sl lv i (.inl z)) stk M) : K pc lv (.inl z :: stk) M := by
  obtain ⟨p, l, e, s, m, args, below, meth, c, D, cI, cZ, cB, ad, A, ⟨hx, hb, hml, hown, hts⟩, ⟨hr, hlk⟩, hK, hA, hD, rfl⟩ := C
  intro hM H locs ls hP hS hl
  exact lv_istore hx hb hd hl hn rfl (fun ls' hl' => kk hM H locs ls' hP hS (lm_store (v := .inl z) hl'))
theorem k_astore_n (C : Ctx sh N own cc nL ret R post K) {k : Fin 4} {i : Nat} {z : Nat} (hd : decode cc pc = .ok (.astore_n k, 1)) (hi : (k : Nat) = i) (hn : i < nL) (kk : K (pc + 1) (sl lv i (.inr z)) stk M) : K pc lv (.inr z :: stk) M := by
  obtain ⟨p, l, e, s, m, args, below, meth, c, D, cI, cZ, cB, ad, A, ⟨hx, hb, hml, hown, hts⟩, ⟨hr, hlk⟩, hK, hA, hD, rfl⟩ := C
  intro hM H locs ls hP hS hl
  exact lv_astore_n hx hb hd hi hl hn rfl (fun ls' hl' => kk hM H locs ls' hP hS (lm_store (v := .inr z) hl'))
theorem k_iinc (C : Ctx sh N own cc nL ret R post K) {i : Nat} {n z : Int} (hd : decode cc pc = .ok (.iinc i n, 3)) (hn : i < nL) (hl' : lk lv i = some (.inl z)) (kk : K (pc + 3) (sl lv i (.inl (z + n))) stk M) : K pc lv stk M := by
  obtain ⟨p, l, e, s, m, args, below, meth, c, D, cI, cZ, cB, ad, A, ⟨hx, hb, hml, hown, hts⟩, ⟨hr, hlk⟩, hK, hA, hD, rfl⟩ := C
  intro hM H locs ls hP hS hl
  obtain ⟨j, hj⟩ := List.getElem?_of_mem (List.mem_map.mpr ⟨(i, .inl z), lk_mem hl', rfl⟩ : (i, vv ad (.inl z)) ∈ lm ad lv)
  exact lv_iinc (v := Int32.ofInt (z + n)) hx hb hd hl hj (Int32.ofInt_add z n).symm hn rfl (fun ls' hl' => kk hM H locs ls' hP hS (lm_store (v := .inl (z + n)) hl'))
theorem k_iadd (C : Ctx sh N own cc nL ret R post K) {a b : Int} (hd : decode cc pc = .ok (.iadd, 1)) (kk : K (pc + 1) lv (.inl (a + b) :: stk) M) : K pc lv (.inl b :: .inl a :: stk) M := by
  obtain ⟨p, l, e, s, m, args, below, meth, c, D, cI, cZ, cB, ad, A, ⟨hx, hb, hml, hown, hts⟩, ⟨hr, hlk⟩, hK, hA, hD, rfl⟩ := C
  intro hM H locs ls hP hS hl
  have h := kk hM H locs ls hP hS hl
  simp only [List.map_cons, vv, Int32.ofInt_add] at h
  exact lv_iadd hx hb hd h
theorem k_isub (C : Ctx sh N own cc nL ret R post K) {a b : Int} (hd : decode cc pc = .ok (.isub, 1)) (kk : K (pc + 1) lv (.inl (a - b) :: stk) M) : K pc lv (.inl b :: .inl a :: stk) M := by
  obtain ⟨p, l, e, s, m, args, below, meth, c, D, cI, cZ, cB, ad, A, ⟨hx, hb, hml, hown, hts⟩, ⟨hr, hlk⟩, hK, hA, hD, rfl⟩ := C
  intro hM H locs ls hP hS hl
  have h := kk hM H locs ls hP hS hl
  simp only [List.map_cons, vv, Int32.ofInt_sub] at h
  exact lv_isub hx hb hd h
theorem k_imul (C : Ctx sh N own cc nL ret R post K) {a b : Int} (hd : decode cc pc = .ok (.imul, 1)) (kk : K (pc + 1) lv (.inl (a * b) :: stk) M) : K pc lv (.inl b :: .inl a :: stk) M := by
  obtain ⟨p, l, e, s, m, args, below, meth, c, D, cI, cZ, cB, ad, A, ⟨hx, hb, hml, hown, hts⟩, ⟨hr, hlk⟩, hK, hA, hD, rfl⟩ := C
  intro hM H locs ls hP hS hl
  have h := kk hM H locs ls hP hS hl
  simp only [List.map_cons, vv, Int32.ofInt_mul] at h
  exact lv_imul hx hb hd h
theorem k_dup (C : Ctx sh N own cc nL ret R post K) {a : V} (hd : decode cc pc = .ok (.dup, 1)) (kk : K (pc + 1) lv (a :: a :: stk) M) : K pc lv (a :: stk) M := by
  obtain ⟨p, l, e, s, m, args, below, meth, c, D, cI, cZ, cB, ad, A, ⟨hx, hb, hml, hown, hts⟩, ⟨hr, hlk⟩, hK, hA, hD, rfl⟩ := C
  intro hM H locs ls hP hS hl
  exact lv_dup hx hb hd (vv_cat ad a) (kk hM H locs ls hP hS hl)
theorem k_pop (C : Ctx sh N own cc nL ret R post K) {a : V} (hd : decode cc pc = .ok (.pop, 1)) (kk : K (pc + 1) lv stk M) : K pc lv (a :: stk) M := by
  obtain ⟨p, l, e, s, m, args, below, meth, c, D, cI, cZ, cB, ad, A, ⟨hx, hb, hml, hown, hts⟩, ⟨hr, hlk⟩, hK, hA, hD, rfl⟩ := C
  intro hM H locs ls hP hS hl
  exact lv_pop hx hb hd (vv_cat ad a) (kk hM H locs ls hP hS hl)
theorem k_dup2 (C : Ctx sh N own cc nL ret R post K) {a b : V} (hd : decode cc pc = .ok (.dup2, 1)) (kk : K (pc + 1) lv (a :: b :: a :: b :: stk) M) : K pc lv (a :: b :: stk) M := by
  obtain ⟨p, l, e, s, m, args, below, meth, c, D, cI, cZ, cB, ad, A, ⟨hx, hb, hml, hown, hts⟩, ⟨hr, hlk⟩, hK, hA, hD, rfl⟩ := C
  intro hM H locs ls hP hS hl
  exact lv_dup2_11 hx hb hd (vv_cat ad a) (vv_cat ad b) (kk hM H locs ls hP hS hl)
theorem k_dup_x1 (C : Ctx sh N own cc nL ret R post K) {a b : V} (hd : decode cc pc = .ok (.dup_x1, 1)) (kk : K (pc + 1) lv (a :: b :: a :: stk) M) : K pc lv (a :: b :: stk) M := by
  obtain ⟨p, l, e, s, m, args, below, meth, c, D, cI, cZ, cB, ad, A, ⟨hx, hb, hml, hown, hts⟩, ⟨hr, hlk⟩, hK, hA, hD, rfl⟩ := C
  intro hM H locs ls hP hS hl
  exact lv_dup_x1 hx hb hd (vv_cat ad a) (vv_cat ad b) (kk hM H locs ls hP hS hl)
theorem k_goto (C : Ctx sh N own cc nL ret R post K) {off : Int} {tgt : Nat} (hd : decode cc pc = .ok (.goto off, 3)) (ht : (pc : Int) + off = (tgt : Int)) (kk : K tgt lv stk M) : K pc lv stk M := by
  obtain ⟨p, l, e, s, m, args, below, meth, c, D, cI, cZ, cB, ad, A, ⟨hx, hb, hml, hown, hts⟩, ⟨hr, hlk⟩, hK, hA, hD, rfl⟩ := C
  intro hM H locs ls hP hS hl
  exact lv_goto hx hb hd ht (kk hM H locs ls hP hS hl)
end ROWS
theorem tI {z : Int} (h : inR z) : (Int32.ofInt z).toInt = z := Int32.toInt_ofInt_of_le h.1 h.2
theorem oI_lt {a b : Int} (ha : inR a) (hb : inR b) : Int32.ofInt a < Int32.ofInt b ↔ a < b := by rw [Int32.lt_iff_toInt_lt, tI ha, tI hb]
theorem oI_le {a b : Int} (ha : inR a) (hb : inR b) : Int32.ofInt a ≤ Int32.ofInt b ↔ a ≤ b := by rw [Int32.le_iff_toInt_le, tI ha, tI hb]
theorem oI_eq {a b : Int} (ha : inR a) (hb : inR b) : Int32.ofInt a = Int32.ofInt b ↔ a = b := by
  constructor
  · intro h; rw [← tI ha, ← tI hb, h]
  · intro h; rw [h]
theorem oI_0 : (0 : Int32) = Int32.ofInt 0 := rfl
theorem oI_in {z : Int} {n : Nat} (h0 : 0 ≤ z) (h1 : z < n) (hn : n < 2147483648) : vp_in (Int32.ofInt z) n ∧ ((Int32.ofInt z).toNatClampNeg : Int) = z := by
  have hz : inR z := by constructor <;> omega
  have ht := tI hz
  have hc : ((Int32.ofInt z).toNatClampNeg : Int) = z := by
    unfold Int32.toNatClampNeg
    rw [ht]; omega
  refine ⟨fun h => ?_, hc⟩
  rcases h with h | h
  · rw [oI_0, oI_lt hz (by constructor <;> omega)] at h; omega
  · omega
end
section
/-! rows: branches, fields, arrays, ends, calls -/
section ROWS2
variable {sh : Nat → Sh} {N : Nat} {own : String} {cc : ByteArray} {nL : Nat} {ret : Option FieldType} {R : Room} {post : Int → Mem → Prop} {K : Kt}
variable {pc : Nat} {lv : Lv} {stk : List V} {M : Mem}
theorem k_icmp_eq (C : Ctx sh N own cc nL ret R post K) {a b : Int} {off : Int} {tgt : Nat} (hd : decode cc pc = .ok (.if_icmp .eq off, 3)) (ht : (pc : Int) + off = (tgt : Int)) (ha : inR a) (hb' : inR b) (kt : a = b → K tgt lv stk M) (kf : ¬ a = b → K (pc + 3) lv stk M) : K pc lv (.inl b :: .inl a :: stk) M := by
  obtain ⟨p, l, e, s, m, args, below, meth, c, D, cI, cZ, cB, ad, A, ⟨hx, hb, hml, hown, hts⟩, ⟨hr, hlk⟩, hK, hA, hD, rfl⟩ := C
  intro hM H locs ls hP hS hl
  exact lv_icmp_eq hx hb hd ht (fun h => kt ((oI_eq ha hb').mp h) hM H locs ls hP hS hl) (fun h => kf (fun q => h ((oI_eq ha hb').mpr q)) hM H locs ls hP hS hl)
theorem k_if_eq (C : Ctx sh N own cc nL ret R post K) {a : Int} {off : Int} {tgt : Nat} (hd : decode cc pc = .ok (.ifCond .eq off, 3)) (ht : (pc : Int) + off = (tgt : Int)) (ha : inR a) (kt : a = 0 → K tgt lv stk M) (kf : ¬ a = 0 → K (pc + 3) lv stk M) : K pc lv (.inl a :: stk) M := by
  obtain ⟨p, l, e, s, m, args, below, meth, c, D, cI, cZ, cB, ad, A, ⟨hx, hb, hml, hown, hts⟩, ⟨hr, hlk⟩, hK, hA, hD, rfl⟩ := C
  intro hM H locs ls hP hS hl
  have r0 : inR 0 := by decide
  exact lv_if_eq hx hb hd ht (fun h => kt ((oI_eq ha r0).mp h) hM H locs ls hP hS hl) (fun h => kf (fun q => h ((oI_eq ha r0).mpr q)) hM H locs ls hP hS hl)
theorem k_icmp_ne (C : Ctx sh N own cc nL ret R post K) {a b : Int} {off : Int} {tgt : Nat} (hd : decode cc pc = .ok (.if_icmp .ne off, 3)) (ht : (pc : Int) + off = (tgt : Int)) (ha : inR a) (hb' : inR b) (kt : ¬ a = b → K tgt lv stk M) (kf : a = b → K (pc + 3) lv stk M) : K pc lv (.inl b :: .inl a :: stk) M := by
  obtain ⟨p, l, e, s, m, args, below, meth, c, D, cI, cZ, cB, ad, A, ⟨hx, hb, hml, hown, hts⟩, ⟨hr, hlk⟩, hK, hA, hD, rfl⟩ := C
  intro hM H locs ls hP hS hl
  exact lv_icmp_ne hx hb hd ht (fun h => kt (fun q => h ((oI_eq ha hb').mpr q)) hM H locs ls hP hS hl) (fun h => kf ((oI_eq ha hb').mp h) hM H locs ls hP hS hl)
theorem k_if_ne (C : Ctx sh N own cc nL ret R post K) {a : Int} {off : Int} {tgt : Nat} (hd : decode cc pc = .ok (.ifCond .ne off, 3)) (ht : (pc : Int) + off = (tgt : Int)) (ha : inR a) (kt : ¬ a = 0 → K tgt lv stk M) (kf : a = 0 → K (pc + 3) lv stk M) : K pc lv (.inl a :: stk) M := by
  obtain ⟨p, l, e, s, m, args, below, meth, c, D, cI, cZ, cB, ad, A, ⟨hx, hb, hml, hown, hts⟩, ⟨hr, hlk⟩, hK, hA, hD, rfl⟩ := C
  intro hM H locs ls hP hS hl
  have r0 : inR 0 := by decide
  exact lv_if_ne hx hb hd ht (fun h => kt (fun q => h ((oI_eq ha r0).mpr q)) hM H locs ls hP hS hl) (fun h => kf ((oI_eq ha r0).mp h) hM H locs ls hP hS hl)
theorem k_icmp_lt (C : Ctx sh N own cc nL ret R post K) {a b : Int} {off : Int} {tgt : Nat} (hd : decode cc pc = .ok (.if_icmp .lt off, 3)) (ht : (pc : Int) + off = (tgt : Int)) (ha : inR a) (hb' : inR b) (kt : a < b → K tgt lv stk M) (kf : b ≤ a → K (pc + 3) lv stk M) : K pc lv (.inl b :: .inl a :: stk) M := by
  obtain ⟨p, l, e, s, m, args, below, meth, c, D, cI, cZ, cB, ad, A, ⟨hx, hb, hml, hown, hts⟩, ⟨hr, hlk⟩, hK, hA, hD, rfl⟩ := C
  intro hM H locs ls hP hS hl
  exact lv_icmp_lt hx hb hd ht (fun h => kt ((oI_lt ha hb').mp h) hM H locs ls hP hS hl) (fun h => kf (Int.not_lt.mp (fun q => h ((oI_lt ha hb').mpr q))) hM H locs ls hP hS hl)
theorem k_if_lt (C : Ctx sh N own cc nL ret R post K) {a : Int} {off : Int} {tgt : Nat} (hd : decode cc pc = .ok (.ifCond .lt off, 3)) (ht : (pc : Int) + off = (tgt : Int)) (ha : inR a) (kt : a < 0 → K tgt lv stk M) (kf : 0 ≤ a → K (pc + 3) lv stk M) : K pc lv (.inl a :: stk) M := by
  obtain ⟨p, l, e, s, m, args, below, meth, c, D, cI, cZ, cB, ad, A, ⟨hx, hb, hml, hown, hts⟩, ⟨hr, hlk⟩, hK, hA, hD, rfl⟩ := C
  intro hM H locs ls hP hS hl
  have r0 : inR 0 := by decide
  exact lv_if_lt hx hb hd ht (fun h => kt ((oI_lt ha r0).mp h) hM H locs ls hP hS hl) (fun h => kf (Int.not_lt.mp (fun q => h ((oI_lt ha r0).mpr q))) hM H locs ls hP hS hl)
theorem k_icmp_ge (C : Ctx sh N own cc nL ret R post K) {a b : Int} {off : Int} {tgt : Nat} (hd : decode cc pc = .ok (.if_icmp .ge off, 3)) (ht : (pc : Int) + off = (tgt : Int)) (ha : inR a) (hb' : inR b) (kt : b ≤ a → K tgt lv stk M) (kf : a < b → K (pc + 3) lv stk M) : K pc lv (.inl b :: .inl a :: stk) M := by
  obtain ⟨p, l, e, s, m, args, below, meth, c, D, cI, cZ, cB, ad, A, ⟨hx, hb, hml, hown, hts⟩, ⟨hr, hlk⟩, hK, hA, hD, rfl⟩ := C
  intro hM H locs ls hP hS hl
  exact lv_icmp_ge hx hb hd ht (fun h => kt ((oI_le hb' ha).mp h) hM H locs ls hP hS hl) (fun h => kf (Int.not_le.mp (fun q => h ((oI_le hb' ha).mpr q))) hM H locs ls hP hS hl)
theorem k_if_ge (C : Ctx sh N own cc nL ret R post K) {a : Int} {off : Int} {tgt : Nat} (hd : decode cc pc = .ok (.ifCond .ge off, 3)) (ht : (pc : Int) + off = (tgt : Int)) (ha : inR a) (kt : 0 ≤ a → K tgt lv stk M) (kf : a < 0 → K (pc + 3) lv stk M) : K pc lv (.inl a :: stk) M := by
  obtain ⟨p, l, e, s, m, args, below, meth, c, D, cI, cZ, cB, ad, A, ⟨hx, hb, hml, hown, hts⟩, ⟨hr, hlk⟩, hK, hA, hD, rfl⟩ := C
  intro hM H locs ls hP hS hl
  have r0 : inR 0 := by decide
  exact lv_if_ge hx hb hd ht (fun h => kt ((oI_le r0 ha).mp h) hM H locs ls hP hS hl) (fun h => kf (Int.not_le.mp (fun q => h ((oI_le r0 ha).mpr q))) hM H locs ls hP hS hl)
theorem k_icmp_gt (C : Ctx sh N own cc nL ret R post K) {a b : Int} {off : Int} {tgt : Nat} (hd : decode cc pc = .ok (.if_icmp .gt off, 3)) (ht : (pc : Int) + off = (tgt : Int)) (ha : inR a) (hb' : inR b) (kt : b < a → K tgt lv stk M) (kf : a ≤ b → K (pc + 3) lv stk M) : K pc lv (.inl b :: .inl a :: stk) M := by
  obtain ⟨p, l, e, s, m, args, below, meth, c, D, cI, cZ, cB, ad, A, ⟨hx, hb, hml, hown, hts⟩, ⟨hr, hlk⟩, hK, hA, hD, rfl⟩ := C
  intro hM H locs ls hP hS hl
  exact lv_icmp_gt hx hb hd ht (fun h => kt ((oI_lt hb' ha).mp h) hM H locs ls hP hS hl) (fun h => kf (Int.not_lt.mp (fun q => h ((oI_lt hb' ha).mpr q))) hM H locs ls hP hS hl)
theorem k_if_gt (C : Ctx sh N own cc nL ret R post K) {a : Int} {off : Int} {tgt : Nat} (hd : decode cc pc = .ok (.ifCond .gt off, 3)) (ht : (pc : Int) + off = (tgt : Int)) (ha : inR a) (kt : 0 < a → K tgt lv stk M) (kf : a ≤ 0 → K (pc + 3) lv stk M) : K pc lv (.inl a :: stk) M := by
  obtain ⟨p, l, e, s, m, args, below, meth, c, D, cI, cZ, cB, ad, A, ⟨hx, hb, hml, hown, hts⟩, ⟨hr, hlk⟩, hK, hA, hD, rfl⟩ := C
  intro hM H locs ls hP hS hl
  have r0 : inR 0 := by decide
  exact lv_if_gt hx hb hd ht (fun h => kt ((oI_lt r0 ha).mp h) hM H locs ls hP hS hl) (fun h => kf (Int.not_lt.mp (fun q => h ((oI_lt r0 ha).mpr q))) hM H locs ls hP hS hl)
theorem k_icmp_le (C : Ctx sh N own cc nL ret R post K) {a b : Int} {off : Int} {tgt : Nat} (hd : decode cc pc = .ok (.if_icmp .le off, 3)) (ht : (pc : Int) + off = (tgt : Int)) (ha : inR a) (hb' : inR b) (kt : a ≤ b → K tgt lv stk M) (kf : b < a → K (pc + 3) lv stk M) : K pc lv (.inl b :: .inl a :: stk) M := by
  obtain ⟨p, l, e, s, m, args, below, meth, c, D, cI, cZ, cB, ad, A, ⟨hx, hb, hml, hown, hts⟩, ⟨hr, hlk⟩, hK, hA, hD, rfl⟩ := C
  intro hM H locs ls hP hS hl
  exact lv_icmp_le hx hb hd ht (fun h => kt ((oI_le ha hb').mp h) hM H locs ls hP hS hl) (fun h => kf (Int.not_le.mp (fun q => h ((oI_le ha hb').mpr q))) hM H locs ls hP hS hl)
theorem k_if_le (C : Ctx sh N own cc nL ret R post K) {a : Int} {off : Int} {tgt : Nat} (hd : decode cc pc = .ok (.ifCond .le off, 3)) (ht : (pc : Int) + off = (tgt : Int)) (ha : inR a) (kt : a ≤ 0 → K tgt lv stk M) (kf : 0 < a → K (pc + 3) lv stk M) : K pc lv (.inl a :: stk) M := by
  obtain ⟨p, l, e, s, m, args, below, meth, c, D, cI, cZ, cB, ad, A, ⟨hx, hb, hml, hown, hts⟩, ⟨hr, hlk⟩, hK, hA, hD, rfl⟩ := C
  intro hM H locs ls hP hS hl
  have r0 : inR 0 := by decide
  exact lv_if_le hx hb hd ht (fun h => kt ((oI_le ha r0).mp h) hM H locs ls hP hS hl) (fun h => kf (Int.not_le.mp (fun q => h ((oI_le ha r0).mpr q))) hM H locs ls hP hS hl)
theorem k_iaload (C : Ctx sh N own cc nL ret R post K) {k n : Nat} {i : Int} (hs : sh k = .inl (.int, n)) (hk : k < N) (hn : n < 2147483648) (hi : 0 ≤ i ∧ i < n) (hd : decode cc pc = .ok (.iaload, 1)) (kk : inR (M k i) → K (pc + 1) lv (.inl (M k i) :: stk) M) : K pc lv (.inl i :: .inr k :: stk) M := by
  obtain ⟨p, l, e, s, m, args, below, meth, c, D, cI, cZ, cB, ad, A, ⟨hx, hb, hml, hown, hts⟩, ⟨hr, hlk⟩, hK, hA, hD, rfl⟩ := C
  intro hM H locs ls hP hS hl
  obtain ⟨h1, h2⟩ := oI_in hi.1 hi.2 hn
  have hc := wsOf_at (sh := sh) (cI := cI) (cZ := cZ) (cB := cB) (ad := ad) (M := M) hk
  rw [hs] at hc
  refine va_iald hx hb hK hP k 0 hc rfl h1 hd ?_
  have h := kk (hM k i) hM H locs ls hP hS hl
  simp only [h2]
  exact h
theorem k_zaload (C : Ctx sh N own cc nL ret R post K) {k n : Nat} {i : Int} (hs : sh k = .inl (.boolean, n)) (hk : k < N) (hn : n < 2147483648) (hi : 0 ≤ i ∧ i < n) (hd : decode cc pc = .ok (.baload, 1)) (kk : inR (M k i) → K (pc + 1) lv (.inl (M k i) :: stk) M) : K pc lv (.inl i :: .inr k :: stk) M := by
  obtain ⟨p, l, e, s, m, args, below, meth, c, D, cI, cZ, cB, ad, A, ⟨hx, hb, hml, hown, hts⟩, ⟨hr, hlk⟩, hK, hA, hD, rfl⟩ := C
  intro hM H locs ls hP hS hl
  obtain ⟨h1, h2⟩ := oI_in hi.1 hi.2 hn
  have hc := wsOf_at (sh := sh) (cI := cI) (cZ := cZ) (cB := cB) (ad := ad) (M := M) hk
  rw [hs] at hc
  refine va_zald hx hb hK hP k 1 hc rfl h1 hd ?_
  have h := kk (hM k i) hM H locs ls hP hS hl
  simp only [h2]
  exact h
theorem k_baload (C : Ctx sh N own cc nL ret R post K) {k n : Nat} {i : Int} (hs : sh k = .inl (.byte, n)) (hk : k < N) (hn : n < 2147483648) (hi : 0 ≤ i ∧ i < n) (hd : decode cc pc = .ok (.baload, 1)) (kk : inR (M k i) → K (pc + 1) lv (.inl (M k i) :: stk) M) : K pc lv (.inl i :: .inr k :: stk) M := by
  obtain ⟨p, l, e, s, m, args, below, meth, c, D, cI, cZ, cB, ad, A, ⟨hx, hb, hml, hown, hts⟩, ⟨hr, hlk⟩, hK, hA, hD, rfl⟩ := C
  intro hM H locs ls hP hS hl
  obtain ⟨h1, h2⟩ := oI_in hi.1 hi.2 hn
  have hc := wsOf_at (sh := sh) (cI := cI) (cZ := cZ) (cB := cB) (ad := ad) (M := M) hk
  rw [hs] at hc
  refine va_bald hx hb hK hP k 2 hc rfl h1 hd ?_
  have h := kk (hM k i) hM H locs ls hP hS hl
  simp only [h2]
  exact h
theorem upd_M {M : Mem} {k : Nat} {i v : Int} {x : Int32} {j : Nat} (hj : (j : Int) = i) (hx : x = Int32.ofInt v) : upd (fun (j : Nat) => Int32.ofInt (M k j)) j x = fun (j : Nat) => Int32.ofInt (up M k i v k j) := by
  funext q
  unfold upd
  subst hx
  by_cases h : q = j
  · subst h; rw [if_pos rfl, up_at, if_pos hj]
  · rw [if_neg h, up_at, if_neg (by omega)]
theorem k_iastore (C : Ctx sh N own cc nL ret R post K) {k n : Nat} {i v : Int} (hs : sh k = .inl (.int, n)) (hk : k < N) (hn : n < 2147483648) (hi : 0 ≤ i ∧ i < n) (hv : inR v) (hd : decode cc pc = .ok (.iastore, 1)) (kk : K (pc + 1) lv stk (up M k i v)) : K pc lv (.inl v :: .inl i :: .inr k :: stk) M := by
  obtain ⟨p, l, e, s, m, args, below, meth, c, D, cI, cZ, cB, ad, A, ⟨hx, hb, hml, hown, hts⟩, ⟨hr, hlk⟩, hK, hA, hD, rfl⟩ := C
  intro hM H locs ls hP hS hl
  obtain ⟨h1, h2⟩ := oI_in hi.1 hi.2 hn
  have hc := wsOf_at (sh := sh) (cI := cI) (cZ := cZ) (cB := cB) (ad := ad) (M := M) hk
  rw [hs] at hc
  refine va_iast hx hb hK hP (hD M) hS k 0 hc rfl h1 hd (fun H1 locs1 hP1 _ hS1 => ?_)
  rw [upd_M h2 rfl, wsOf_set (M' := up M k i v) hk (by rw [hs]; rfl) (fun j hj => up_ne hj)] at hP1
  exact kk (hM.up hv) H1 locs1 ls hP1 hS1 hl
theorem nar_z {v : Int} (h : v = 0 ∨ v = 1) : vp_nar .boolean (Int32.ofInt v) = Int32.ofInt v := by
  rcases h with rfl | rfl <;> decide
theorem k_zastore (C : Ctx sh N own cc nL ret R post K) {k n : Nat} {i v : Int} (hs : sh k = .inl (.boolean, n)) (hk : k < N) (hn : n < 2147483648) (hi : 0 ≤ i ∧ i < n) (hv : v = 0 ∨ v = 1) (hd : decode cc pc = .ok (.bastore, 1)) (kk : K (pc + 1) lv stk (up M k i v)) : K pc lv (.inl v :: .inl i :: .inr k :: stk) M := by
  obtain ⟨p, l, e, s, m, args, below, meth, c, D, cI, cZ, cB, ad, A, ⟨hx, hb, hml, hown, hts⟩, ⟨hr, hlk⟩, hK, hA, hD, rfl⟩ := C
  intro hM H locs ls hP hS hl
  obtain ⟨h1, h2⟩ := oI_in hi.1 hi.2 hn
  have hc := wsOf_at (sh := sh) (cI := cI) (cZ := cZ) (cB := cB) (ad := ad) (M := M) hk
  rw [hs] at hc
  refine va_zast hx hb hK hP (hD M) hS k 1 hc rfl h1 hd (fun H1 locs1 hP1 _ hS1 => ?_)
  rw [upd_M h2 (nar_z hv), wsOf_set (M' := up M k i v) hk (by rw [hs]; rfl) (fun j hj => up_ne hj)] at hP1
  exact kk (hM.up (by omega)) H1 locs1 ls hP1 hS1 hl
theorem k_bastore (C : Ctx sh N own cc nL ret R post K) {k n : Nat} {i v : Int} (hs : sh k = .inl (.byte, n)) (hk : k < N) (hn : n < 2147483648) (hi : 0 ≤ i ∧ i < n) (hv : -128 ≤ v ∧ v < 128) (hd : decode cc pc = .ok (.bastore, 1)) (kk : K (pc + 1) lv stk (up M k i v)) : K pc lv (.inl v :: .inl i :: .inr k :: stk) M := by
  obtain ⟨p, l, e, s, m, args, below, meth, c, D, cI, cZ, cB, ad, A, ⟨hx, hb, hml, hown, hts⟩, ⟨hr, hlk⟩, hK, hA, hD, rfl⟩ := C
  intro hM H locs ls hP hS hl
  obtain ⟨h1, h2⟩ := oI_in hi.1 hi.2 hn
  have hc := wsOf_at (sh := sh) (cI := cI) (cZ := cZ) (cB := cB) (ad := ad) (M := M) hk
  rw [hs] at hc
  have hr : inR v := by omega
  have hn8 : vp_nar .byte (Int32.ofInt v) = Int32.ofInt v := by
    rw [vp_nar_byte]
    apply Int32.toInt_inj.mp
    rw [Int8.toInt_toInt32, Int32.toInt_toInt8, tI hr]
    exact Int.bmod_eq_of_le (by simp; omega) (by simp; omega)
  refine va_bast hx hb hK hP (hD M) hS k 2 hc rfl h1 hd (fun H1 locs1 hP1 _ hS1 => ?_)
  rw [upd_M h2 hn8, wsOf_set (M' := up M k i v) hk (by rw [hs]; rfl) (fun j hj => up_ne hj)] at hP1
  exact kk (hM.up hr) H1 locs1 ls hP1 hS1 hl
theorem k_alen (C : Ctx sh N own cc nL ret R post K) {k n : Nat} {ty : FieldType} (hs : sh k = .inl (ty, n)) (hk : k < N) (hty : ty = .int ∨ ty = .boolean ∨ ty = .byte) (hd : decode cc pc = .ok (.arraylength, 1)) (kk : K (pc + 1) lv (.inl (n : Int) :: stk) M) : K pc lv (.inr k :: stk) M := by
  obtain ⟨p, l, e, s, m, args, below, meth, c, D, cI, cZ, cB, ad, A, ⟨hx, hb, hml, hown, hts⟩, ⟨hr, hlk⟩, hK, hA, hD, rfl⟩ := C
  intro hM H locs ls hP hS hl
  have hc := wsOf_at (sh := sh) (cI := cI) (cZ := cZ) (cB := cB) (ad := ad) (M := M) hk
  rw [hs] at hc
  rcases hty with rfl | rfl | rfl
  · exact va_alen hx hb hK hP k 0 hc rfl rfl hd (kk hM H locs ls hP hS hl)
  · exact va_alen hx hb hK hP k 1 hc rfl rfl hd (kk hM H locs ls hP hS hl)
  · exact va_alen hx hb hK hP k 2 hc rfl rfl hd (kk hM H locs ls hP hS hl)
/-- what a class's own table says: its words are among the tables' -/
def okC (ci : Nat) (C : String) (T : u_T) (n : Nat) (ty : Nat → FieldType) : Prop := vwCl[ci]? = some (C, T, n) ∧ (∀ w ∈ u_ws C T n, w ∈ tbg) ∧ (∀ k, k < n → parseFieldDescriptor (T k).2.2.1 = some (ty k)) ∧ ∀ a, a < n → ∀ b, b < n → a ≠ b → (T a).2.1 ≠ (T b).2.1
theorem k_getR (C : Ctx sh N own cc nL ret R post K) {k r ci j n index : Nat} {fs : List (Option Nat)} {CC : String} {T : u_T} {ty : Nat → FieldType} (hc : okC ci CC T n ty) (hs : sh k = .inr (ci, fs)) (hk : k < N) (hj : j < n) (hf : fs[j]? = some (some r)) (hw : Cond.fieldLink own index (T j).1 (T j).2.1 (T j).2.2.1 ∈ tbg) (hd : decode cc pc = .ok (.getfield index, 3)) (kk : K (pc + 3) lv (.inr r :: stk) M) : K pc lv (.inr k :: stk) M := by
  obtain ⟨p, l, e, s, m, args, below, meth, c, D, cI, cZ, cB, ad, A, ⟨hx, hb, hml, hown, hts⟩, ⟨hr, hlk⟩, hK, hA, hD, rfl⟩ := C
  intro hM H locs ls hP hS hl
  have he := wsOf_at (sh := sh) (cI := cI) (cZ := cZ) (cB := cB) (ad := ad) (M := M) hk
  rw [hs] at he
  exact va_get (v := .ref (ad r)) hx hb hts hc.2.1 hown hK hP k he hc.1 j hj (hts _ hw) (fun _ h => h) (by rw [List.getElem?_mapIdx, hf]; rfl) hd (kk hM H locs ls hP hS hl)
theorem k_getI (C : Ctx sh N own cc nL ret R post K) {k ci j n index : Nat} {fs : List (Option Nat)} {CC : String} {T : u_T} {ty : Nat → FieldType} (hc : okC ci CC T n ty) (hs : sh k = .inr (ci, fs)) (hk : k < N) (hj : j < n) (hf : fs[j]? = some none) (hw : Cond.fieldLink own index (T j).1 (T j).2.1 (T j).2.2.1 ∈ tbg) (hd : decode cc pc = .ok (.getfield index, 3)) (kk : inR (M k j) → K (pc + 3) lv (.inl (M k j) :: stk) M) : K pc lv (.inr k :: stk) M := by
  obtain ⟨p, l, e, s, m, args, below, meth, c, D, cI, cZ, cB, ad, A, ⟨hx, hb, hml, hown, hts⟩, ⟨hr, hlk⟩, hK, hA, hD, rfl⟩ := C
  intro hM H locs ls hP hS hl
  have he := wsOf_at (sh := sh) (cI := cI) (cZ := cZ) (cB := cB) (ad := ad) (M := M) hk
  rw [hs] at he
  exact va_get (v := .int (Int32.ofInt (M k j))) hx hb hts hc.2.1 hown hK hP k he hc.1 j hj (hts _ hw) (fun _ h => h) (by rw [List.getElem?_mapIdx, hf]; rfl) hd (kk (hM k j) hM H locs ls hP hS hl)
theorem set_M {M : Mem} {ad : Nat → Nat} {k j : Nat} {v : Int} {fs : List (Option Nat)} (hf : fs[j]? = some none) : (fs.mapIdx (fun j f => fv ad M k j f)).set j (.int (Int32.ofInt v)) = fs.mapIdx (fun i f => fv ad (up M k j v) k i f) := by
  apply List.ext_getElem?
  intro i
  by_cases hi : i = j
  · subst hi
    rw [List.getElem?_set_self (by rw [List.length_mapIdx]; exact (List.getElem?_eq_some_iff.mp hf).1), List.getElem?_mapIdx, hf]
    simp [fv, up]
  · rw [List.getElem?_set_ne (Ne.symm hi), List.getElem?_mapIdx, List.getElem?_mapIdx]
    cases fs[i]? with
    | none => rfl
    | some f => cases f with
      | none => simp only [Option.map_some, fv, up]; rw [if_neg (by omega)]
      | some r => rfl
theorem k_putI (C : Ctx sh N own cc nL ret R post K) {k ci j n index : Nat} {fs : List (Option Nat)} {CC : String} {T : u_T} {ty : Nat → FieldType} {v : Int} (hc : okC ci CC T n ty) (hs : sh k = .inr (ci, fs)) (hk : k < N) (hj : j < n) (hf : fs[j]? = some none) (hfin : (T j).2.2.2 = false) (hty : ty j = .int) (hv : inR v) (hw : Cond.fieldLink own index (T j).1 (T j).2.1 (T j).2.2.1 ∈ tbg) (hd : decode cc pc = .ok (.putfield index, 3)) (kk : K (pc + 3) lv stk (up M k j v)) : K pc lv (.inl v :: .inr k :: stk) M := by
  obtain ⟨p, l, e, s, m, args, below, meth, c, D, cI, cZ, cB, ad, A, ⟨hx, hb, hml, hown, hts⟩, ⟨hr, hlk⟩, hK, hA, hD, rfl⟩ := C
  intro hM H locs ls hP hS hl
  have he := wsOf_at (sh := sh) (cI := cI) (cZ := cZ) (cB := cB) (ad := ad) (M := M) hk
  rw [hs] at he
  refine va_put (v := .int (Int32.ofInt v)) (ty := .int) hx hb hts hc.2.1 ty hc.2.2.1 hc.2.2.2 hown hK hP (hD M) hS k he hc.1 j hj (hts _ hw) (fun _ h => h) hfin (by rw [hc.2.2.1 j hj, hty]) rfl rfl (by rw [List.length_mapIdx]; exact (List.getElem?_eq_some_iff.mp hf).1) hd (fun H1 locs1 hP1 _ hS1 => ?_)
  rw [set_M hf, wsOf_set (M' := up M k j v) hk (by rw [hs]; rfl) (fun j hj => up_ne hj)] at hP1
  exact kk (hM.up hv) H1 locs1 ls hP1 hS1 hl
theorem k_putZ (C : Ctx sh N own cc nL ret R post K) {k ci j n index : Nat} {fs : List (Option Nat)} {CC : String} {T : u_T} {ty : Nat → FieldType} {v : Int} (hc : okC ci CC T n ty) (hs : sh k = .inr (ci, fs)) (hk : k < N) (hj : j < n) (hf : fs[j]? = some none) (hfin : (T j).2.2.2 = false) (hty : ty j = .boolean) (hv : v = 0 ∨ v = 1) (hw : Cond.fieldLink own index (T j).1 (T j).2.1 (T j).2.2.1 ∈ tbg) (hd : decode cc pc = .ok (.putfield index, 3)) (kk : K (pc + 3) lv stk (up M k j v)) : K pc lv (.inl v :: .inr k :: stk) M := by
  obtain ⟨p, l, e, s, m, args, below, meth, c, D, cI, cZ, cB, ad, A, ⟨hx, hb, hml, hown, hts⟩, ⟨hr, hlk⟩, hK, hA, hD, rfl⟩ := C
  intro hM H locs ls hP hS hl
  have he := wsOf_at (sh := sh) (cI := cI) (cZ := cZ) (cB := cB) (ad := ad) (M := M) hk
  rw [hs] at he
  refine va_put (v := .int (Int32.ofInt v)) (ty := .boolean) hx hb hts hc.2.1 ty hc.2.2.1 hc.2.2.2 hown hK hP (hD M) hS k he hc.1 j hj (hts _ hw) (fun _ h => h) hfin (by rw [hc.2.2.1 j hj, hty]) (by rcases hv with rfl | rfl <;> decide) (by rcases hv with rfl | rfl <;> decide) (by rw [List.length_mapIdx]; exact (List.getElem?_eq_some_iff.mp hf).1) hd (fun H1 locs1 hP1 _ hS1 => ?_)
  rw [set_M hf, wsOf_set (M' := up M k j v) hk (by rw [hs]; rfl) (fun j hj => up_ne hj)] at hP1
  exact kk (hM.up (by omega)) H1 locs1 ls hP1 hS1 hl
theorem k_iret (C : Ctx sh N own cc nL (some .int) R post K) {z : Int} (hd : decode cc pc = .ok (.ireturn, 1)) (hz : inR z) (hp : Rg M → post z M) : K pc lv [.inl z] M := by
  obtain ⟨p, l, e, s, m, args, below, meth, c, D, cI, cZ, cB, ad, A, ⟨hx, hb, hml, hown, hts⟩, ⟨hr, hlk⟩, hK, hA, hD, rfl⟩ := C
  intro hM H locs ls hP hS hl
  exact W.iret (v := Int32.ofInt z) hx hb hr (fun t ht hW => ⟨⟨Int32.ofInt z, M, rfl, ⟨z, rfl, hz, hp hM⟩, hM, by rw [ht]; exact hP, va_K.moved hW.alike hK, hD M⟩, hS.F ht⟩) hS.2.2 hd hlk
theorem k_zret (C : Ctx sh N own cc nL (some .boolean) R post K) {z : Int} (hd : decode cc pc = .ok (.ireturn, 1)) (hz : z = 0 ∨ z = 1) (hp : Rg M → post z M) : K pc lv [.inl z] M := by
  obtain ⟨p, l, e, s, m, args, below, meth, c, D, cI, cZ, cB, ad, A, ⟨hx, hb, hml, hown, hts⟩, ⟨hr, hlk⟩, hK, hA, hD, rfl⟩ := C
  intro hM H locs ls hP hS hl
  exact W.zret (v := Int32.ofInt z) hx hb hr (by rcases hz with rfl | rfl <;> decide) (fun t ht hW => ⟨⟨Int32.ofInt z, M, rfl, ⟨z, rfl, by omega, hp hM⟩, hM, by rw [ht]; exact hP, va_K.moved hW.alike hK, hD M⟩, hS.F ht⟩) hS.2.2 hd hlk
theorem k_vret (C : Ctx sh N own cc nL none R post K) (hd : decode cc pc = .ok (.return_, 1)) (hp : Rg M → post 0 M) : K pc lv [] M := by
  obtain ⟨p, l, e, s, m, args, below, meth, c, D, cI, cZ, cB, ad, A, ⟨hx, hb, hml, hown, hts⟩, ⟨hr, hlk⟩, hK, hA, hD, rfl⟩ := C
  intro hM H locs ls hP hS hl
  exact W.vret hx hb hr (fun t ht hW => ⟨⟨M, rfl, hp hM, hM, by rw [ht]; exact hP, va_K.moved hW.alike hK, hD M⟩, hS.F ht⟩) hS.2.2 hd hlk
end ROWS2
end
section
/-! contracts and calls -/
theorem tbl_good : tbg.all goodWord = true := List.all_eq_true.mpr fun w hw => (List.mem_filter.mp hw).2
theorem tbl_in : GoodIn tbg tbg := fun w hw => ⟨hw, good_of_word (List.all_eq_true.mp tbl_good w hw)⟩
def ae : Nat → List V → Lv
  | _, [] => []
  | i, v :: t => (i, v) :: ae (i + 1) t
theorem ae_args (ad : Nat → Nat) : ∀ (vs : List V) (i : Nat), lv_args i (vs.map (vv ad)) = lm ad (ae i vs)
  | [], i => rfl
  | v :: t, i => by
    have h : (vv ad v).category ≠ 2 := by rw [vv_cat]; decide
    simp only [List.map_cons, lv_args, ae, lm, if_neg h]
    rw [ae_args ad t (i + 1)]
    rfl
theorem ae_len (ad : Nat → Nat) : ∀ (vs : List V), (lg_sl (vs.map (vv ad))).length = vs.length
  | [] => rfl
  | v :: t => by
    have h := ae_len ad t
    have e : lg_sl (vv ad v :: t.map (vv ad)) = [Slot.val (vv ad v)] ++ lg_sl (t.map (vv ad)) := by simp [lg_sl, vv_cat]
    rw [List.map_cons, e, List.length_append, h, List.length_cons]
    simp; omega
def Ct (sh : Nat → Sh) (N : Nat) (y : MethodName) (cc : ByteArray) (nL : Nat) (ret : Option FieldType) (rm : Room) (args : List V) (M : Mem) (post : Int → Mem → Prop) : Prop :=
  ∀ (l : Launch) (D : va_G) (cI cZ cB : ClassId) (ad : Nat → Nat) (sz : Nat), Met l y (.code y cc nL ret :: tbg) rm (va_Pc (args.map (vv ad)) (fun U => U.heap.size = sz ∧ wd sh N D cI cZ cB ad (fun _ => True) M U)) (qq ret post (wd sh N D cI cZ cB ad (va_A (wsOf sh N cI cZ cB ad M) sz)) (va_A (wsOf sh N cI cZ cB ad M) sz)) 0 0 (va_A (wsOf sh N cI cZ cB ad M) sz)
theorem wsOf_D {sh : Nat → Sh} {N : Nat} {cI cZ cB : ClassId} {ad : Nat → Nat} {M : Mem} {A : Nat → Prop} (h : va_D A (wsOf sh N cI cZ cB ad M)) (M' : Mem) : va_D A (wsOf sh N cI cZ cB ad M') := by
  have key : ∀ (k : Nat) (q : Nat × va_E), (wsOf sh N cI cZ cB ad M')[k]? = some q → k < N ∧ q.1 = ad k := by
    intro k q hq
    have hk : k < N := by
      have := (List.getElem?_eq_some_iff.mp hq).1
      rw [wsOf_len] at this
      exact this
    rw [wsOf_at hk] at hq
    cases hq
    exact ⟨hk, rfl⟩
  refine ⟨fun i j x y hi hj hxy => ?_, fun k q hq => ?_⟩
  · obtain ⟨hi1, hi2⟩ := key i x hi
    obtain ⟨hj1, hj2⟩ := key j y hj
    exact h.1 i j _ _ (wsOf_at hi1) (wsOf_at hj1) (by rw [← hi2, ← hj2]; exact hxy)
  · obtain ⟨h1, h2⟩ := key k q hq
    rw [h2]
    exact h.2 k _ (wsOf_at h1)
theorem wsOf_A {sh : Nat → Sh} {N : Nat} {cI cZ cB : ClassId} {ad : Nat → Nat} {M M' : Mem} {sz q : Nat} (h : va_A (wsOf sh N cI cZ cB ad M) sz q) : va_A (wsOf sh N cI cZ cB ad M') sz q := by
  rcases h with ⟨k, e, h⟩ | h
  · have hk : k < N := by
      have := (List.getElem?_eq_some_iff.mp h).1
      rw [wsOf_len] at this
      exact this
    rw [wsOf_at hk] at h
    cases h
    exact Or.inl ⟨k, _, wsOf_at hk⟩
  · exact Or.inr h
theorem Ct_of {sh : Nat → Sh} {N : Nat} {y : MethodName} {cc : ByteArray} {nL : Nat} {ret : Option FieldType} {rm : Room} {args : List V} {M : Mem} {post : Int → Mem → Prop} (hy : plainName y.cls = true) (hn : args.length ≤ nL)
    (h : ∀ K : Kt, Ctx sh N y.cls cc nL ret rm post K → K 0 (ae 0 args) [] M) : Ct sh N y cc nL ret rm args M post := by
  intro l D cI cZ cB ad sz
  refine Met.ofW (cc := cc) (maxL := nL) (ret := ret) hy rfl ?_
  intro p e s m vs below meth c s₁ B hml hv
  obtain ⟨rfl, hsz, hM, hP, hK, hD0⟩ := hv
  have hts := atoms_spec (ws := .code y cc nL ret :: tbg) B.pre
  have hown : s.vm.findClass y.cls = some m.cls := findClass_of_methodNamed B.named
  subst hsz
  have hA : ∀ q : Nat, s.heap.size ≤ q → va_A (wsOf sh N cI cZ cB ad M) s.heap.size q := fun q h => Or.inr h
  have hl := lv_entry (args.map (vv ad)) (n := nL) (by rw [ae_len]; exact hn)
  rw [ae_args] at hl
  rw [lg_entry_eq]
  exact h _ ⟨p, l, e, s, m, _, below, meth, c, D, cI, cZ, cB, ad, va_A (wsOf sh N cI cZ cB ad M) s.heap.size, ⟨B.exec, B.bytes, hml, hown, fun w hw => hts w (List.mem_cons_of_mem _ hw)⟩, ⟨B.returns, B.notSynchronized⟩, hK, hA, fun M' => wsOf_D hD0.self M', rfl⟩ hM s.heap [] _ hP va_S.rf hl
/-- a contract's words at a call -/
def okV (own : String) (index : Nat) (y : MethodName) (bytes : ByteArray) (maxL : Nat) (ret : Option FieldType) (n : Nat) : Prop :=
  GoodIn tbg (wsV own index y.cls y [.code y bytes maxL ret]) ∧ y.cls ≠ "java/lang/invoke/MethodHandle" ∧ y.cls ≠ "java/lang/invoke/VarHandle" ∧ (parseMethodDescriptor y.desc).map (fun d => d.parameters.length) = some n
def okS (own : String) (index : Nat) (y : MethodName) (bytes : ByteArray) (maxL : Nat) (ret : Option FieldType) (n : Nat) : Prop :=
  GoodIn tbg (va_wsS own index y [.code y bytes maxL ret]) ∧ y.cls ≠ "java/lang/invoke/MethodHandle" ∧ y.cls ≠ "java/lang/invoke/VarHandle" ∧ (parseMethodDescriptor y.desc).map (fun d => d.parameters.length) = some n
def okN (own : String) (index : Nat) (y : MethodName) (host : String) (bytes : ByteArray) (maxL : Nat) (ret : Option FieldType) (n : Nat) : Prop :=
  GoodIn tbg [.methodLinkNest own index y host, .static y, .initialized y.cls, .code y bytes maxL ret] ∧ y.cls ≠ "java/lang/invoke/MethodHandle" ∧ y.cls ≠ "java/lang/invoke/VarHandle" ∧ (parseMethodDescriptor y.desc).map (fun d => d.parameters.length) = some n
theorem good_code {y : MethodName} {bytes : ByteArray} {maxL : Nat} {ret : Option FieldType} (h : Cond.code y bytes maxL ret ∈ tbg) : GoodIn tbg (.code y bytes maxL ret :: tbg) := by
  intro w hw
  rcases List.mem_cons.mp hw with rfl | hw
  · exact tbl_in _ h
  · exact tbl_in w hw
def psh (ret : Option FieldType) (r : Int) (stk : List V) : List V := match ret with
  | none => stk
  | some _ => .inl r :: stk
theorem wd_K {sh : Nat → Sh} {N : Nat} {D : va_G} {cI cZ cB : ClassId} {ad : Nat → Nat} {A : Nat → Prop} {M : Mem} {u U : State} (hh : U.heap = u.heap) (hv : u.vm.Alike U.vm) (h : wd sh N D cI cZ cB ad A M u) : wd sh N D cI cZ cB ad A M U := ⟨h.1, by rw [hh]; exact h.2.1, va_K.moved hv h.2.2.1, h.2.2.2⟩
theorem vvs_cat (ad : Nat → Nat) : ∀ stk : List V, ((stk.map (vv ad)).map fun v => v.category).sum = stk.length
  | [] => rfl
  | v :: t => by
    have h := vvs_cat ad t
    simp only [List.map_cons, List.sum_cons, vv_cat, List.length_cons]
    rw [h]; omega
section CALLS
variable {sh : Nat → Sh} {N : Nat} {own : String} {cc : ByteArray} {nL : Nat} {ret : Option FieldType} {R : Room} {post : Int → Mem → Prop} {K : Kt}
variable {pc : Nat} {lv : Lv} {stk stk0 : List V} {M : Mem}
/-- what is the same behind every call -/
theorem k_behind {p : Program} {l : Launch} {e : Env} {s : State} {m : MethodId} {args : Array Value} {below : List Frame} {meth : Method} {c : Code} {D : va_G} {cI cZ cB : ClassId} {ad : Nat → Nat} {A : Nat → Prop} {ret' : Option FieldType} {post' : Int → Mem → Prop} {H : Heap} {locs : List Loc} {ls : Array Slot} {st0 : List Value} {a : Array Value} {Q : State → Prop} {ce sn mc ms : Nat}
    (hr : va_Run p l e R s m args below meth c H locs ce sn mc ms (F0 m pc ls st0) (stk.map (vv ad)) (qq ret' post' (wd sh N D cI cZ cB ad (va_A (wsOf sh N cI cZ cB ad M) H.size)) (va_A (wsOf sh N cI cZ cB ad M) H.size) a) (va_A (wsOf sh N cI cZ cB ad M) H.size))
    (hS : va_S A s.heap H locs) (hA : ∀ q, s.heap.size ≤ q → A q) (hD : ∀ M, va_D A (wsOf sh N cI cZ cB ad M)) (hl : lv_has ls nL (lm ad lv))
    (kk : ∀ r M', inR r → post' r M' → KK sh N nL R p l e s m args below meth c D cI cZ cB ad A (ce + mc) (sn + ms) Q (pc + 3) lv (psh ret' r stk) M') : W p l e R s m args below meth c H locs ce sn Q (F0 m pc ls st0) := by
  have hF : ∀ q, va_A (wsOf sh N cI cZ cB ad M) H.size q → A q := by
    intro q h
    rcases h with ⟨k, e, h⟩ | h
    · exact (hD M).2 k _ h
    · exact hA q (Nat.le_trans hS.1 h)
  cases ret' with
  | none =>
    refine va_callv (a := a) hr hS (fun q _ h => hF q h) hF (fun u t H1 locs1 ht hvm hp hB hz1 hk1 hS1 => ?_)
    exact kk 0 u (by decide) hp hB.1 H1 locs1 ls (by rw [← ht]; exact hB.2.1) hS1 hl
  | some ty =>
    refine va_calli (a := a) hr hS (fun q _ h => hF q h) hF (fun r u t H1 locs1 ht hvm hp hB hz1 hk1 hS1 => ?_)
    obtain ⟨z, rfl, hz, hp⟩ := hp
    exact kk z u hz hp hB.1 H1 locs1 ls (by rw [← ht]; exact hB.2.1) hS1 hl
theorem k_callV (C : Ctx sh N own cc nL ret R post K) {y : MethodName} {bytes : ByteArray} {maxL index n : Nat} {ret' : Option FieldType} {rm : Room} {k ci nf : Nat} {fs : List (Option Nat)} {T : u_T} {As : List V} {post' : Int → Mem → Prop}
    (hw : okV own index y bytes maxL ret' n) (hd : decode cc pc = .ok (.invokevirtual index, 3)) (hc : Ct sh N y bytes maxL ret' rm (.inr k :: As) M post') (hst : stk0 = As.reverse ++ .inr k :: stk) (hs : sh k = .inr (ci, fs)) (hk : k < N) (hci : vwCl[ci]? = some (y.cls, T, nf))
    (hrm : rm.cells = 0 ∧ rm.slots = 0 ∧ rm.frames + 1 ≤ R.frames ∧ 8 + (maxL + 11) + rm.locals ≤ R.locals) (hn : As.length = n) (h8 : stk.length ≤ 8)
    (kk : ∀ r M', inR r → post' r M' → K (pc + 3) lv (psh ret' r stk) M') : K pc lv stk0 M := by
  obtain ⟨p, l, e, s, m, args, below, meth, c, D, cI, cZ, cB, ad, A, ⟨hx, hb, hml, hown, hts⟩, ⟨hr, hlk⟩, hK, hA, hD, rfl⟩ := C
  intro hM H locs ls hP hS hl
  have he := wsOf_at (sh := sh) (cI := cI) (cZ := cZ) (cB := cB) (ad := ad) (M := M) hk
  rw [hs] at he
  have hcode : Cond.code y bytes maxL ret' ∈ tbg := (hw.1 _ (by simp [wsV])).1
  have hG : GoodIn tbg (wsV own index y.cls y (.code y bytes maxL ret' :: tbg)) := by
    intro w hw'
    rcases List.mem_append.mp hw' with h | h
    · exact hw.1 w (List.mem_append_left _ h)
    · exact good_code hcode w h
  subst hst
  refine k_behind (sh := sh) (N := N) (nL := nL) (cI := cI) (cZ := cZ) (cB := cB) (mc := 0) (ms := 0) (va_runV (C := y.cls) (As := As.map (vv ad)) (rest := stk.map (vv ad)) ⟨hx, hb, hml, hown, hts⟩ (hc l D cI cZ cB ad H.size) (cwV n hts hG rfl hrm.1 hrm.2.1 ⟨rfl, hw.2⟩ hrm.2.2) ⟨fun a U g mk q => ?_, va_recv hK hP hci he, fun U hU hW => ⟨rfl, by rw [hU], hM, by rw [hU]; exact hP, va_K.moved hW.alike hK, ?_⟩⟩ rfl (by rw [List.length_map]; exact hn) hl.1 (by simp [vv]) (lv_room (by rw [vvs_cat]; exact h8)) hd ⟨Nat.zero_le _, Nat.zero_le _⟩) hS hA hD hl kk
  · exact ⟨q.1, q.2.1, wd_K (u := U) (U := U.calling g mk a) rfl (Vm.Alike.refl U.vm) q.2.2⟩
  · exact (hD M).weaken (fun _ _ _ _ => trivial)
theorem k_callS (C : Ctx sh N own cc nL ret R post K) {y : MethodName} {bytes : ByteArray} {maxL index n : Nat} {ret' : Option FieldType} {rm : Room} {As : List V} {post' : Int → Mem → Prop}
    (hw : okS own index y bytes maxL ret' n) (hd : decode cc pc = .ok (.invokestatic index, 3)) (hc : Ct sh N y bytes maxL ret' rm As M post') (hst : stk0 = As.reverse ++ stk)
    (hrm : rm.cells = 0 ∧ rm.slots = 0 ∧ rm.frames + 1 ≤ R.frames ∧ 8 + (maxL + 11) + rm.locals ≤ R.locals) (hn : As.length = n) (h8 : stk.length ≤ 8)
    (kk : ∀ r M', inR r → post' r M' → K (pc + 3) lv (psh ret' r stk) M') : K pc lv stk0 M := by
  obtain ⟨p, l, e, s, m, args, below, meth, c, D, cI, cZ, cB, ad, A, ⟨hx, hb, hml, hown, hts⟩, ⟨hr, hlk⟩, hK, hA, hD, rfl⟩ := C
  intro hM H locs ls hP hS hl
  have hcode : Cond.code y bytes maxL ret' ∈ tbg := (hw.1 _ (by simp [va_wsS])).1
  have hG : GoodIn tbg (va_wsS own index y (.code y bytes maxL ret' :: tbg)) := by
    intro w hw'
    rcases List.mem_append.mp hw' with h | h
    · exact hw.1 w (List.mem_append_left _ h)
    · exact good_code hcode w h
  subst hst
  refine k_behind (sh := sh) (N := N) (nL := nL) (cI := cI) (cZ := cZ) (cB := cB) (mc := 0) (ms := 0) (va_runS (As := As.map (vv ad)) (rest := stk.map (vv ad)) ⟨hx, hb, hml, hown, hts⟩ (hc l D cI cZ cB ad H.size) (va_cwS n hts hG rfl hrm.1 hrm.2.1 hw.2 hrm.2.2) ⟨fun a U g mk q => ?_, fun U hU hW => ⟨rfl, by rw [hU], hM, by rw [hU]; exact hP, va_K.moved hW.alike hK, ?_⟩⟩ rfl (by rw [List.length_map]; exact hn) hl.1 (by simp) (lv_room (by rw [vvs_cat]; exact h8)) hd ⟨Nat.zero_le _, Nat.zero_le _⟩) hS hA hD hl kk
  · exact ⟨q.1, q.2.1, wd_K (u := U) (U := U.calling g mk a) rfl (Vm.Alike.refl U.vm) q.2.2⟩
  · exact (hD M).weaken (fun _ _ _ _ => trivial)
theorem nw_of {w : Cond} {args : Array Value} {s : State} (hg : goodWord w = true) (h : w.before args s = true) : va_Nw w s := by
  rcases good_of_word hg with hc | ⟨ty, rfl⟩
  · simp only [Bool.and_eq_true] at hc
    have h1 := Cond.onTables_warm (T := s) (args' := #[]) (State.WarmedH.refl s) hc.1 hc.2 h
    rwa [State.setVm_self] at h1
  · exact h
theorem k_callN (C : Ctx sh N own cc nL ret R post K) {y : MethodName} {host : String} {bytes : ByteArray} {maxL index n : Nat} {ret' : Option FieldType} {rm : Room} {As : List V} {post' : Int → Mem → Prop}
    (hw : okN own index y host bytes maxL ret' n) (hd : decode cc pc = .ok (.invokestatic index, 3)) (hc : Ct sh N y bytes maxL ret' rm As M post') (hst : stk0 = As.reverse ++ stk)
    (hrm : rm.cells = 0 ∧ rm.slots = 0 ∧ rm.frames + 1 ≤ R.frames ∧ 8 + (maxL + 11) + rm.locals ≤ R.locals) (hn : As.length = n) (h8 : stk.length ≤ 8)
    (kk : ∀ r M', inR r → post' r M' → K (pc + 3) lv (psh ret' r stk) M') : K pc lv stk0 M := by
  obtain ⟨p, l, e, s, m, args, below, meth, c, D, cI, cZ, cB, ad, A, ⟨hx, hb, hml, hown, hts⟩, ⟨hr, hlk⟩, hK, hA, hD, rfl⟩ := C
  intro hM H locs ls hP hS hl
  have hcode : Cond.code y bytes maxL ret' ∈ tbg := (hw.1 _ (by simp)).1
  have h1 := hw.1 (.methodLinkNest own index y host) (by simp)
  have h2 := hw.1 (.static y) (by simp)
  have h3 := hw.1 (.initialized y.cls) (by simp)
  subst hst
  refine k_behind (sh := sh) (N := N) (nL := nL) (cI := cI) (cZ := cZ) (cB := cB) (mc := 0) (ms := 0) (va_runSN (As := As.map (vv ad)) (rest := stk.map (vv ad)) ⟨hx, hb, hml, hown, hts⟩ (hc l D cI cZ cB ad H.size) ⟨va_cnB n hts (good_code hcode) rfl hrm.1 hrm.2.1 (nw_of (List.all_eq_true.mp tbl_good _ h1.1) (hts _ h1.1)) (hts _ h3.1) hw.2 hrm.2.2, hts _ h2.1, trivial⟩ ⟨fun a U g mk q => ?_, fun U hU hW => ⟨rfl, by rw [hU], hM, by rw [hU]; exact hP, va_K.moved hW.alike hK, ?_⟩⟩ rfl (by rw [List.length_map]; exact hn) hl.1 (by simp) (lv_room (by rw [vvs_cat]; exact h8)) hd ⟨Nat.zero_le _, Nat.zero_le _⟩) hS hA hD hl kk
  · exact ⟨q.1, q.2.1, wd_K (u := U) (U := U.calling g mk a) rfl (Vm.Alike.refl U.vm) q.2.2⟩
  · exact (hD M).weaken (fun _ _ _ _ => trivial)
end CALLS
end
