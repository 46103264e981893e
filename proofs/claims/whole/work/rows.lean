section
/-- a private method of a class that the tables say can be made, by its rows of tables_1 -/
def lw_okq (q : MethodName × Nat) : Prop := (q.1.cls ≠ "java/lang/invoke/MethodHandle" ∧ q.1.cls ≠ "java/lang/invoke/VarHandle") ∧ Cond.instantiable q.1.cls q.2 ∈ tables_1 ∧ Cond.privateMethod q.1 ∈ tables_1 ∧ Cond.instanceMethod q.1 ∈ tables_1
theorem lw_p0 : lw_okq (⟨"UsageDesk$Tree", "addNode", "(II)I"⟩, 7) := ⟨⟨by decide +kernel, by decide +kernel⟩, List.mem_of_getElem? (i := 89) (by decide +kernel), List.mem_of_getElem? (i := 399) (by decide +kernel), List.mem_of_getElem? (i := 400) (by decide +kernel)⟩
theorem lw_p1 : lw_okq (⟨"UsageDesk$Book", "beginsWith", "(II)Z"⟩, 7) := ⟨⟨by decide +kernel, by decide +kernel⟩, List.mem_of_getElem? (i := 51) (by decide +kernel), List.mem_of_getElem? (i := 423) (by decide +kernel), List.mem_of_getElem? (i := 424) (by decide +kernel)⟩
theorem lw_p2 : lw_okq (⟨"UsageDesk$Tree", "askForChildren", "(I)V"⟩, 7) := ⟨⟨by decide +kernel, by decide +kernel⟩, List.mem_of_getElem? (i := 89) (by decide +kernel), List.mem_of_getElem? (i := 431) (by decide +kernel), List.mem_of_getElem? (i := 432) (by decide +kernel)⟩
theorem lw_p3 : lw_okq (⟨"UsageDesk$Tree", "nameChildren", "(II)V"⟩, 7) := ⟨⟨by decide +kernel, by decide +kernel⟩, List.mem_of_getElem? (i := 89) (by decide +kernel), List.mem_of_getElem? (i := 439) (by decide +kernel), List.mem_of_getElem? (i := 440) (by decide +kernel)⟩
theorem lw_p4 : lw_okq (⟨"UsageDesk$Tree", "goDown", "(I)V"⟩, 7) := ⟨⟨by decide +kernel, by decide +kernel⟩, List.mem_of_getElem? (i := 89) (by decide +kernel), List.mem_of_getElem? (i := 443) (by decide +kernel), List.mem_of_getElem? (i := 444) (by decide +kernel)⟩
theorem lw_p5 : lw_okq (⟨"UsageDesk$Melter", "meltsWithKept", "(I)Z"⟩, 13) := ⟨⟨by decide +kernel, by decide +kernel⟩, List.mem_of_getElem? (i := 124) (by decide +kernel), List.mem_of_getElem? (i := 464) (by decide +kernel), List.mem_of_getElem? (i := 465) (by decide +kernel)⟩
theorem lw_p6 : lw_okq (⟨"UsageDesk$Melter", "melt", "(II)V"⟩, 13) := ⟨⟨by decide +kernel, by decide +kernel⟩, List.mem_of_getElem? (i := 124) (by decide +kernel), List.mem_of_getElem? (i := 468) (by decide +kernel), List.mem_of_getElem? (i := 469) (by decide +kernel)⟩
theorem lw_p7 : lw_okq (⟨"UsageDesk$Melter", "addPair", "(II)V"⟩, 13) := ⟨⟨by decide +kernel, by decide +kernel⟩, List.mem_of_getElem? (i := 124) (by decide +kernel), List.mem_of_getElem? (i := 472) (by decide +kernel), List.mem_of_getElem? (i := 473) (by decide +kernel)⟩
theorem lw_p8 : lw_okq (⟨"UsageDesk$Melter", "standing", "(I)I"⟩, 13) := ⟨⟨by decide +kernel, by decide +kernel⟩, List.mem_of_getElem? (i := 124) (by decide +kernel), List.mem_of_getElem? (i := 476) (by decide +kernel), List.mem_of_getElem? (i := 477) (by decide +kernel)⟩
theorem lw_p9 : lw_okq (⟨"UsageDesk$Melter", "join", "(II)V"⟩, 13) := ⟨⟨by decide +kernel, by decide +kernel⟩, List.mem_of_getElem? (i := 124) (by decide +kernel), List.mem_of_getElem? (i := 484) (by decide +kernel), List.mem_of_getElem? (i := 485) (by decide +kernel)⟩
theorem lw_p10 : lw_okq (⟨"UsageDesk$Melter", "takesBindingRow", "()Z"⟩, 13) := ⟨⟨by decide +kernel, by decide +kernel⟩, List.mem_of_getElem? (i := 124) (by decide +kernel), List.mem_of_getElem? (i := 488) (by decide +kernel), List.mem_of_getElem? (i := 489) (by decide +kernel)⟩
theorem lw_p11 : lw_okq (⟨"UsageDesk$Melter", "takesRow", "(I)Z"⟩, 13) := ⟨⟨by decide +kernel, by decide +kernel⟩, List.mem_of_getElem? (i := 124) (by decide +kernel), List.mem_of_getElem? (i := 492) (by decide +kernel), List.mem_of_getElem? (i := 493) (by decide +kernel)⟩
theorem lw_p12 : lw_okq (⟨"UsageDesk$Melter", "shortenWays", "()V"⟩, 13) := ⟨⟨by decide +kernel, by decide +kernel⟩, List.mem_of_getElem? (i := 124) (by decide +kernel), List.mem_of_getElem? (i := 499) (by decide +kernel), List.mem_of_getElem? (i := 500) (by decide +kernel)⟩
theorem lw_p13 : lw_okq (⟨"UsageDesk$Melter", "takeBack", "()V"⟩, 13) := ⟨⟨by decide +kernel, by decide +kernel⟩, List.mem_of_getElem? (i := 124) (by decide +kernel), List.mem_of_getElem? (i := 503) (by decide +kernel), List.mem_of_getElem? (i := 504) (by decide +kernel)⟩
theorem lw_p14 : lw_okq (⟨"UsageDesk$Law", "countRow", "(LUsageDesk$Book;II)V"⟩, 3) := ⟨⟨by decide +kernel, by decide +kernel⟩, List.mem_of_getElem? (i := 170) (by decide +kernel), List.mem_of_getElem? (i := 528) (by decide +kernel), List.mem_of_getElem? (i := 529) (by decide +kernel)⟩
theorem lw_p15 : lw_okq (⟨"UsageDesk$Fewest", "placeFrom", "(II)Z"⟩, 5) := ⟨⟨by decide +kernel, by decide +kernel⟩, List.mem_of_getElem? (i := 191) (by decide +kernel), List.mem_of_getElem? (i := 560) (by decide +kernel), List.mem_of_getElem? (i := 561) (by decide +kernel)⟩
def lw_privs_1 : List (MethodName × Nat) := [(⟨"UsageDesk$Tree", "addNode", "(II)I"⟩, 7), (⟨"UsageDesk$Book", "beginsWith", "(II)Z"⟩, 7), (⟨"UsageDesk$Tree", "askForChildren", "(I)V"⟩, 7), (⟨"UsageDesk$Tree", "nameChildren", "(II)V"⟩, 7), (⟨"UsageDesk$Tree", "goDown", "(I)V"⟩, 7), (⟨"UsageDesk$Melter", "meltsWithKept", "(I)Z"⟩, 13), (⟨"UsageDesk$Melter", "melt", "(II)V"⟩, 13), (⟨"UsageDesk$Melter", "addPair", "(II)V"⟩, 13), (⟨"UsageDesk$Melter", "standing", "(I)I"⟩, 13), (⟨"UsageDesk$Melter", "join", "(II)V"⟩, 13), (⟨"UsageDesk$Melter", "takesBindingRow", "()Z"⟩, 13), (⟨"UsageDesk$Melter", "takesRow", "(I)Z"⟩, 13), (⟨"UsageDesk$Melter", "shortenWays", "()V"⟩, 13), (⟨"UsageDesk$Melter", "takeBack", "()V"⟩, 13), (⟨"UsageDesk$Law", "countRow", "(LUsageDesk$Book;II)V"⟩, 3), (⟨"UsageDesk$Fewest", "placeFrom", "(II)Z"⟩, 5)]
theorem lw_r1 : ∀ q ∈ lw_privs_1, lw_okq q := List.forall_mem_cons.mpr ⟨lw_p0, List.forall_mem_cons.mpr ⟨lw_p1, List.forall_mem_cons.mpr ⟨lw_p2, List.forall_mem_cons.mpr ⟨lw_p3, List.forall_mem_cons.mpr ⟨lw_p4, List.forall_mem_cons.mpr ⟨lw_p5, List.forall_mem_cons.mpr ⟨lw_p6, List.forall_mem_cons.mpr ⟨lw_p7, List.forall_mem_cons.mpr ⟨lw_p8, List.forall_mem_cons.mpr ⟨lw_p9, List.forall_mem_cons.mpr ⟨lw_p10, List.forall_mem_cons.mpr ⟨lw_p11, List.forall_mem_cons.mpr ⟨lw_p12, List.forall_mem_cons.mpr ⟨lw_p13, List.forall_mem_cons.mpr ⟨lw_p14, List.forall_mem_cons.mpr ⟨lw_p15, fun _ h => absurd h List.not_mem_nil⟩⟩⟩⟩⟩⟩⟩⟩⟩⟩⟩⟩⟩⟩⟩⟩
theorem lw_p16 : lw_okq (⟨"UsageDesk$Fewest", "slotInto", "(I)I"⟩, 5) := ⟨⟨by decide +kernel, by decide +kernel⟩, List.mem_of_getElem? (i := 191) (by decide +kernel), List.mem_of_getElem? (i := 564) (by decide +kernel), List.mem_of_getElem? (i := 565) (by decide +kernel)⟩
theorem lw_p17 : lw_okq (⟨"UsageDesk$Fewest", "stateAt", "(I)I"⟩, 5) := ⟨⟨by decide +kernel, by decide +kernel⟩, List.mem_of_getElem? (i := 191) (by decide +kernel), List.mem_of_getElem? (i := 568) (by decide +kernel), List.mem_of_getElem? (i := 569) (by decide +kernel)⟩
theorem lw_p18 : lw_okq (⟨"UsageDesk$Fewest", "placeFree", "(III)Z"⟩, 5) := ⟨⟨by decide +kernel, by decide +kernel⟩, List.mem_of_getElem? (i := 191) (by decide +kernel), List.mem_of_getElem? (i := 576) (by decide +kernel), List.mem_of_getElem? (i := 577) (by decide +kernel)⟩
theorem lw_p19 : lw_okq (⟨"UsageDesk$Fewest", "barredSlots", "()I"⟩, 5) := ⟨⟨by decide +kernel, by decide +kernel⟩, List.mem_of_getElem? (i := 191) (by decide +kernel), List.mem_of_getElem? (i := 580) (by decide +kernel), List.mem_of_getElem? (i := 581) (by decide +kernel)⟩
theorem lw_p20 : lw_okq (⟨"UsageDesk$Fewest", "slotLackedBy", "(I)I"⟩, 5) := ⟨⟨by decide +kernel, by decide +kernel⟩, List.mem_of_getElem? (i := 191) (by decide +kernel), List.mem_of_getElem? (i := 584) (by decide +kernel), List.mem_of_getElem? (i := 585) (by decide +kernel)⟩
theorem lw_p21 : lw_okq (⟨"UsageDesk$Fewest", "isLost", "(II)Z"⟩, 5) := ⟨⟨by decide +kernel, by decide +kernel⟩, List.mem_of_getElem? (i := 191) (by decide +kernel), List.mem_of_getElem? (i := 590) (by decide +kernel), List.mem_of_getElem? (i := 591) (by decide +kernel)⟩
theorem lw_p22 : lw_okq (⟨"UsageDesk", "addBytes", "(I)V"⟩, 11) := ⟨⟨by decide +kernel, by decide +kernel⟩, List.mem_of_getElem? (i := 21) (by decide +kernel), List.mem_of_getElem? (i := 599) (by decide +kernel), List.mem_of_getElem? (i := 600) (by decide +kernel)⟩
theorem lw_p23 : lw_okq (⟨"UsageDesk$Holder", "meet", "(II)V"⟩, 10) := ⟨⟨by decide +kernel, by decide +kernel⟩, List.mem_of_getElem? (i := 250) (by decide +kernel), List.mem_of_getElem? (i := 615) (by decide +kernel), List.mem_of_getElem? (i := 616) (by decide +kernel)⟩
theorem lw_p24 : lw_okq (⟨"UsageDesk$Holder", "closeGroup", "(II)V"⟩, 10) := ⟨⟨by decide +kernel, by decide +kernel⟩, List.mem_of_getElem? (i := 250) (by decide +kernel), List.mem_of_getElem? (i := 619) (by decide +kernel), List.mem_of_getElem? (i := 620) (by decide +kernel)⟩
theorem lw_p25 : lw_okq (⟨"UsageDesk$Holder", "spread", "(II)V"⟩, 10) := ⟨⟨by decide +kernel, by decide +kernel⟩, List.mem_of_getElem? (i := 250) (by decide +kernel), List.mem_of_getElem? (i := 623) (by decide +kernel), List.mem_of_getElem? (i := 624) (by decide +kernel)⟩
theorem lw_p26 : lw_okq (⟨"UsageDesk$Holder", "enterBracket", "(II)V"⟩, 10) := ⟨⟨by decide +kernel, by decide +kernel⟩, List.mem_of_getElem? (i := 250) (by decide +kernel), List.mem_of_getElem? (i := 627) (by decide +kernel), List.mem_of_getElem? (i := 628) (by decide +kernel)⟩
theorem lw_p27 : lw_okq (⟨"UsageDesk$Holder", "breaks", "(II)Z"⟩, 10) := ⟨⟨by decide +kernel, by decide +kernel⟩, List.mem_of_getElem? (i := 250) (by decide +kernel), List.mem_of_getElem? (i := 631) (by decide +kernel), List.mem_of_getElem? (i := 632) (by decide +kernel)⟩
theorem lw_p28 : lw_okq (⟨"UsageDesk$Holder", "writeBreak", "(II)V"⟩, 10) := ⟨⟨by decide +kernel, by decide +kernel⟩, List.mem_of_getElem? (i := 250) (by decide +kernel), List.mem_of_getElem? (i := 641) (by decide +kernel), List.mem_of_getElem? (i := 642) (by decide +kernel)⟩
theorem lw_p29 : lw_okq (⟨"UsageDesk$Mender", "reckonCosts", "()V"⟩, 6) := ⟨⟨by decide +kernel, by decide +kernel⟩, List.mem_of_getElem? (i := 290) (by decide +kernel), List.mem_of_getElem? (i := 662) (by decide +kernel), List.mem_of_getElem? (i := 663) (by decide +kernel)⟩
theorem lw_p30 : lw_okq (⟨"UsageDesk$Mender", "costFrom", "(II)I"⟩, 6) := ⟨⟨by decide +kernel, by decide +kernel⟩, List.mem_of_getElem? (i := 290) (by decide +kernel), List.mem_of_getElem? (i := 667) (by decide +kernel), List.mem_of_getElem? (i := 668) (by decide +kernel)⟩
theorem lw_p31 : lw_okq (⟨"UsageDesk$Mender", "costKeeping", "(II)I"⟩, 6) := ⟨⟨by decide +kernel, by decide +kernel⟩, List.mem_of_getElem? (i := 290) (by decide +kernel), List.mem_of_getElem? (i := 671) (by decide +kernel), List.mem_of_getElem? (i := 672) (by decide +kernel)⟩
def lw_privs_2 : List (MethodName × Nat) := [(⟨"UsageDesk$Fewest", "slotInto", "(I)I"⟩, 5), (⟨"UsageDesk$Fewest", "stateAt", "(I)I"⟩, 5), (⟨"UsageDesk$Fewest", "placeFree", "(III)Z"⟩, 5), (⟨"UsageDesk$Fewest", "barredSlots", "()I"⟩, 5), (⟨"UsageDesk$Fewest", "slotLackedBy", "(I)I"⟩, 5), (⟨"UsageDesk$Fewest", "isLost", "(II)Z"⟩, 5), (⟨"UsageDesk", "addBytes", "(I)V"⟩, 11), (⟨"UsageDesk$Holder", "meet", "(II)V"⟩, 10), (⟨"UsageDesk$Holder", "closeGroup", "(II)V"⟩, 10), (⟨"UsageDesk$Holder", "spread", "(II)V"⟩, 10), (⟨"UsageDesk$Holder", "enterBracket", "(II)V"⟩, 10), (⟨"UsageDesk$Holder", "breaks", "(II)Z"⟩, 10), (⟨"UsageDesk$Holder", "writeBreak", "(II)V"⟩, 10), (⟨"UsageDesk$Mender", "reckonCosts", "()V"⟩, 6), (⟨"UsageDesk$Mender", "costFrom", "(II)I"⟩, 6), (⟨"UsageDesk$Mender", "costKeeping", "(II)I"⟩, 6)]
theorem lw_r2 : ∀ q ∈ lw_privs_2, lw_okq q := List.forall_mem_cons.mpr ⟨lw_p16, List.forall_mem_cons.mpr ⟨lw_p17, List.forall_mem_cons.mpr ⟨lw_p18, List.forall_mem_cons.mpr ⟨lw_p19, List.forall_mem_cons.mpr ⟨lw_p20, List.forall_mem_cons.mpr ⟨lw_p21, List.forall_mem_cons.mpr ⟨lw_p22, List.forall_mem_cons.mpr ⟨lw_p23, List.forall_mem_cons.mpr ⟨lw_p24, List.forall_mem_cons.mpr ⟨lw_p25, List.forall_mem_cons.mpr ⟨lw_p26, List.forall_mem_cons.mpr ⟨lw_p27, List.forall_mem_cons.mpr ⟨lw_p28, List.forall_mem_cons.mpr ⟨lw_p29, List.forall_mem_cons.mpr ⟨lw_p30, List.forall_mem_cons.mpr ⟨lw_p31, fun _ h => absurd h List.not_mem_nil⟩⟩⟩⟩⟩⟩⟩⟩⟩⟩⟩⟩⟩⟩⟩⟩
theorem lw_p32 : lw_okq (⟨"UsageDesk$Mender", "lowerByPutting", "(I)Z"⟩, 6) := ⟨⟨by decide +kernel, by decide +kernel⟩, List.mem_of_getElem? (i := 290) (by decide +kernel), List.mem_of_getElem? (i := 678) (by decide +kernel), List.mem_of_getElem? (i := 679) (by decide +kernel)⟩
theorem lw_p33 : lw_okq (⟨"UsageDesk$Mender", "costPutting", "(III)I"⟩, 6) := ⟨⟨by decide +kernel, by decide +kernel⟩, List.mem_of_getElem? (i := 290) (by decide +kernel), List.mem_of_getElem? (i := 682) (by decide +kernel), List.mem_of_getElem? (i := 683) (by decide +kernel)⟩
theorem lw_p34 : lw_okq (⟨"UsageDesk$Mender", "goCheapestWay", "()V"⟩, 6) := ⟨⟨by decide +kernel, by decide +kernel⟩, List.mem_of_getElem? (i := 290) (by decide +kernel), List.mem_of_getElem? (i := 686) (by decide +kernel), List.mem_of_getElem? (i := 687) (by decide +kernel)⟩
theorem lw_p35 : lw_okq (⟨"UsageDesk$Mender", "goOneOn", "(I)V"⟩, 6) := ⟨⟨by decide +kernel, by decide +kernel⟩, List.mem_of_getElem? (i := 290) (by decide +kernel), List.mem_of_getElem? (i := 690) (by decide +kernel), List.mem_of_getElem? (i := 691) (by decide +kernel)⟩
theorem lw_p36 : lw_okq (⟨"UsageDesk$Mender", "make", "(I)V"⟩, 6) := ⟨⟨by decide +kernel, by decide +kernel⟩, List.mem_of_getElem? (i := 290) (by decide +kernel), List.mem_of_getElem? (i := 694) (by decide +kernel), List.mem_of_getElem? (i := 695) (by decide +kernel)⟩
theorem lw_p37 : lw_okq (⟨"java/lang/Throwable", "fillInStackTrace", "(I)Ljava/lang/Throwable;"⟩, 6) := ⟨⟨by decide +kernel, by decide +kernel⟩, List.mem_of_getElem? (i := 757) (by decide +kernel), List.mem_of_getElem? (i := 755) (by decide +kernel), List.mem_of_getElem? (i := 756) (by decide +kernel)⟩
theorem lw_p38 : lw_okq (⟨"UsageDesk", "checkStep", "(II)V"⟩, 11) := ⟨⟨by decide +kernel, by decide +kernel⟩, List.mem_of_getElem? (i := 21) (by decide +kernel), List.mem_of_getElem? (i := 833) (by decide +kernel), List.mem_of_getElem? (i := 834) (by decide +kernel)⟩
theorem lw_p39 : lw_okq (⟨"UsageDesk$Routine", "endS", "(II)V"⟩, 8) := ⟨⟨by decide +kernel, by decide +kernel⟩, List.mem_of_getElem? (i := 213) (by decide +kernel), List.mem_of_getElem? (i := 868) (by decide +kernel), List.mem_of_getElem? (i := 869) (by decide +kernel)⟩
theorem lw_p40 : lw_okq (⟨"UsageDesk$Routine", "closeBracket", "(II)V"⟩, 8) := ⟨⟨by decide +kernel, by decide +kernel⟩, List.mem_of_getElem? (i := 213) (by decide +kernel), List.mem_of_getElem? (i := 872) (by decide +kernel), List.mem_of_getElem? (i := 873) (by decide +kernel)⟩
theorem lw_p41 : lw_okq (⟨"UsageDesk$Habits", "findLastPlaces", "(I)V"⟩, 4) := ⟨⟨by decide +kernel, by decide +kernel⟩, List.mem_of_getElem? (i := 317) (by decide +kernel), List.mem_of_getElem? (i := 889) (by decide +kernel), List.mem_of_getElem? (i := 890) (by decide +kernel)⟩
theorem lw_p42 : lw_okq (⟨"UsageDesk$Habits", "addRow", "()V"⟩, 4) := ⟨⟨by decide +kernel, by decide +kernel⟩, List.mem_of_getElem? (i := 317) (by decide +kernel), List.mem_of_getElem? (i := 896) (by decide +kernel), List.mem_of_getElem? (i := 897) (by decide +kernel)⟩
theorem lw_p43 : lw_okq (⟨"UsageDesk$Habits", "isRanked", "(I)Z"⟩, 4) := ⟨⟨by decide +kernel, by decide +kernel⟩, List.mem_of_getElem? (i := 317) (by decide +kernel), List.mem_of_getElem? (i := 919) (by decide +kernel), List.mem_of_getElem? (i := 920) (by decide +kernel)⟩
theorem lw_p44 : lw_okq (⟨"UsageDesk$Habits", "countAhead", "(I)I"⟩, 4) := ⟨⟨by decide +kernel, by decide +kernel⟩, List.mem_of_getElem? (i := 317) (by decide +kernel), List.mem_of_getElem? (i := 924) (by decide +kernel), List.mem_of_getElem? (i := 925) (by decide +kernel)⟩
theorem lw_p45 : lw_okq (⟨"UsageDesk$Habits", "isAhead", "(II)Z"⟩, 4) := ⟨⟨by decide +kernel, by decide +kernel⟩, List.mem_of_getElem? (i := 317) (by decide +kernel), List.mem_of_getElem? (i := 928) (by decide +kernel), List.mem_of_getElem? (i := 929) (by decide +kernel)⟩
theorem lw_p46 : lw_okq (⟨"UsageDeskModel", "clearBreak", "()V"⟩, 55) := ⟨⟨by decide +kernel, by decide +kernel⟩, List.mem_of_getElem? (i := 933) (by decide +kernel), List.mem_of_getElem? (i := 939) (by decide +kernel), List.mem_of_getElem? (i := 940) (by decide +kernel)⟩
theorem lw_p47 : lw_okq (⟨"UsageDeskModel", "bad", "(ZI)Z"⟩, 55) := ⟨⟨by decide +kernel, by decide +kernel⟩, List.mem_of_getElem? (i := 933) (by decide +kernel), List.mem_of_getElem? (i := 1120) (by decide +kernel), List.mem_of_getElem? (i := 1121) (by decide +kernel)⟩
def lw_privs_3 : List (MethodName × Nat) := [(⟨"UsageDesk$Mender", "lowerByPutting", "(I)Z"⟩, 6), (⟨"UsageDesk$Mender", "costPutting", "(III)I"⟩, 6), (⟨"UsageDesk$Mender", "goCheapestWay", "()V"⟩, 6), (⟨"UsageDesk$Mender", "goOneOn", "(I)V"⟩, 6), (⟨"UsageDesk$Mender", "make", "(I)V"⟩, 6), (⟨"java/lang/Throwable", "fillInStackTrace", "(I)Ljava/lang/Throwable;"⟩, 6), (⟨"UsageDesk", "checkStep", "(II)V"⟩, 11), (⟨"UsageDesk$Routine", "endS", "(II)V"⟩, 8), (⟨"UsageDesk$Routine", "closeBracket", "(II)V"⟩, 8), (⟨"UsageDesk$Habits", "findLastPlaces", "(I)V"⟩, 4), (⟨"UsageDesk$Habits", "addRow", "()V"⟩, 4), (⟨"UsageDesk$Habits", "isRanked", "(I)Z"⟩, 4), (⟨"UsageDesk$Habits", "countAhead", "(I)I"⟩, 4), (⟨"UsageDesk$Habits", "isAhead", "(II)Z"⟩, 4), (⟨"UsageDeskModel", "clearBreak", "()V"⟩, 55), (⟨"UsageDeskModel", "bad", "(ZI)Z"⟩, 55)]
theorem lw_r3 : ∀ q ∈ lw_privs_3, lw_okq q := List.forall_mem_cons.mpr ⟨lw_p32, List.forall_mem_cons.mpr ⟨lw_p33, List.forall_mem_cons.mpr ⟨lw_p34, List.forall_mem_cons.mpr ⟨lw_p35, List.forall_mem_cons.mpr ⟨lw_p36, List.forall_mem_cons.mpr ⟨lw_p37, List.forall_mem_cons.mpr ⟨lw_p38, List.forall_mem_cons.mpr ⟨lw_p39, List.forall_mem_cons.mpr ⟨lw_p40, List.forall_mem_cons.mpr ⟨lw_p41, List.forall_mem_cons.mpr ⟨lw_p42, List.forall_mem_cons.mpr ⟨lw_p43, List.forall_mem_cons.mpr ⟨lw_p44, List.forall_mem_cons.mpr ⟨lw_p45, List.forall_mem_cons.mpr ⟨lw_p46, List.forall_mem_cons.mpr ⟨lw_p47, fun _ h => absurd h List.not_mem_nil⟩⟩⟩⟩⟩⟩⟩⟩⟩⟩⟩⟩⟩⟩⟩⟩
theorem lw_p48 : lw_okq (⟨"UsageDeskModel", "isRow", "(I)Z"⟩, 55) := ⟨⟨by decide +kernel, by decide +kernel⟩, List.mem_of_getElem? (i := 933) (by decide +kernel), List.mem_of_getElem? (i := 1140) (by decide +kernel), List.mem_of_getElem? (i := 1141) (by decide +kernel)⟩
theorem lw_p49 : lw_okq (⟨"UsageDeskModel", "cutOf", "(I)I"⟩, 55) := ⟨⟨by decide +kernel, by decide +kernel⟩, List.mem_of_getElem? (i := 933) (by decide +kernel), List.mem_of_getElem? (i := 1148) (by decide +kernel), List.mem_of_getElem? (i := 1149) (by decide +kernel)⟩
theorem lw_p50 : lw_okq (⟨"UsageDeskModel", "quarrels", "(II)Z"⟩, 55) := ⟨⟨by decide +kernel, by decide +kernel⟩, List.mem_of_getElem? (i := 933) (by decide +kernel), List.mem_of_getElem? (i := 1152) (by decide +kernel), List.mem_of_getElem? (i := 1153) (by decide +kernel)⟩
theorem lw_p51 : lw_okq (⟨"UsageDeskModel", "isLeftOut", "(I)Z"⟩, 55) := ⟨⟨by decide +kernel, by decide +kernel⟩, List.mem_of_getElem? (i := 933) (by decide +kernel), List.mem_of_getElem? (i := 1156) (by decide +kernel), List.mem_of_getElem? (i := 1157) (by decide +kernel)⟩
theorem lw_p52 : lw_okq (⟨"UsageDeskModel", "tree", "()V"⟩, 55) := ⟨⟨by decide +kernel, by decide +kernel⟩, List.mem_of_getElem? (i := 933) (by decide +kernel), List.mem_of_getElem? (i := 1164) (by decide +kernel), List.mem_of_getElem? (i := 1165) (by decide +kernel)⟩
theorem lw_p53 : lw_okq (⟨"UsageDeskModel", "melts", "(II)V"⟩, 55) := ⟨⟨by decide +kernel, by decide +kernel⟩, List.mem_of_getElem? (i := 933) (by decide +kernel), List.mem_of_getElem? (i := 1168) (by decide +kernel), List.mem_of_getElem? (i := 1169) (by decide +kernel)⟩
theorem lw_p54 : lw_okq (⟨"UsageDeskModel", "leastOf", "(I)I"⟩, 55) := ⟨⟨by decide +kernel, by decide +kernel⟩, List.mem_of_getElem? (i := 933) (by decide +kernel), List.mem_of_getElem? (i := 1172) (by decide +kernel), List.mem_of_getElem? (i := 1173) (by decide +kernel)⟩
theorem lw_p55 : lw_okq (⟨"UsageDeskModel", "sets", "(II)V"⟩, 55) := ⟨⟨by decide +kernel, by decide +kernel⟩, List.mem_of_getElem? (i := 933) (by decide +kernel), List.mem_of_getElem? (i := 1176) (by decide +kernel), List.mem_of_getElem? (i := 1177) (by decide +kernel)⟩
theorem lw_p56 : lw_okq (⟨"UsageDeskModel", "takesWrong", "()Z"⟩, 55) := ⟨⟨by decide +kernel, by decide +kernel⟩, List.mem_of_getElem? (i := 933) (by decide +kernel), List.mem_of_getElem? (i := 1180) (by decide +kernel), List.mem_of_getElem? (i := 1181) (by decide +kernel)⟩
theorem lw_p57 : lw_okq (⟨"UsageDeskModel", "takesBack", "()V"⟩, 55) := ⟨⟨by decide +kernel, by decide +kernel⟩, List.mem_of_getElem? (i := 933) (by decide +kernel), List.mem_of_getElem? (i := 1184) (by decide +kernel), List.mem_of_getElem? (i := 1185) (by decide +kernel)⟩
theorem lw_p58 : lw_okq (⟨"UsageDeskModel", "placeOf", "(II)I"⟩, 55) := ⟨⟨by decide +kernel, by decide +kernel⟩, List.mem_of_getElem? (i := 933) (by decide +kernel), List.mem_of_getElem? (i := 1188) (by decide +kernel), List.mem_of_getElem? (i := 1189) (by decide +kernel)⟩
theorem lw_p59 : lw_okq (⟨"UsageDeskModel", "isStep", "(II)Z"⟩, 55) := ⟨⟨by decide +kernel, by decide +kernel⟩, List.mem_of_getElem? (i := 933) (by decide +kernel), List.mem_of_getElem? (i := 1196) (by decide +kernel), List.mem_of_getElem? (i := 1197) (by decide +kernel)⟩
theorem lw_p60 : lw_okq (⟨"UsageDeskModel", "isWrongTaken", "()Z"⟩, 55) := ⟨⟨by decide +kernel, by decide +kernel⟩, List.mem_of_getElem? (i := 933) (by decide +kernel), List.mem_of_getElem? (i := 1216) (by decide +kernel), List.mem_of_getElem? (i := 1217) (by decide +kernel)⟩
theorem lw_p61 : lw_okq (⟨"UsageDeskModel", "can", "(III)Z"⟩, 55) := ⟨⟨by decide +kernel, by decide +kernel⟩, List.mem_of_getElem? (i := 933) (by decide +kernel), List.mem_of_getElem? (i := 1220) (by decide +kernel), List.mem_of_getElem? (i := 1221) (by decide +kernel)⟩
theorem lw_p62 : lw_okq (⟨"UsageDeskModel", "reads", "(I)I"⟩, 55) := ⟨⟨by decide +kernel, by decide +kernel⟩, List.mem_of_getElem? (i := 933) (by decide +kernel), List.mem_of_getElem? (i := 1232) (by decide +kernel), List.mem_of_getElem? (i := 1233) (by decide +kernel)⟩
theorem lw_p63 : lw_okq (⟨"UsageDeskModel", "now", "()I"⟩, 55) := ⟨⟨by decide +kernel, by decide +kernel⟩, List.mem_of_getElem? (i := 933) (by decide +kernel), List.mem_of_getElem? (i := 1236) (by decide +kernel), List.mem_of_getElem? (i := 1237) (by decide +kernel)⟩
def lw_privs_4 : List (MethodName × Nat) := [(⟨"UsageDeskModel", "isRow", "(I)Z"⟩, 55), (⟨"UsageDeskModel", "cutOf", "(I)I"⟩, 55), (⟨"UsageDeskModel", "quarrels", "(II)Z"⟩, 55), (⟨"UsageDeskModel", "isLeftOut", "(I)Z"⟩, 55), (⟨"UsageDeskModel", "tree", "()V"⟩, 55), (⟨"UsageDeskModel", "melts", "(II)V"⟩, 55), (⟨"UsageDeskModel", "leastOf", "(I)I"⟩, 55), (⟨"UsageDeskModel", "sets", "(II)V"⟩, 55), (⟨"UsageDeskModel", "takesWrong", "()Z"⟩, 55), (⟨"UsageDeskModel", "takesBack", "()V"⟩, 55), (⟨"UsageDeskModel", "placeOf", "(II)I"⟩, 55), (⟨"UsageDeskModel", "isStep", "(II)Z"⟩, 55), (⟨"UsageDeskModel", "isWrongTaken", "()Z"⟩, 55), (⟨"UsageDeskModel", "can", "(III)Z"⟩, 55), (⟨"UsageDeskModel", "reads", "(I)I"⟩, 55), (⟨"UsageDeskModel", "now", "()I"⟩, 55)]
theorem lw_r4 : ∀ q ∈ lw_privs_4, lw_okq q := List.forall_mem_cons.mpr ⟨lw_p48, List.forall_mem_cons.mpr ⟨lw_p49, List.forall_mem_cons.mpr ⟨lw_p50, List.forall_mem_cons.mpr ⟨lw_p51, List.forall_mem_cons.mpr ⟨lw_p52, List.forall_mem_cons.mpr ⟨lw_p53, List.forall_mem_cons.mpr ⟨lw_p54, List.forall_mem_cons.mpr ⟨lw_p55, List.forall_mem_cons.mpr ⟨lw_p56, List.forall_mem_cons.mpr ⟨lw_p57, List.forall_mem_cons.mpr ⟨lw_p58, List.forall_mem_cons.mpr ⟨lw_p59, List.forall_mem_cons.mpr ⟨lw_p60, List.forall_mem_cons.mpr ⟨lw_p61, List.forall_mem_cons.mpr ⟨lw_p62, List.forall_mem_cons.mpr ⟨lw_p63, fun _ h => absurd h List.not_mem_nil⟩⟩⟩⟩⟩⟩⟩⟩⟩⟩⟩⟩⟩⟩⟩⟩
theorem lw_p64 : lw_okq (⟨"UsageDeskModel", "state", "()I"⟩, 55) := ⟨⟨by decide +kernel, by decide +kernel⟩, List.mem_of_getElem? (i := 933) (by decide +kernel), List.mem_of_getElem? (i := 1240) (by decide +kernel), List.mem_of_getElem? (i := 1241) (by decide +kernel)⟩
theorem lw_p65 : lw_okq (⟨"UsageDeskModel", "adds", "(III)V"⟩, 55) := ⟨⟨by decide +kernel, by decide +kernel⟩, List.mem_of_getElem? (i := 933) (by decide +kernel), List.mem_of_getElem? (i := 1244) (by decide +kernel), List.mem_of_getElem? (i := 1245) (by decide +kernel)⟩
theorem lw_p66 : lw_okq (⟨"UsageDeskModel", "bracket", "(I)I"⟩, 55) := ⟨⟨by decide +kernel, by decide +kernel⟩, List.mem_of_getElem? (i := 933) (by decide +kernel), List.mem_of_getElem? (i := 1248) (by decide +kernel), List.mem_of_getElem? (i := 1249) (by decide +kernel)⟩
theorem lw_p67 : lw_okq (⟨"UsageDeskModel", "isNearer", "(II)Z"⟩, 55) := ⟨⟨by decide +kernel, by decide +kernel⟩, List.mem_of_getElem? (i := 933) (by decide +kernel), List.mem_of_getElem? (i := 1257) (by decide +kernel), List.mem_of_getElem? (i := 1258) (by decide +kernel)⟩
theorem lw_p68 : lw_okq (⟨"UsageDeskModel", "closes", "()V"⟩, 55) := ⟨⟨by decide +kernel, by decide +kernel⟩, List.mem_of_getElem? (i := 933) (by decide +kernel), List.mem_of_getElem? (i := 1261) (by decide +kernel), List.mem_of_getElem? (i := 1262) (by decide +kernel)⟩
theorem lw_p69 : lw_okq (⟨"UsageDeskModel", "leads", "(III)Z"⟩, 55) := ⟨⟨by decide +kernel, by decide +kernel⟩, List.mem_of_getElem? (i := 933) (by decide +kernel), List.mem_of_getElem? (i := 1265) (by decide +kernel), List.mem_of_getElem? (i := 1266) (by decide +kernel)⟩
theorem lw_p70 : lw_okq (⟨"UsageDeskModel", "breaksOn", "(I)V"⟩, 55) := ⟨⟨by decide +kernel, by decide +kernel⟩, List.mem_of_getElem? (i := 933) (by decide +kernel), List.mem_of_getElem? (i := 1269) (by decide +kernel), List.mem_of_getElem? (i := 1270) (by decide +kernel)⟩
theorem lw_p71 : lw_okq (⟨"UsageDeskModel", "goesOn", "(II)I"⟩, 55) := ⟨⟨by decide +kernel, by decide +kernel⟩, List.mem_of_getElem? (i := 933) (by decide +kernel), List.mem_of_getElem? (i := 1273) (by decide +kernel), List.mem_of_getElem? (i := 1274) (by decide +kernel)⟩
theorem lw_p72 : lw_okq (⟨"UsageDeskModel", "habits", "()V"⟩, 55) := ⟨⟨by decide +kernel, by decide +kernel⟩, List.mem_of_getElem? (i := 933) (by decide +kernel), List.mem_of_getElem? (i := 1289) (by decide +kernel), List.mem_of_getElem? (i := 1290) (by decide +kernel)⟩
theorem lw_p73 : lw_okq (⟨"UsageDeskModel", "isAhead", "(II)Z"⟩, 55) := ⟨⟨by decide +kernel, by decide +kernel⟩, List.mem_of_getElem? (i := 933) (by decide +kernel), List.mem_of_getElem? (i := 1297) (by decide +kernel), List.mem_of_getElem? (i := 1298) (by decide +kernel)⟩
def lw_privs_5 : List (MethodName × Nat) := [(⟨"UsageDeskModel", "state", "()I"⟩, 55), (⟨"UsageDeskModel", "adds", "(III)V"⟩, 55), (⟨"UsageDeskModel", "bracket", "(I)I"⟩, 55), (⟨"UsageDeskModel", "isNearer", "(II)Z"⟩, 55), (⟨"UsageDeskModel", "closes", "()V"⟩, 55), (⟨"UsageDeskModel", "leads", "(III)Z"⟩, 55), (⟨"UsageDeskModel", "breaksOn", "(I)V"⟩, 55), (⟨"UsageDeskModel", "goesOn", "(II)I"⟩, 55), (⟨"UsageDeskModel", "habits", "()V"⟩, 55), (⟨"UsageDeskModel", "isAhead", "(II)Z"⟩, 55)]
theorem lw_r5 : ∀ q ∈ lw_privs_5, lw_okq q := List.forall_mem_cons.mpr ⟨lw_p64, List.forall_mem_cons.mpr ⟨lw_p65, List.forall_mem_cons.mpr ⟨lw_p66, List.forall_mem_cons.mpr ⟨lw_p67, List.forall_mem_cons.mpr ⟨lw_p68, List.forall_mem_cons.mpr ⟨lw_p69, List.forall_mem_cons.mpr ⟨lw_p70, List.forall_mem_cons.mpr ⟨lw_p71, List.forall_mem_cons.mpr ⟨lw_p72, List.forall_mem_cons.mpr ⟨lw_p73, fun _ h => absurd h List.not_mem_nil⟩⟩⟩⟩⟩⟩⟩⟩⟩⟩
def lw_privs : List (MethodName × Nat) := lw_privs_1 ++ (lw_privs_2 ++ (lw_privs_3 ++ (lw_privs_4 ++ (lw_privs_5))))
def lw_tbl : List Cond := k2_sels lw_privs ++ tables_1
theorem lw_privs_ok : ∀ q ∈ lw_privs, lw_okq q := by
  show ∀ q ∈ lw_privs_1 ++ (lw_privs_2 ++ (lw_privs_3 ++ (lw_privs_4 ++ (lw_privs_5)))), lw_okq q
  exact List.forall_mem_append.mpr ⟨lw_r1, List.forall_mem_append.mpr ⟨lw_r2, List.forall_mem_append.mpr ⟨lw_r3, List.forall_mem_append.mpr ⟨lw_r4, lw_r5⟩⟩⟩⟩
end
section
def RX0 : String := "UsageDesk$Book"
def TX0 : u_T := fun k => match k with
  | 0 => ("UsageDesk$Book", "calls", "[I", true)
  | 1 => ("UsageDesk$Book", "sizes", "[I", true)
  | 2 => ("UsageDesk$Book", "right", "[Z", true)
  | 3 => ("UsageDesk$Book", "there", "[Z", true)
  | 4 => ("UsageDesk$Book", "binding", "[I", true)
  | 5 => ("UsageDesk$Book", "bindingSize", "I", false)
  | _ => ("UsageDesk$Book", "told", "I", false)
def tyX0 : Nat → FieldType := fun k => match k with
  | 0 => .array .int
  | 1 => .array .int
  | 2 => .array .boolean
  | 3 => .array .boolean
  | 4 => .array .int
  | 5 => .int
  | _ => .int
abbrev wsX00 : List Cond := u_ws RX0 TX0 7
theorem nmX0 : ∀ a, a < 7 → ∀ b, b < 7 → a ≠ b → (TX0 a).2.1 ≠ (TX0 b).2.1 := by decide +kernel
theorem tyX0_ok : ∀ k, k < 7 → parseFieldDescriptor (TX0 k).2.2.1 = some (tyX0 k) := by decide +kernel
abbrev cX0_init : ByteArray := prog_2_method_1_code
def yX0_init : MethodName := ⟨RX0, "<init>", "()V"⟩
abbrev cX0_knows : ByteArray := prog_2_method_2_code
def yX0_knows : MethodName := ⟨RX0, "knows", "(I)Z"⟩
abbrev cX0_enter : ByteArray := prog_2_method_3_code
def yX0_enter : MethodName := ⟨RX0, "enter", "(LUsageDesk$Line;Z)I"⟩
abbrev cX0_sizeOf : ByteArray := prog_2_method_4_code
def yX0_sizeOf : MethodName := ⟨RX0, "sizeOf", "(I)I"⟩
abbrev cX0_callAt : ByteArray := prog_2_method_5_code
def yX0_callAt : MethodName := ⟨RX0, "callAt", "(II)I"⟩
abbrev cX0_isRightThere : ByteArray := prog_2_method_6_code
def yX0_isRightThere : MethodName := ⟨RX0, "isRightThere", "(I)Z"⟩
abbrev cX0_isWrongThere : ByteArray := prog_2_method_7_code
def yX0_isWrongThere : MethodName := ⟨RX0, "isWrongThere", "(I)Z"⟩
abbrev cX0_countThere : ByteArray := prog_2_method_8_code
def yX0_countThere : MethodName := ⟨RX0, "countThere", "()I"⟩
abbrev cX0_standingOf : ByteArray := prog_2_method_9_code
def yX0_standingOf : MethodName := ⟨RX0, "standingOf", "(I)I"⟩
abbrev cX0_cutSize : ByteArray := prog_2_method_10_code
def yX0_cutSize : MethodName := ⟨RX0, "cutSize", "(I)I"⟩
abbrev cX0_isLeftOut : ByteArray := prog_2_method_11_code
def yX0_isLeftOut : MethodName := ⟨RX0, "isLeftOut", "(I)Z"⟩
abbrev cX0_gatherBinding : ByteArray := prog_2_method_12_code
def yX0_gatherBinding : MethodName := ⟨RX0, "gatherBinding", "()V"⟩
abbrev cX0_beginsWith : ByteArray := prog_2_method_13_code
def yX0_beginsWith : MethodName := ⟨RX0, "beginsWith", "(II)Z"⟩
def RX1 : String := "UsageDesk$Fewest"
def TX1 : u_T := fun k => match k with
  | 0 => ("UsageDesk$Fewest", "book", "LUsageDesk$Book;", true)
  | 1 => ("UsageDesk$Fewest", "tree", "LUsageDesk$Tree;", true)
  | 2 => ("UsageDesk$Fewest", "next", "[I", true)
  | 3 => ("UsageDesk$Fewest", "stateOf", "[I", true)
  | _ => ("UsageDesk$Fewest", "allowed", "I", false)
def tyX1 : Nat → FieldType := fun k => match k with
  | 0 => .object "UsageDesk$Book"
  | 1 => .object "UsageDesk$Tree"
  | 2 => .array .int
  | 3 => .array .int
  | _ => .int
abbrev wsX10 : List Cond := u_ws RX1 TX1 5
theorem nmX1 : ∀ a, a < 5 → ∀ b, b < 5 → a ≠ b → (TX1 a).2.1 ≠ (TX1 b).2.1 := by decide +kernel
theorem tyX1_ok : ∀ k, k < 5 → parseFieldDescriptor (TX1 k).2.2.1 = some (tyX1 k) := by decide +kernel
abbrev cX1_init : ByteArray := prog_3_method_1_code
def yX1_init : MethodName := ⟨RX1, "<init>", "(LUsageDesk$Book;LUsageDesk$Tree;)V"⟩
abbrev cX1_states : ByteArray := prog_3_method_2_code
def yX1_states : MethodName := ⟨RX1, "states", "()I"⟩
abbrev cX1_placeFrom : ByteArray := prog_3_method_3_code
def yX1_placeFrom : MethodName := ⟨RX1, "placeFrom", "(II)Z"⟩
abbrev cX1_placeFree : ByteArray := prog_3_method_4_code
def yX1_placeFree : MethodName := ⟨RX1, "placeFree", "(III)Z"⟩
abbrev cX1_slotInto : ByteArray := prog_3_method_5_code
def yX1_slotInto : MethodName := ⟨RX1, "slotInto", "(I)I"⟩
abbrev cX1_stateAt : ByteArray := prog_3_method_6_code
def yX1_stateAt : MethodName := ⟨RX1, "stateAt", "(I)I"⟩
abbrev cX1_slotOf : ByteArray := prog_3_method_7_code
def yX1_slotOf : MethodName := ⟨RX1, "slotOf", "(II)I"⟩
abbrev cX1_isLost : ByteArray := prog_3_method_8_code
def yX1_isLost : MethodName := ⟨RX1, "isLost", "(II)Z"⟩
abbrev cX1_barredSlots : ByteArray := prog_3_method_9_code
def yX1_barredSlots : MethodName := ⟨RX1, "barredSlots", "()I"⟩
abbrev cX1_slotLackedBy : ByteArray := prog_3_method_10_code
def yX1_slotLackedBy : MethodName := ⟨RX1, "slotLackedBy", "(I)I"⟩
def RX2 : String := "UsageDesk$Habits"
def TX2 : u_T := fun k => match k with
  | 0 => ("UsageDesk$Habits", "book", "LUsageDesk$Book;", true)
  | 1 => ("UsageDesk$Habits", "have", "[I", true)
  | 2 => ("UsageDesk$Habits", "holds", "[I", true)
  | _ => ("UsageDesk$Habits", "lastPlace", "[I", true)
def tyX2 : Nat → FieldType := fun k => match k with
  | 0 => .object "UsageDesk$Book"
  | 1 => .array .int
  | 2 => .array .int
  | _ => .array .int
abbrev wsX20 : List Cond := u_ws RX2 TX2 4
theorem nmX2 : ∀ a, a < 4 → ∀ b, b < 4 → a ≠ b → (TX2 a).2.1 ≠ (TX2 b).2.1 := by decide +kernel
theorem tyX2_ok : ∀ k, k < 4 → parseFieldDescriptor (TX2 k).2.2.1 = some (tyX2 k) := by decide +kernel
abbrev cX2_init : ByteArray := prog_4_method_1_code
def yX2_init : MethodName := ⟨RX2, "<init>", "(LUsageDesk$Book;)V"⟩
abbrev cX2_having : ByteArray := prog_4_method_2_code
def yX2_having : MethodName := ⟨RX2, "having", "(I)I"⟩
abbrev cX2_holding : ByteArray := prog_4_method_3_code
def yX2_holding : MethodName := ⟨RX2, "holding", "(II)I"⟩
abbrev cX2_survey : ByteArray := prog_4_method_4_code
def yX2_survey : MethodName := ⟨RX2, "survey", "()V"⟩
abbrev cX2_findLastPlaces : ByteArray := prog_4_method_5_code
def yX2_findLastPlaces : MethodName := ⟨RX2, "findLastPlaces", "(I)V"⟩
abbrev cX2_addRow : ByteArray := prog_4_method_6_code
def yX2_addRow : MethodName := ⟨RX2, "addRow", "()V"⟩
abbrev cX2_atRank : ByteArray := prog_4_method_7_code
def yX2_atRank : MethodName := ⟨RX2, "atRank", "(I)I"⟩
abbrev cX2_isRanked : ByteArray := prog_4_method_8_code
def yX2_isRanked : MethodName := ⟨RX2, "isRanked", "(I)Z"⟩
abbrev cX2_countAhead : ByteArray := prog_4_method_9_code
def yX2_countAhead : MethodName := ⟨RX2, "countAhead", "(I)I"⟩
abbrev cX2_isAhead : ByteArray := prog_4_method_10_code
def yX2_isAhead : MethodName := ⟨RX2, "isAhead", "(II)Z"⟩
def RX3 : String := "UsageDesk$Holder"
def TX3 : u_T := fun k => match k with
  | 0 => ("UsageDesk$Holder", "text", "LUsageDesk$Routine;", true)
  | 1 => ("UsageDesk$Holder", "law", "LUsageDesk$Law;", true)
  | 2 => ("UsageDesk$Holder", "pairs", "[I", true)
  | 3 => ("UsageDesk$Holder", "met", "[Z", true)
  | 4 => ("UsageDesk$Holder", "groupStart", "[I", true)
  | 5 => ("UsageDesk$Holder", "groupFrom", "[I", true)
  | 6 => ("UsageDesk$Holder", "groupCall", "[I", true)
  | 7 => ("UsageDesk$Holder", "found", "LUsageDesk$Line;", true)
  | 8 => ("UsageDesk$Holder", "pairSize", "I", false)
  | _ => ("UsageDesk$Holder", "groupSize", "I", false)
def tyX3 : Nat → FieldType := fun k => match k with
  | 0 => .object "UsageDesk$Routine"
  | 1 => .object "UsageDesk$Law"
  | 2 => .array .int
  | 3 => .array .boolean
  | 4 => .array .int
  | 5 => .array .int
  | 6 => .array .int
  | 7 => .object "UsageDesk$Line"
  | 8 => .int
  | _ => .int
abbrev wsX30 : List Cond := u_ws RX3 TX3 10
theorem nmX3 : ∀ a, a < 10 → ∀ b, b < 10 → a ≠ b → (TX3 a).2.1 ≠ (TX3 b).2.1 := by decide +kernel
theorem tyX3_ok : ∀ k, k < 10 → parseFieldDescriptor (TX3 k).2.2.1 = some (tyX3 k) := by decide +kernel
abbrev cX3_init : ByteArray := prog_5_method_1_code
def yX3_init : MethodName := ⟨RX3, "<init>", "(LUsageDesk$Routine;LUsageDesk$Law;)V"⟩
abbrev cX3_findBreak : ByteArray := prog_5_method_2_code
def yX3_findBreak : MethodName := ⟨RX3, "findBreak", "()V"⟩
abbrev cX3_breaks : ByteArray := prog_5_method_3_code
def yX3_breaks : MethodName := ⟨RX3, "breaks", "(II)Z"⟩
abbrev cX3_meet : ByteArray := prog_5_method_4_code
def yX3_meet : MethodName := ⟨RX3, "meet", "(II)V"⟩
abbrev cX3_closeGroup : ByteArray := prog_5_method_5_code
def yX3_closeGroup : MethodName := ⟨RX3, "closeGroup", "(II)V"⟩
abbrev cX3_spread : ByteArray := prog_5_method_6_code
def yX3_spread : MethodName := ⟨RX3, "spread", "(II)V"⟩
abbrev cX3_enterBracket : ByteArray := prog_5_method_7_code
def yX3_enterBracket : MethodName := ⟨RX3, "enterBracket", "(II)V"⟩
abbrev cX3_writeBreak : ByteArray := prog_5_method_8_code
def yX3_writeBreak : MethodName := ⟨RX3, "writeBreak", "(II)V"⟩
def RX4 : String := "UsageDesk$Law"
def TX4 : u_T := fun k => match k with
  | 0 => ("UsageDesk$Law", "next", "[I", true)
  | 1 => ("UsageDesk$Law", "times", "[I", true)
  | _ => ("UsageDesk$Law", "states", "I", false)
def tyX4 : Nat → FieldType := fun k => match k with
  | 0 => .array .int
  | 1 => .array .int
  | _ => .int
abbrev wsX40 : List Cond := u_ws RX4 TX4 3
theorem nmX4 : ∀ a, a < 3 → ∀ b, b < 3 → a ≠ b → (TX4 a).2.1 ≠ (TX4 b).2.1 := by decide +kernel
theorem tyX4_ok : ∀ k, k < 3 → parseFieldDescriptor (TX4 k).2.2.1 = some (tyX4 k) := by decide +kernel
abbrev cX4_init : ByteArray := prog_6_method_1_code
def yX4_init : MethodName := ⟨RX4, "<init>", "()V"⟩
abbrev cX4_clear : ByteArray := prog_6_method_2_code
def yX4_clear : MethodName := ⟨RX4, "clear", "(I)V"⟩
abbrev cX4_hasState : ByteArray := prog_6_method_3_code
def yX4_hasState : MethodName := ⟨RX4, "hasState", "(I)Z"⟩
abbrev cX4_setStep : ByteArray := prog_6_method_4_code
def yX4_setStep : MethodName := ⟨RX4, "setStep", "(III)V"⟩
abbrev cX4_after : ByteArray := prog_6_method_5_code
def yX4_after : MethodName := ⟨RX4, "after", "(II)I"⟩
abbrev cX4_timesOver : ByteArray := prog_6_method_6_code
def yX4_timesOver : MethodName := ⟨RX4, "timesOver", "(II)I"⟩
abbrev cX4_countOver : ByteArray := prog_6_method_7_code
def yX4_countOver : MethodName := ⟨RX4, "countOver", "(LUsageDesk$Book;LUsageDesk$Tree;)V"⟩
abbrev cX4_countRow : ByteArray := prog_6_method_8_code
def yX4_countRow : MethodName := ⟨RX4, "countRow", "(LUsageDesk$Book;II)V"⟩
abbrev cX4_countSteps : ByteArray := prog_6_method_9_code
def yX4_countSteps : MethodName := ⟨RX4, "countSteps", "()I"⟩
abbrev cX4_stepsBelow : ByteArray := prog_6_method_10_code
def yX4_stepsBelow : MethodName := ⟨RX4, "stepsBelow", "(I)I"⟩
def RX5 : String := "UsageDesk$Line"
def TX5 : u_T := fun k => match k with
  | 0 => ("UsageDesk$Line", "cells", "[I", true)
  | _ => ("UsageDesk$Line", "size", "I", false)
def tyX5 : Nat → FieldType := fun k => match k with
  | 0 => .array .int
  | _ => .int
abbrev wsX50 : List Cond := u_ws RX5 TX5 2
theorem nmX5 : ∀ a, a < 2 → ∀ b, b < 2 → a ≠ b → (TX5 a).2.1 ≠ (TX5 b).2.1 := by decide +kernel
theorem tyX5_ok : ∀ k, k < 2 → parseFieldDescriptor (TX5 k).2.2.1 = some (tyX5 k) := by decide +kernel
abbrev cX5_init : ByteArray := prog_7_method_1_code
def yX5_init : MethodName := ⟨RX5, "<init>", "(I)V"⟩
abbrev cX5_append : ByteArray := prog_7_method_2_code
def yX5_append : MethodName := ⟨RX5, "append", "(I)Z"⟩
abbrev cX5_at : ByteArray := prog_7_method_3_code
def yX5_at : MethodName := ⟨RX5, "at", "(I)I"⟩
abbrev cX5_turnRound : ByteArray := prog_7_method_4_code
def yX5_turnRound : MethodName := ⟨RX5, "turnRound", "()V"⟩
def RX6 : String := "UsageDesk$Melter"
def TX6 : u_T := fun k => match k with
  | 0 => ("UsageDesk$Melter", "book", "LUsageDesk$Book;", true)
  | 1 => ("UsageDesk$Melter", "tree", "LUsageDesk$Tree;", true)
  | 2 => ("UsageDesk$Melter", "into", "[I", true)
  | 3 => ("UsageDesk$Melter", "kept", "[I", true)
  | 4 => ("UsageDesk$Melter", "stateOf", "[I", true)
  | 5 => ("UsageDesk$Melter", "pairLeft", "[I", true)
  | 6 => ("UsageDesk$Melter", "pairRight", "[I", true)
  | 7 => ("UsageDesk$Melter", "meltedNodes", "[I", true)
  | 8 => ("UsageDesk$Melter", "changedSlots", "[I", true)
  | 9 => ("UsageDesk$Melter", "keptSize", "I", false)
  | 10 => ("UsageDesk$Melter", "pairSize", "I", false)
  | 11 => ("UsageDesk$Melter", "meltedSize", "I", false)
  | _ => ("UsageDesk$Melter", "changedSize", "I", false)
def tyX6 : Nat → FieldType := fun k => match k with
  | 0 => .object "UsageDesk$Book"
  | 1 => .object "UsageDesk$Tree"
  | 2 => .array .int
  | 3 => .array .int
  | 4 => .array .int
  | 5 => .array .int
  | 6 => .array .int
  | 7 => .array .int
  | 8 => .array .int
  | 9 => .int
  | 10 => .int
  | 11 => .int
  | _ => .int
abbrev wsX60 : List Cond := u_ws RX6 TX6 13
theorem nmX6 : ∀ a, a < 13 → ∀ b, b < 13 → a ≠ b → (TX6 a).2.1 ≠ (TX6 b).2.1 := by decide +kernel
theorem tyX6_ok : ∀ k, k < 13 → parseFieldDescriptor (TX6 k).2.2.1 = some (tyX6 k) := by decide +kernel
abbrev cX6_init : ByteArray := prog_8_method_1_code
def yX6_init : MethodName := ⟨RX6, "<init>", "(LUsageDesk$Book;LUsageDesk$Tree;)V"⟩
abbrev cX6_meltAll : ByteArray := prog_8_method_2_code
def yX6_meltAll : MethodName := ⟨RX6, "meltAll", "()Z"⟩
abbrev cX6_writeInto : ByteArray := prog_8_method_3_code
def yX6_writeInto : MethodName := ⟨RX6, "writeInto", "(LUsageDesk$Law;)V"⟩
abbrev cX6_meltsWithKept : ByteArray := prog_8_method_4_code
def yX6_meltsWithKept : MethodName := ⟨RX6, "meltsWithKept", "(I)Z"⟩
abbrev cX6_melt : ByteArray := prog_8_method_5_code
def yX6_melt : MethodName := ⟨RX6, "melt", "(II)V"⟩
abbrev cX6_addPair : ByteArray := prog_8_method_6_code
def yX6_addPair : MethodName := ⟨RX6, "addPair", "(II)V"⟩
abbrev cX6_join : ByteArray := prog_8_method_7_code
def yX6_join : MethodName := ⟨RX6, "join", "(II)V"⟩
abbrev cX6_takeBack : ByteArray := prog_8_method_8_code
def yX6_takeBack : MethodName := ⟨RX6, "takeBack", "()V"⟩
abbrev cX6_shortenWays : ByteArray := prog_8_method_9_code
def yX6_shortenWays : MethodName := ⟨RX6, "shortenWays", "()V"⟩
abbrev cX6_standing : ByteArray := prog_8_method_10_code
def yX6_standing : MethodName := ⟨RX6, "standing", "(I)I"⟩
abbrev cX6_takesBindingRow : ByteArray := prog_8_method_11_code
def yX6_takesBindingRow : MethodName := ⟨RX6, "takesBindingRow", "()Z"⟩
abbrev cX6_takesRow : ByteArray := prog_8_method_12_code
def yX6_takesRow : MethodName := ⟨RX6, "takesRow", "(I)Z"⟩
def RX7 : String := "UsageDesk$Mender"
def TX7 : u_T := fun k => match k with
  | 0 => ("UsageDesk$Mender", "hand", "LUsageDesk$Line;", true)
  | 1 => ("UsageDesk$Mender", "law", "LUsageDesk$Law;", true)
  | 2 => ("UsageDesk$Mender", "costs", "[I", true)
  | 3 => ("UsageDesk$Mender", "made", "LUsageDesk$Line;", true)
  | 4 => ("UsageDesk$Mender", "place", "I", false)
  | _ => ("UsageDesk$Mender", "state", "I", false)
def tyX7 : Nat → FieldType := fun k => match k with
  | 0 => .object "UsageDesk$Line"
  | 1 => .object "UsageDesk$Law"
  | 2 => .array .int
  | 3 => .object "UsageDesk$Line"
  | 4 => .int
  | _ => .int
abbrev wsX70 : List Cond := u_ws RX7 TX7 6
theorem nmX7 : ∀ a, a < 6 → ∀ b, b < 6 → a ≠ b → (TX7 a).2.1 ≠ (TX7 b).2.1 := by decide +kernel
theorem tyX7_ok : ∀ k, k < 6 → parseFieldDescriptor (TX7 k).2.2.1 = some (tyX7 k) := by decide +kernel
abbrev cX7_init : ByteArray := prog_9_method_1_code
def yX7_init : MethodName := ⟨RX7, "<init>", "(LUsageDesk$Line;LUsageDesk$Law;)V"⟩
abbrev cX7_mendHand : ByteArray := prog_9_method_2_code
def yX7_mendHand : MethodName := ⟨RX7, "mendHand", "()I"⟩
abbrev cX7_costFrom : ByteArray := prog_9_method_3_code
def yX7_costFrom : MethodName := ⟨RX7, "costFrom", "(II)I"⟩
abbrev cX7_reckonCosts : ByteArray := prog_9_method_4_code
def yX7_reckonCosts : MethodName := ⟨RX7, "reckonCosts", "()V"⟩
abbrev cX7_costKeeping : ByteArray := prog_9_method_5_code
def yX7_costKeeping : MethodName := ⟨RX7, "costKeeping", "(II)I"⟩
abbrev cX7_costPutting : ByteArray := prog_9_method_6_code
def yX7_costPutting : MethodName := ⟨RX7, "costPutting", "(III)I"⟩
abbrev cX7_lowerByPutting : ByteArray := prog_9_method_7_code
def yX7_lowerByPutting : MethodName := ⟨RX7, "lowerByPutting", "(I)Z"⟩
abbrev cX7_goCheapestWay : ByteArray := prog_9_method_8_code
def yX7_goCheapestWay : MethodName := ⟨RX7, "goCheapestWay", "()V"⟩
abbrev cX7_goOneOn : ByteArray := prog_9_method_9_code
def yX7_goOneOn : MethodName := ⟨RX7, "goOneOn", "(I)V"⟩
abbrev cX7_make : ByteArray := prog_9_method_10_code
def yX7_make : MethodName := ⟨RX7, "make", "(I)V"⟩
def RX8 : String := "UsageDesk$Routine"
def TX8 : u_T := fun k => match k with
  | 0 => ("UsageDesk$Routine", "text", "[I", true)
  | 1 => ("UsageDesk$Routine", "sEnd", "[I", true)
  | 2 => ("UsageDesk$Routine", "partner", "[I", true)
  | 3 => ("UsageDesk$Routine", "behind", "[I", true)
  | 4 => ("UsageDesk$Routine", "repeated", "[Z", true)
  | 5 => ("UsageDesk$Routine", "openAt", "[I", true)
  | 6 => ("UsageDesk$Routine", "latestStart", "[I", true)
  | _ => ("UsageDesk$Routine", "size", "I", false)
def tyX8 : Nat → FieldType := fun k => match k with
  | 0 => .array .int
  | 1 => .array .int
  | 2 => .array .int
  | 3 => .array .int
  | 4 => .array .boolean
  | 5 => .array .int
  | 6 => .array .int
  | _ => .int
abbrev wsX80 : List Cond := u_ws RX8 TX8 8
theorem nmX8 : ∀ a, a < 8 → ∀ b, b < 8 → a ≠ b → (TX8 a).2.1 ≠ (TX8 b).2.1 := by decide +kernel
theorem tyX8_ok : ∀ k, k < 8 → parseFieldDescriptor (TX8 k).2.2.1 = some (tyX8 k) := by decide +kernel
abbrev cX8_init : ByteArray := prog_10_method_1_code
def yX8_init : MethodName := ⟨RX8, "<init>", "()V"⟩
abbrev cX8_faultIn : ByteArray := prog_10_method_2_code
def yX8_faultIn : MethodName := ⟨RX8, "faultIn", "([II)I"⟩
abbrev cX8_mayStand : ByteArray := prog_10_method_3_code
def yX8_mayStand : MethodName := ⟨RX8, "mayStand", "(IIZ)Z"⟩
abbrev cX8_replaceBy : ByteArray := prog_10_method_4_code
def yX8_replaceBy : MethodName := ⟨RX8, "replaceBy", "([II)V"⟩
abbrev cX8_endS : ByteArray := prog_10_method_5_code
def yX8_endS : MethodName := ⟨RX8, "endS", "(II)V"⟩
abbrev cX8_closeBracket : ByteArray := prog_10_method_6_code
def yX8_closeBracket : MethodName := ⟨RX8, "closeBracket", "(II)V"⟩
abbrev cX8_callAt : ByteArray := prog_10_method_7_code
def yX8_callAt : MethodName := ⟨RX8, "callAt", "(I)I"⟩
def RX9 : String := "UsageDesk$Tree"
def TX9 : u_T := fun k => match k with
  | 0 => ("UsageDesk$Tree", "book", "LUsageDesk$Book;", true)
  | 1 => ("UsageDesk$Tree", "child", "[I", true)
  | 2 => ("UsageDesk$Tree", "parent", "[I", true)
  | 3 => ("UsageDesk$Tree", "lastCall", "[I", true)
  | 4 => ("UsageDesk$Tree", "cut", "[I", true)
  | 5 => ("UsageDesk$Tree", "reached", "[I", true)
  | _ => ("UsageDesk$Tree", "size", "I", false)
def tyX9 : Nat → FieldType := fun k => match k with
  | 0 => .object "UsageDesk$Book"
  | 1 => .array .int
  | 2 => .array .int
  | 3 => .array .int
  | 4 => .array .int
  | 5 => .array .int
  | _ => .int
abbrev wsX90 : List Cond := u_ws RX9 TX9 7
theorem nmX9 : ∀ a, a < 7 → ∀ b, b < 7 → a ≠ b → (TX9 a).2.1 ≠ (TX9 b).2.1 := by decide +kernel
theorem tyX9_ok : ∀ k, k < 7 → parseFieldDescriptor (TX9 k).2.2.1 = some (tyX9 k) := by decide +kernel
abbrev cX9_init : ByteArray := prog_11_method_1_code
def yX9_init : MethodName := ⟨RX9, "<init>", "(LUsageDesk$Book;)V"⟩
abbrev cX9_childOf : ByteArray := prog_11_method_2_code
def yX9_childOf : MethodName := ⟨RX9, "childOf", "(II)I"⟩
abbrev cX9_grow : ByteArray := prog_11_method_3_code
def yX9_grow : MethodName := ⟨RX9, "grow", "()V"⟩
abbrev cX9_addNode : ByteArray := prog_11_method_4_code
def yX9_addNode : MethodName := ⟨RX9, "addNode", "(II)I"⟩
abbrev cX9_askForChildren : ByteArray := prog_11_method_5_code
def yX9_askForChildren : MethodName := ⟨RX9, "askForChildren", "(I)V"⟩
abbrev cX9_nameChildren : ByteArray := prog_11_method_6_code
def yX9_nameChildren : MethodName := ⟨RX9, "nameChildren", "(II)V"⟩
abbrev cX9_goDown : ByteArray := prog_11_method_7_code
def yX9_goDown : MethodName := ⟨RX9, "goDown", "(I)V"⟩
def RX10 : String := "UsageDesk"
def TX10 : u_T := fun k => match k with
  | 0 => ("UsageDesk", "inHand", "LUsageDesk$Line;", true)
  | 1 => ("UsageDesk", "book", "LUsageDesk$Book;", true)
  | 2 => ("UsageDesk", "tree", "LUsageDesk$Tree;", true)
  | 3 => ("UsageDesk", "melter", "LUsageDesk$Melter;", true)
  | 4 => ("UsageDesk", "law", "LUsageDesk$Law;", true)
  | 5 => ("UsageDesk", "fewest", "LUsageDesk$Fewest;", true)
  | 6 => ("UsageDesk", "tape", "LUsageDesk$Line;", true)
  | 7 => ("UsageDesk", "latest", "LUsageDesk$Routine;", true)
  | 8 => ("UsageDesk", "holder", "LUsageDesk$Holder;", true)
  | 9 => ("UsageDesk", "mender", "LUsageDesk$Mender;", true)
  | _ => ("UsageDesk", "habits", "LUsageDesk$Habits;", true)
def tyX10 : Nat → FieldType := fun k => match k with
  | 0 => .object "UsageDesk$Line"
  | 1 => .object "UsageDesk$Book"
  | 2 => .object "UsageDesk$Tree"
  | 3 => .object "UsageDesk$Melter"
  | 4 => .object "UsageDesk$Law"
  | 5 => .object "UsageDesk$Fewest"
  | 6 => .object "UsageDesk$Line"
  | 7 => .object "UsageDesk$Routine"
  | 8 => .object "UsageDesk$Holder"
  | 9 => .object "UsageDesk$Mender"
  | _ => .object "UsageDesk$Habits"
abbrev wsX100 : List Cond := u_ws RX10 TX10 11
theorem nmX10 : ∀ a, a < 11 → ∀ b, b < 11 → a ≠ b → (TX10 a).2.1 ≠ (TX10 b).2.1 := by decide +kernel
theorem tyX10_ok : ∀ k, k < 11 → parseFieldDescriptor (TX10 k).2.2.1 = some (tyX10 k) := by decide +kernel
abbrev cX10_init : ByteArray := prog_1_method_1_code
def yX10_init : MethodName := ⟨RX10, "<init>", "()V"⟩
abbrev cX10_push : ByteArray := prog_1_method_2_code
def yX10_push : MethodName := ⟨RX10, "push", "(I)I"⟩
abbrev cX10_empty : ByteArray := prog_1_method_3_code
def yX10_empty : MethodName := ⟨RX10, "empty", "()I"⟩
abbrev cX10_hand : ByteArray := prog_1_method_4_code
def yX10_hand : MethodName := ⟨RX10, "hand", "(I)I"⟩
abbrev cX10_row : ByteArray := prog_1_method_5_code
def yX10_row : MethodName := ⟨RX10, "row", "(Z)I"⟩
abbrev cX10_drop : ByteArray := prog_1_method_6_code
def yX10_drop : MethodName := ⟨RX10, "drop", "(I)Z"⟩
abbrev cX10_told : ByteArray := prog_1_method_7_code
def yX10_told : MethodName := ⟨RX10, "told", "(II)I"⟩
abbrev cX10_learn : ByteArray := prog_1_method_8_code
def yX10_learn : MethodName := ⟨RX10, "learn", "()I"⟩
abbrev cX10_step : ByteArray := prog_1_method_9_code
def yX10_step : MethodName := ⟨RX10, "step", "(II)I"⟩
abbrev cX10_seen : ByteArray := prog_1_method_10_code
def yX10_seen : MethodName := ⟨RX10, "seen", "(II)I"⟩
abbrev cX10_doubt : ByteArray := prog_1_method_11_code
def yX10_doubt : MethodName := ⟨RX10, "doubt", "(I)I"⟩
abbrev cX10_takes : ByteArray := prog_1_method_12_code
def yX10_takes : MethodName := ⟨RX10, "takes", "()I"⟩
abbrev cX10_least : ByteArray := prog_1_method_13_code
def yX10_least : MethodName := ⟨RX10, "least", "()I"⟩
abbrev cX10_feed : ByteArray := prog_1_method_14_code
def yX10_feed : MethodName := ⟨RX10, "feed", "(IIIII)I"⟩
abbrev cX10_routine : ByteArray := prog_1_method_15_code
def yX10_routine : MethodName := ⟨RX10, "routine", "(I)I"⟩
abbrev cX10_hold : ByteArray := prog_1_method_16_code
def yX10_hold : MethodName := ⟨RX10, "hold", "()I"⟩
abbrev cX10_broken : ByteArray := prog_1_method_17_code
def yX10_broken : MethodName := ⟨RX10, "broken", "(I)I"⟩
abbrev cX10_mend : ByteArray := prog_1_method_18_code
def yX10_mend : MethodName := ⟨RX10, "mend", "()I"⟩
abbrev cX10_habit : ByteArray := prog_1_method_19_code
def yX10_habit : MethodName := ⟨RX10, "habit", "(III)I"⟩
abbrev cX10_rank : ByteArray := prog_1_method_20_code
def yX10_rank : MethodName := ⟨RX10, "rank", "(II)I"⟩
abbrev cX10_count : ByteArray := prog_1_method_21_code
def yX10_count : MethodName := ⟨RX10, "count", "(I)I"⟩
abbrev cX10_checkStep : ByteArray := prog_1_method_22_code
def yX10_checkStep : MethodName := ⟨RX10, "checkStep", "(II)V"⟩
abbrev cX10_addBytes : ByteArray := prog_1_method_23_code
def yX10_addBytes : MethodName := ⟨RX10, "addBytes", "(I)V"⟩
abbrev cX10_isCall : ByteArray := prog_1_method_24_code
def yX10_isCall : MethodName := ⟨RX10, "isCall", "(I)Z"⟩
def RX11 : String := "UsageDeskModel"
def TX11 : u_T := fun k => match k with
  | 0 => ("UsageDeskModel", "thrown", "I", false)
  | 1 => ("UsageDeskModel", "hand", "[I", true)
  | 2 => ("UsageDeskModel", "handMany", "I", false)
  | 3 => ("UsageDeskModel", "rowCalls", "[I", true)
  | 4 => ("UsageDeskModel", "rowMany", "[I", true)
  | 5 => ("UsageDeskModel", "isRight", "[Z", true)
  | 6 => ("UsageDeskModel", "isThere", "[Z", true)
  | 7 => ("UsageDeskModel", "rows", "I", false)
  | 8 => ("UsageDeskModel", "cut", "[I", true)
  | 9 => ("UsageDeskModel", "asks", "[Z", true)
  | 10 => ("UsageDeskModel", "child", "[I", true)
  | 11 => ("UsageDeskModel", "above", "[I", true)
  | 12 => ("UsageDeskModel", "by", "[I", true)
  | 13 => ("UsageDeskModel", "nodes", "I", false)
  | 14 => ("UsageDeskModel", "raw", "[I", true)
  | 15 => ("UsageDeskModel", "rawOf", "[I", true)
  | 16 => ("UsageDeskModel", "into", "[I", true)
  | 17 => ("UsageDeskModel", "steps", "[I", true)
  | 18 => ("UsageDeskModel", "pastAt", "[I", true)
  | 19 => ("UsageDeskModel", "pastWas", "[I", true)
  | 20 => ("UsageDeskModel", "past", "I", false)
  | 21 => ("UsageDeskModel", "waitOne", "[I", true)
  | 22 => ("UsageDeskModel", "waitOther", "[I", true)
  | 23 => ("UsageDeskModel", "lawStep", "[I", true)
  | 24 => ("UsageDeskModel", "lawSeen", "[I", true)
  | 25 => ("UsageDeskModel", "lawMany", "I", false)
  | 26 => ("UsageDeskModel", "kept", "[I", true)
  | 27 => ("UsageDeskModel", "stateOf", "[I", true)
  | 28 => ("UsageDeskModel", "goes", "[I", true)
  | 29 => ("UsageDeskModel", "tape", "[B", true)
  | 30 => ("UsageDeskModel", "taped", "I", false)
  | 31 => ("UsageDeskModel", "size", "I", false)
  | 32 => ("UsageDeskModel", "at", "I", false)
  | 33 => ("UsageDeskModel", "open", "I", false)
  | 34 => ("UsageDeskModel", "edgeFrom", "[I", true)
  | 35 => ("UsageDeskModel", "edgeTo", "[I", true)
  | 36 => ("UsageDeskModel", "edgeBy", "[I", true)
  | 37 => ("UsageDeskModel", "edges", "I", false)
  | 38 => ("UsageDeskModel", "states", "I", false)
  | 39 => ("UsageDeskModel", "end", "I", false)
  | 40 => ("UsageDeskModel", "newFrom", "[I", true)
  | 41 => ("UsageDeskModel", "newTo", "[I", true)
  | 42 => ("UsageDeskModel", "newBy", "[I", true)
  | 43 => ("UsageDeskModel", "newEdges", "I", false)
  | 44 => ("UsageDeskModel", "newStates", "I", false)
  | 45 => ("UsageDeskModel", "isWrong", "Z", false)
  | 46 => ("UsageDeskModel", "far", "[I", true)
  | 47 => ("UsageDeskModel", "in", "[Z", true)
  | 48 => ("UsageDeskModel", "next", "[Z", true)
  | 49 => ("UsageDeskModel", "broken", "[I", false)
  | 50 => ("UsageDeskModel", "brokenMany", "I", false)
  | 51 => ("UsageDeskModel", "costs", "[I", true)
  | 52 => ("UsageDeskModel", "made", "[I", true)
  | 53 => ("UsageDeskModel", "with", "[I", true)
  | _ => ("UsageDeskModel", "holds", "[I", true)
def tyX11 : Nat → FieldType := fun k => match k with
  | 0 => .int
  | 1 => .array .int
  | 2 => .int
  | 3 => .array .int
  | 4 => .array .int
  | 5 => .array .boolean
  | 6 => .array .boolean
  | 7 => .int
  | 8 => .array .int
  | 9 => .array .boolean
  | 10 => .array .int
  | 11 => .array .int
  | 12 => .array .int
  | 13 => .int
  | 14 => .array .int
  | 15 => .array .int
  | 16 => .array .int
  | 17 => .array .int
  | 18 => .array .int
  | 19 => .array .int
  | 20 => .int
  | 21 => .array .int
  | 22 => .array .int
  | 23 => .array .int
  | 24 => .array .int
  | 25 => .int
  | 26 => .array .int
  | 27 => .array .int
  | 28 => .array .int
  | 29 => .array .byte
  | 30 => .int
  | 31 => .int
  | 32 => .int
  | 33 => .int
  | 34 => .array .int
  | 35 => .array .int
  | 36 => .array .int
  | 37 => .int
  | 38 => .int
  | 39 => .int
  | 40 => .array .int
  | 41 => .array .int
  | 42 => .array .int
  | 43 => .int
  | 44 => .int
  | 45 => .boolean
  | 46 => .array .int
  | 47 => .array .boolean
  | 48 => .array .boolean
  | 49 => .array .int
  | 50 => .int
  | 51 => .array .int
  | 52 => .array .int
  | 53 => .array .int
  | _ => .array .int
abbrev wsX110 : List Cond := u_ws RX11 TX11 55
theorem nmX11 : ∀ a, a < 55 → ∀ b, b < 55 → a ≠ b → (TX11 a).2.1 ≠ (TX11 b).2.1 := by decide +kernel
theorem tyX11_ok : ∀ k, k < 55 → parseFieldDescriptor (TX11 k).2.2.1 = some (tyX11 k) := by decide +kernel
abbrev cX11_init : ByteArray := prog_13_method_1_code
def yX11_init : MethodName := ⟨RX11, "<init>", "()V"⟩
abbrev cX11_thrown : ByteArray := prog_13_method_2_code
def yX11_thrown : MethodName := ⟨RX11, "thrown", "()I"⟩
abbrev cX11_bad : ByteArray := prog_13_method_3_code
def yX11_bad : MethodName := ⟨RX11, "bad", "(ZI)Z"⟩
abbrev cX11_isCall : ByteArray := prog_13_method_4_code
def yX11_isCall : MethodName := ⟨RX11, "isCall", "(I)Z"⟩
abbrev cX11_push : ByteArray := prog_13_method_5_code
def yX11_push : MethodName := ⟨RX11, "push", "(I)I"⟩
abbrev cX11_empty : ByteArray := prog_13_method_6_code
def yX11_empty : MethodName := ⟨RX11, "empty", "()I"⟩
abbrev cX11_hand : ByteArray := prog_13_method_7_code
def yX11_hand : MethodName := ⟨RX11, "hand", "(I)I"⟩
abbrev cX11_row : ByteArray := prog_13_method_8_code
def yX11_row : MethodName := ⟨RX11, "row", "(Z)I"⟩
abbrev cX11_isRow : ByteArray := prog_13_method_9_code
def yX11_isRow : MethodName := ⟨RX11, "isRow", "(I)Z"⟩
abbrev cX11_drop : ByteArray := prog_13_method_10_code
def yX11_drop : MethodName := ⟨RX11, "drop", "(I)Z"⟩
abbrev cX11_quarrels : ByteArray := prog_13_method_11_code
def yX11_quarrels : MethodName := ⟨RX11, "quarrels", "(II)Z"⟩
abbrev cX11_cutOf : ByteArray := prog_13_method_12_code
def yX11_cutOf : MethodName := ⟨RX11, "cutOf", "(I)I"⟩
abbrev cX11_isLeftOut : ByteArray := prog_13_method_13_code
def yX11_isLeftOut : MethodName := ⟨RX11, "isLeftOut", "(I)Z"⟩
abbrev cX11_told : ByteArray := prog_13_method_14_code
def yX11_told : MethodName := ⟨RX11, "told", "(II)I"⟩
abbrev cX11_tree : ByteArray := prog_13_method_15_code
def yX11_tree : MethodName := ⟨RX11, "tree", "()V"⟩
abbrev cX11_leastOf : ByteArray := prog_13_method_16_code
def yX11_leastOf : MethodName := ⟨RX11, "leastOf", "(I)I"⟩
abbrev cX11_sets : ByteArray := prog_13_method_17_code
def yX11_sets : MethodName := ⟨RX11, "sets", "(II)V"⟩
abbrev cX11_takesBack : ByteArray := prog_13_method_18_code
def yX11_takesBack : MethodName := ⟨RX11, "takesBack", "()V"⟩
abbrev cX11_melts : ByteArray := prog_13_method_19_code
def yX11_melts : MethodName := ⟨RX11, "melts", "(II)V"⟩
abbrev cX11_takesWrong : ByteArray := prog_13_method_20_code
def yX11_takesWrong : MethodName := ⟨RX11, "takesWrong", "()Z"⟩
abbrev cX11_learn : ByteArray := prog_13_method_21_code
def yX11_learn : MethodName := ⟨RX11, "learn", "()I"⟩
abbrev cX11_placeOf : ByteArray := prog_13_method_22_code
def yX11_placeOf : MethodName := ⟨RX11, "placeOf", "(II)I"⟩
abbrev cX11_isStep : ByteArray := prog_13_method_23_code
def yX11_isStep : MethodName := ⟨RX11, "isStep", "(II)Z"⟩
abbrev cX11_step : ByteArray := prog_13_method_24_code
def yX11_step : MethodName := ⟨RX11, "step", "(II)I"⟩
abbrev cX11_seen : ByteArray := prog_13_method_25_code
def yX11_seen : MethodName := ⟨RX11, "seen", "(II)I"⟩
abbrev cX11_doubt : ByteArray := prog_13_method_26_code
def yX11_doubt : MethodName := ⟨RX11, "doubt", "(I)I"⟩
abbrev cX11_takes : ByteArray := prog_13_method_27_code
def yX11_takes : MethodName := ⟨RX11, "takes", "()I"⟩
abbrev cX11_least : ByteArray := prog_13_method_28_code
def yX11_least : MethodName := ⟨RX11, "least", "()I"⟩
abbrev cX11_isWrongTaken : ByteArray := prog_13_method_29_code
def yX11_isWrongTaken : MethodName := ⟨RX11, "isWrongTaken", "()Z"⟩
abbrev cX11_can : ByteArray := prog_13_method_30_code
def yX11_can : MethodName := ⟨RX11, "can", "(III)Z"⟩
abbrev cX11_feed : ByteArray := prog_13_method_31_code
def yX11_feed : MethodName := ⟨RX11, "feed", "(IIIII)I"⟩
abbrev cX11_now : ByteArray := prog_13_method_32_code
def yX11_now : MethodName := ⟨RX11, "now", "()I"⟩
abbrev cX11_adds : ByteArray := prog_13_method_33_code
def yX11_adds : MethodName := ⟨RX11, "adds", "(III)V"⟩
abbrev cX11_state : ByteArray := prog_13_method_34_code
def yX11_state : MethodName := ⟨RX11, "state", "()I"⟩
abbrev cX11_reads : ByteArray := prog_13_method_35_code
def yX11_reads : MethodName := ⟨RX11, "reads", "(I)I"⟩
abbrev cX11_bracket : ByteArray := prog_13_method_36_code
def yX11_bracket : MethodName := ⟨RX11, "bracket", "(I)I"⟩
abbrev cX11_routine : ByteArray := prog_13_method_37_code
def yX11_routine : MethodName := ⟨RX11, "routine", "(I)I"⟩
abbrev cX11_clearBreak : ByteArray := prog_13_method_38_code
def yX11_clearBreak : MethodName := ⟨RX11, "clearBreak", "()V"⟩
abbrev cX11_hold : ByteArray := prog_13_method_39_code
def yX11_hold : MethodName := ⟨RX11, "hold", "()I"⟩
abbrev cX11_isNearer : ByteArray := prog_13_method_40_code
def yX11_isNearer : MethodName := ⟨RX11, "isNearer", "(II)Z"⟩
abbrev cX11_closes : ByteArray := prog_13_method_41_code
def yX11_closes : MethodName := ⟨RX11, "closes", "()V"⟩
abbrev cX11_leads : ByteArray := prog_13_method_42_code
def yX11_leads : MethodName := ⟨RX11, "leads", "(III)Z"⟩
abbrev cX11_goesOn : ByteArray := prog_13_method_43_code
def yX11_goesOn : MethodName := ⟨RX11, "goesOn", "(II)I"⟩
abbrev cX11_breaksOn : ByteArray := prog_13_method_44_code
def yX11_breaksOn : MethodName := ⟨RX11, "breaksOn", "(I)V"⟩
abbrev cX11_broken : ByteArray := prog_13_method_45_code
def yX11_broken : MethodName := ⟨RX11, "broken", "(I)I"⟩
abbrev cX11_mend : ByteArray := prog_13_method_46_code
def yX11_mend : MethodName := ⟨RX11, "mend", "()I"⟩
abbrev cX11_habits : ByteArray := prog_13_method_47_code
def yX11_habits : MethodName := ⟨RX11, "habits", "()V"⟩
abbrev cX11_habit : ByteArray := prog_13_method_48_code
def yX11_habit : MethodName := ⟨RX11, "habit", "(III)I"⟩
abbrev cX11_isAhead : ByteArray := prog_13_method_49_code
def yX11_isAhead : MethodName := ⟨RX11, "isAhead", "(II)Z"⟩
abbrev cX11_rank : ByteArray := prog_13_method_50_code
def yX11_rank : MethodName := ⟨RX11, "rank", "(II)I"⟩
abbrev cX11_count : ByteArray := prog_13_method_51_code
def yX11_count : MethodName := ⟨RX11, "count", "(I)I"⟩
def RJ9 : String := "java/lang/Math"
def TJ9 : u_T := fun k => match k with
  | _ => ("", "", "", false)
abbrev cJ9_max_7cf53 : ByteArray := prog_17_method_65_code
def yJ9_max_7cf53 : MethodName := ⟨RJ9, "max", "(II)I"⟩
abbrev cJ9_min_7cf53 : ByteArray := prog_17_method_69_code
def yJ9_min_7cf53 : MethodName := ⟨RJ9, "min", "(II)I"⟩
def RJ0 : String := "java/lang/String"
def TJ0 : u_T := fun k => match k with
  | _ => ("", "", "", false)
def RJ7 : String := "java/util/Arrays"
def TJ7 : u_T := fun k => match k with
  | _ => ("", "", "", false)
abbrev cJ7_fill_53178 : ByteArray := prog_21_method_103_code
def yJ7_fill_53178 : MethodName := ⟨RJ7, "fill", "([II)V"⟩
def RL : String := "UsageDeskLaw"
abbrev cL_push : ByteArray := method_3_code
def yL_push : MethodName := ⟨RL, "push", "(LUsageDesk;I[J)I"⟩
abbrev cL_drop : ByteArray := method_4_code
def yL_drop : MethodName := ⟨RL, "drop", "(LUsageDesk;I[J)I"⟩
abbrev cL_told : ByteArray := method_5_code
def yL_told : MethodName := ⟨RL, "told", "(LUsageDesk;II[J)I"⟩
abbrev cL_step : ByteArray := method_6_code
def yL_step : MethodName := ⟨RL, "step", "(LUsageDesk;II[J)I"⟩
abbrev cL_seen : ByteArray := method_7_code
def yL_seen : MethodName := ⟨RL, "seen", "(LUsageDesk;II[J)I"⟩
abbrev cL_routine : ByteArray := method_8_code
def yL_routine : MethodName := ⟨RL, "routine", "(LUsageDesk;I[J)I"⟩
abbrev cL_habit : ByteArray := method_9_code
def yL_habit : MethodName := ⟨RL, "habit", "(LUsageDesk;III[J)I"⟩
abbrev cL_rank : ByteArray := method_10_code
def yL_rank : MethodName := ⟨RL, "rank", "(LUsageDesk;II[J)I"⟩
abbrev cL_law : ByteArray := code
def yL_law : MethodName := ⟨RL, "law", "([I)Z"⟩
abbrev vwCl : List vw_C := [(RX0, TX0, 7), (RX1, TX1, 5), (RX2, TX2, 4), (RX3, TX3, 10), (RX4, TX4, 3), (RX5, TX5, 2), (RX6, TX6, 13), (RX7, TX7, 6), (RX8, TX8, 8), (RX9, TX9, 7), (RX10, TX10, 11), (RX11, TX11, 55)]
end
section
theorem dX0_init_0 : decode cX0_init 0 = .ok (.aload_n 0, 1) := by decide +kernel
theorem dX0_init_1 : decode cX0_init 1 = .ok (.invokespecial 3, 3) := by decide +kernel
theorem dX0_init_4 : decode cX0_init 4 = .ok (.aload_n 0, 1) := by decide +kernel
theorem dX0_init_5 : decode cX0_init 5 = .ok (.sipush 720, 3) := by decide +kernel
theorem dX0_init_8 : decode cX0_init 8 = .ok (.newarray .int, 2) := by decide +kernel
theorem dX0_init_10 : decode cX0_init 10 = .ok (.putfield 9, 3) := by decide +kernel
theorem dX0_init_13 : decode cX0_init 13 = .ok (.aload_n 0, 1) := by decide +kernel
theorem dX0_init_14 : decode cX0_init 14 = .ok (.bipush 60, 2) := by decide +kernel
theorem dX0_init_16 : decode cX0_init 16 = .ok (.newarray .int, 2) := by decide +kernel
theorem dX0_init_18 : decode cX0_init 18 = .ok (.putfield 15, 3) := by decide +kernel
theorem dX0_init_21 : decode cX0_init 21 = .ok (.aload_n 0, 1) := by decide +kernel
theorem dX0_init_22 : decode cX0_init 22 = .ok (.bipush 60, 2) := by decide +kernel
theorem dX0_init_24 : decode cX0_init 24 = .ok (.newarray .boolean, 2) := by decide +kernel
theorem dX0_init_26 : decode cX0_init 26 = .ok (.putfield 18, 3) := by decide +kernel
theorem dX0_init_29 : decode cX0_init 29 = .ok (.aload_n 0, 1) := by decide +kernel
theorem dX0_init_30 : decode cX0_init 30 = .ok (.bipush 60, 2) := by decide +kernel
theorem dX0_init_32 : decode cX0_init 32 = .ok (.newarray .boolean, 2) := by decide +kernel
theorem dX0_init_34 : decode cX0_init 34 = .ok (.putfield 22, 3) := by decide +kernel
theorem dX0_init_37 : decode cX0_init 37 = .ok (.aload_n 0, 1) := by decide +kernel
theorem dX0_init_38 : decode cX0_init 38 = .ok (.bipush 60, 2) := by decide +kernel
theorem dX0_init_40 : decode cX0_init 40 = .ok (.newarray .int, 2) := by decide +kernel
theorem dX0_init_42 : decode cX0_init 42 = .ok (.putfield 25, 3) := by decide +kernel
theorem dX0_init_45 : decode cX0_init 45 = .ok (.return_, 1) := by decide +kernel
theorem dX0_knows_0 : decode cX0_knows 0 = .ok (.iload_n 1, 1) := by decide +kernel
theorem dX0_knows_1 : decode cX0_knows 1 = .ok (.ifCond .lt 21, 3) := by decide +kernel
theorem dX0_knows_4 : decode cX0_knows 4 = .ok (.iload_n 1, 1) := by decide +kernel
theorem dX0_knows_5 : decode cX0_knows 5 = .ok (.aload_n 0, 1) := by decide +kernel
theorem dX0_knows_6 : decode cX0_knows 6 = .ok (.getfield 28, 3) := by decide +kernel
theorem dX0_knows_9 : decode cX0_knows 9 = .ok (.if_icmp .ge 13, 3) := by decide +kernel
theorem dX0_knows_12 : decode cX0_knows 12 = .ok (.iload_n 1, 1) := by decide +kernel
theorem dX0_knows_13 : decode cX0_knows 13 = .ok (.bipush 60, 2) := by decide +kernel
theorem dX0_knows_15 : decode cX0_knows 15 = .ok (.if_icmp .ge 7, 3) := by decide +kernel
theorem dX0_knows_18 : decode cX0_knows 18 = .ok (.iconst 1, 1) := by decide +kernel
theorem dX0_knows_19 : decode cX0_knows 19 = .ok (.goto 4, 3) := by decide +kernel
theorem dX0_knows_22 : decode cX0_knows 22 = .ok (.iconst 0, 1) := by decide +kernel
theorem dX0_knows_23 : decode cX0_knows 23 = .ok (.ireturn, 1) := by decide +kernel
theorem dX0_enter_0 : decode cX0_enter 0 = .ok (.aload_n 0, 1) := by decide +kernel
theorem dX0_enter_1 : decode cX0_enter 1 = .ok (.getfield 28, 3) := by decide +kernel
theorem dX0_enter_4 : decode cX0_enter 4 = .ok (.ifCond .lt 12, 3) := by decide +kernel
theorem dX0_enter_7 : decode cX0_enter 7 = .ok (.aload_n 0, 1) := by decide +kernel
theorem dX0_enter_8 : decode cX0_enter 8 = .ok (.getfield 28, 3) := by decide +kernel
theorem dX0_enter_11 : decode cX0_enter 11 = .ok (.bipush 60, 2) := by decide +kernel
theorem dX0_enter_13 : decode cX0_enter 13 = .ok (.if_icmp .lt 5, 3) := by decide +kernel
theorem dX0_enter_16 : decode cX0_enter 16 = .ok (.iconst (-1), 1) := by decide +kernel
theorem dX0_enter_17 : decode cX0_enter 17 = .ok (.ireturn, 1) := by decide +kernel
theorem dX0_enter_18 : decode cX0_enter 18 = .ok (.iconst 0, 1) := by decide +kernel
theorem dX0_enter_19 : decode cX0_enter 19 = .ok (.istore_n 3, 1) := by decide +kernel
theorem dX0_enter_20 : decode cX0_enter 20 = .ok (.iload_n 3, 1) := by decide +kernel
theorem dX0_enter_21 : decode cX0_enter 21 = .ok (.aload_n 1, 1) := by decide +kernel
theorem dX0_enter_22 : decode cX0_enter 22 = .ok (.getfield 32, 3) := by decide +kernel
theorem dX0_enter_25 : decode cX0_enter 25 = .ok (.if_icmp .ge 34, 3) := by decide +kernel
theorem dX0_enter_28 : decode cX0_enter 28 = .ok (.iload_n 3, 1) := by decide +kernel
theorem dX0_enter_29 : decode cX0_enter 29 = .ok (.bipush 12, 2) := by decide +kernel
theorem dX0_enter_31 : decode cX0_enter 31 = .ok (.if_icmp .ge 28, 3) := by decide +kernel
theorem dX0_enter_34 : decode cX0_enter 34 = .ok (.aload_n 0, 1) := by decide +kernel
theorem dX0_enter_35 : decode cX0_enter 35 = .ok (.getfield 9, 3) := by decide +kernel
theorem dX0_enter_38 : decode cX0_enter 38 = .ok (.aload_n 0, 1) := by decide +kernel
theorem dX0_enter_39 : decode cX0_enter 39 = .ok (.getfield 28, 3) := by decide +kernel
theorem dX0_enter_42 : decode cX0_enter 42 = .ok (.bipush 12, 2) := by decide +kernel
theorem dX0_enter_44 : decode cX0_enter 44 = .ok (.imul, 1) := by decide +kernel
theorem dX0_enter_45 : decode cX0_enter 45 = .ok (.iload_n 3, 1) := by decide +kernel
theorem dX0_enter_46 : decode cX0_enter 46 = .ok (.iadd, 1) := by decide +kernel
theorem dX0_enter_47 : decode cX0_enter 47 = .ok (.aload_n 1, 1) := by decide +kernel
theorem dX0_enter_48 : decode cX0_enter 48 = .ok (.iload_n 3, 1) := by decide +kernel
theorem dX0_enter_49 : decode cX0_enter 49 = .ok (.invokevirtual 37, 3) := by decide +kernel
theorem dX0_enter_52 : decode cX0_enter 52 = .ok (.iastore, 1) := by decide +kernel
theorem dX0_enter_53 : decode cX0_enter 53 = .ok (.iinc 3 1, 3) := by decide +kernel
theorem dX0_enter_56 : decode cX0_enter 56 = .ok (.goto (-36), 3) := by decide +kernel
theorem dX0_enter_59 : decode cX0_enter 59 = .ok (.aload_n 0, 1) := by decide +kernel
theorem dX0_enter_60 : decode cX0_enter 60 = .ok (.getfield 15, 3) := by decide +kernel
theorem dX0_enter_63 : decode cX0_enter 63 = .ok (.aload_n 0, 1) := by decide +kernel
theorem dX0_enter_64 : decode cX0_enter 64 = .ok (.getfield 28, 3) := by decide +kernel
theorem dX0_enter_67 : decode cX0_enter 67 = .ok (.aload_n 1, 1) := by decide +kernel
theorem dX0_enter_68 : decode cX0_enter 68 = .ok (.getfield 32, 3) := by decide +kernel
theorem dX0_enter_71 : decode cX0_enter 71 = .ok (.iastore, 1) := by decide +kernel
theorem dX0_enter_72 : decode cX0_enter 72 = .ok (.aload_n 0, 1) := by decide +kernel
theorem dX0_enter_73 : decode cX0_enter 73 = .ok (.getfield 18, 3) := by decide +kernel
theorem dX0_enter_76 : decode cX0_enter 76 = .ok (.aload_n 0, 1) := by decide +kernel
theorem dX0_enter_77 : decode cX0_enter 77 = .ok (.getfield 28, 3) := by decide +kernel
theorem dX0_enter_80 : decode cX0_enter 80 = .ok (.iload_n 2, 1) := by decide +kernel
theorem dX0_enter_81 : decode cX0_enter 81 = .ok (.bastore, 1) := by decide +kernel
theorem dX0_enter_82 : decode cX0_enter 82 = .ok (.aload_n 0, 1) := by decide +kernel
theorem dX0_enter_83 : decode cX0_enter 83 = .ok (.getfield 22, 3) := by decide +kernel
theorem dX0_enter_86 : decode cX0_enter 86 = .ok (.aload_n 0, 1) := by decide +kernel
theorem dX0_enter_87 : decode cX0_enter 87 = .ok (.getfield 28, 3) := by decide +kernel
theorem dX0_enter_90 : decode cX0_enter 90 = .ok (.iconst 1, 1) := by decide +kernel
theorem dX0_enter_91 : decode cX0_enter 91 = .ok (.bastore, 1) := by decide +kernel
theorem dX0_enter_92 : decode cX0_enter 92 = .ok (.aload_n 0, 1) := by decide +kernel
theorem dX0_enter_93 : decode cX0_enter 93 = .ok (.dup, 1) := by decide +kernel
theorem dX0_enter_94 : decode cX0_enter 94 = .ok (.getfield 28, 3) := by decide +kernel
theorem dX0_enter_97 : decode cX0_enter 97 = .ok (.iconst 1, 1) := by decide +kernel
theorem dX0_enter_98 : decode cX0_enter 98 = .ok (.iadd, 1) := by decide +kernel
theorem dX0_enter_99 : decode cX0_enter 99 = .ok (.putfield 28, 3) := by decide +kernel
theorem dX0_enter_102 : decode cX0_enter 102 = .ok (.aload_n 0, 1) := by decide +kernel
theorem dX0_enter_103 : decode cX0_enter 103 = .ok (.getfield 28, 3) := by decide +kernel
theorem dX0_enter_106 : decode cX0_enter 106 = .ok (.iconst 1, 1) := by decide +kernel
theorem dX0_enter_107 : decode cX0_enter 107 = .ok (.isub, 1) := by decide +kernel
theorem dX0_enter_108 : decode cX0_enter 108 = .ok (.ireturn, 1) := by decide +kernel
theorem dX0_sizeOf_0 : decode cX0_sizeOf 0 = .ok (.aload_n 0, 1) := by decide +kernel
theorem dX0_sizeOf_1 : decode cX0_sizeOf 1 = .ok (.iload_n 1, 1) := by decide +kernel
theorem dX0_sizeOf_2 : decode cX0_sizeOf 2 = .ok (.invokevirtual 41, 3) := by decide +kernel
theorem dX0_sizeOf_5 : decode cX0_sizeOf 5 = .ok (.ifCond .eq 12, 3) := by decide +kernel
theorem dX0_sizeOf_8 : decode cX0_sizeOf 8 = .ok (.aload_n 0, 1) := by decide +kernel
theorem dX0_sizeOf_9 : decode cX0_sizeOf 9 = .ok (.getfield 15, 3) := by decide +kernel
theorem dX0_sizeOf_12 : decode cX0_sizeOf 12 = .ok (.iload_n 1, 1) := by decide +kernel
theorem dX0_sizeOf_13 : decode cX0_sizeOf 13 = .ok (.iaload, 1) := by decide +kernel
theorem dX0_sizeOf_14 : decode cX0_sizeOf 14 = .ok (.goto 4, 3) := by decide +kernel
theorem dX0_sizeOf_17 : decode cX0_sizeOf 17 = .ok (.iconst 0, 1) := by decide +kernel
theorem dX0_sizeOf_18 : decode cX0_sizeOf 18 = .ok (.ireturn, 1) := by decide +kernel
theorem dX0_callAt_0 : decode cX0_callAt 0 = .ok (.iload_n 1, 1) := by decide +kernel
theorem dX0_callAt_1 : decode cX0_callAt 1 = .ok (.ifCond .lt 19, 3) := by decide +kernel
theorem dX0_callAt_4 : decode cX0_callAt 4 = .ok (.iload_n 1, 1) := by decide +kernel
theorem dX0_callAt_5 : decode cX0_callAt 5 = .ok (.bipush 60, 2) := by decide +kernel
theorem dX0_callAt_7 : decode cX0_callAt 7 = .ok (.if_icmp .ge 13, 3) := by decide +kernel
theorem dX0_callAt_10 : decode cX0_callAt 10 = .ok (.iload_n 2, 1) := by decide +kernel
theorem dX0_callAt_11 : decode cX0_callAt 11 = .ok (.ifCond .lt 9, 3) := by decide +kernel
theorem dX0_callAt_14 : decode cX0_callAt 14 = .ok (.iload_n 2, 1) := by decide +kernel
theorem dX0_callAt_15 : decode cX0_callAt 15 = .ok (.bipush 12, 2) := by decide +kernel
theorem dX0_callAt_17 : decode cX0_callAt 17 = .ok (.if_icmp .lt 5, 3) := by decide +kernel
theorem dX0_callAt_20 : decode cX0_callAt 20 = .ok (.iconst (-1), 1) := by decide +kernel
theorem dX0_callAt_21 : decode cX0_callAt 21 = .ok (.ireturn, 1) := by decide +kernel
theorem dX0_callAt_22 : decode cX0_callAt 22 = .ok (.aload_n 0, 1) := by decide +kernel
theorem dX0_callAt_23 : decode cX0_callAt 23 = .ok (.getfield 9, 3) := by decide +kernel
theorem dX0_callAt_26 : decode cX0_callAt 26 = .ok (.iload_n 1, 1) := by decide +kernel
theorem dX0_callAt_27 : decode cX0_callAt 27 = .ok (.bipush 12, 2) := by decide +kernel
theorem dX0_callAt_29 : decode cX0_callAt 29 = .ok (.imul, 1) := by decide +kernel
theorem dX0_callAt_30 : decode cX0_callAt 30 = .ok (.iload_n 2, 1) := by decide +kernel
theorem dX0_callAt_31 : decode cX0_callAt 31 = .ok (.iadd, 1) := by decide +kernel
theorem dX0_callAt_32 : decode cX0_callAt 32 = .ok (.iaload, 1) := by decide +kernel
theorem dX0_callAt_33 : decode cX0_callAt 33 = .ok (.ireturn, 1) := by decide +kernel
theorem dX0_isRightThere_0 : decode cX0_isRightThere 0 = .ok (.aload_n 0, 1) := by decide +kernel
theorem dX0_isRightThere_1 : decode cX0_isRightThere 1 = .ok (.iload_n 1, 1) := by decide +kernel
theorem dX0_isRightThere_2 : decode cX0_isRightThere 2 = .ok (.invokevirtual 41, 3) := by decide +kernel
theorem dX0_isRightThere_5 : decode cX0_isRightThere 5 = .ok (.ifCond .eq 25, 3) := by decide +kernel
theorem dX0_isRightThere_8 : decode cX0_isRightThere 8 = .ok (.aload_n 0, 1) := by decide +kernel
theorem dX0_isRightThere_9 : decode cX0_isRightThere 9 = .ok (.getfield 22, 3) := by decide +kernel
theorem dX0_isRightThere_12 : decode cX0_isRightThere 12 = .ok (.iload_n 1, 1) := by decide +kernel
theorem dX0_isRightThere_13 : decode cX0_isRightThere 13 = .ok (.baload, 1) := by decide +kernel
theorem dX0_isRightThere_14 : decode cX0_isRightThere 14 = .ok (.ifCond .eq 16, 3) := by decide +kernel
theorem dX0_isRightThere_17 : decode cX0_isRightThere 17 = .ok (.aload_n 0, 1) := by decide +kernel
theorem dX0_isRightThere_18 : decode cX0_isRightThere 18 = .ok (.getfield 18, 3) := by decide +kernel
theorem dX0_isRightThere_21 : decode cX0_isRightThere 21 = .ok (.iload_n 1, 1) := by decide +kernel
theorem dX0_isRightThere_22 : decode cX0_isRightThere 22 = .ok (.baload, 1) := by decide +kernel
theorem dX0_isRightThere_23 : decode cX0_isRightThere 23 = .ok (.ifCond .eq 7, 3) := by decide +kernel
theorem dX0_isRightThere_26 : decode cX0_isRightThere 26 = .ok (.iconst 1, 1) := by decide +kernel
theorem dX0_isRightThere_27 : decode cX0_isRightThere 27 = .ok (.goto 4, 3) := by decide +kernel
theorem dX0_isRightThere_30 : decode cX0_isRightThere 30 = .ok (.iconst 0, 1) := by decide +kernel
theorem dX0_isRightThere_31 : decode cX0_isRightThere 31 = .ok (.ireturn, 1) := by decide +kernel
theorem dX0_isWrongThere_0 : decode cX0_isWrongThere 0 = .ok (.aload_n 0, 1) := by decide +kernel
theorem dX0_isWrongThere_1 : decode cX0_isWrongThere 1 = .ok (.iload_n 1, 1) := by decide +kernel
theorem dX0_isWrongThere_2 : decode cX0_isWrongThere 2 = .ok (.invokevirtual 41, 3) := by decide +kernel
theorem dX0_isWrongThere_5 : decode cX0_isWrongThere 5 = .ok (.ifCond .eq 25, 3) := by decide +kernel
theorem dX0_isWrongThere_8 : decode cX0_isWrongThere 8 = .ok (.aload_n 0, 1) := by decide +kernel
theorem dX0_isWrongThere_9 : decode cX0_isWrongThere 9 = .ok (.getfield 22, 3) := by decide +kernel
theorem dX0_isWrongThere_12 : decode cX0_isWrongThere 12 = .ok (.iload_n 1, 1) := by decide +kernel
theorem dX0_isWrongThere_13 : decode cX0_isWrongThere 13 = .ok (.baload, 1) := by decide +kernel
theorem dX0_isWrongThere_14 : decode cX0_isWrongThere 14 = .ok (.ifCond .eq 16, 3) := by decide +kernel
theorem dX0_isWrongThere_17 : decode cX0_isWrongThere 17 = .ok (.aload_n 0, 1) := by decide +kernel
theorem dX0_isWrongThere_18 : decode cX0_isWrongThere 18 = .ok (.getfield 18, 3) := by decide +kernel
theorem dX0_isWrongThere_21 : decode cX0_isWrongThere 21 = .ok (.iload_n 1, 1) := by decide +kernel
theorem dX0_isWrongThere_22 : decode cX0_isWrongThere 22 = .ok (.baload, 1) := by decide +kernel
theorem dX0_isWrongThere_23 : decode cX0_isWrongThere 23 = .ok (.ifCond .ne 7, 3) := by decide +kernel
theorem dX0_isWrongThere_26 : decode cX0_isWrongThere 26 = .ok (.iconst 1, 1) := by decide +kernel
theorem dX0_isWrongThere_27 : decode cX0_isWrongThere 27 = .ok (.goto 4, 3) := by decide +kernel
theorem dX0_isWrongThere_30 : decode cX0_isWrongThere 30 = .ok (.iconst 0, 1) := by decide +kernel
theorem dX0_isWrongThere_31 : decode cX0_isWrongThere 31 = .ok (.ireturn, 1) := by decide +kernel
theorem dX0_countThere_0 : decode cX0_countThere 0 = .ok (.iconst 0, 1) := by decide +kernel
theorem dX0_countThere_1 : decode cX0_countThere 1 = .ok (.istore_n 1, 1) := by decide +kernel
theorem dX0_countThere_2 : decode cX0_countThere 2 = .ok (.iconst 0, 1) := by decide +kernel
theorem dX0_countThere_3 : decode cX0_countThere 3 = .ok (.istore_n 2, 1) := by decide +kernel
theorem dX0_countThere_4 : decode cX0_countThere 4 = .ok (.iload_n 2, 1) := by decide +kernel
theorem dX0_countThere_5 : decode cX0_countThere 5 = .ok (.aload_n 0, 1) := by decide +kernel
theorem dX0_countThere_6 : decode cX0_countThere 6 = .ok (.getfield 28, 3) := by decide +kernel
theorem dX0_countThere_9 : decode cX0_countThere 9 = .ok (.if_icmp .ge 32, 3) := by decide +kernel
theorem dX0_countThere_12 : decode cX0_countThere 12 = .ok (.iload_n 2, 1) := by decide +kernel
theorem dX0_countThere_13 : decode cX0_countThere 13 = .ok (.bipush 60, 2) := by decide +kernel
theorem dX0_countThere_15 : decode cX0_countThere 15 = .ok (.if_icmp .ge 26, 3) := by decide +kernel
theorem dX0_countThere_18 : decode cX0_countThere 18 = .ok (.iload_n 1, 1) := by decide +kernel
theorem dX0_countThere_19 : decode cX0_countThere 19 = .ok (.aload_n 0, 1) := by decide +kernel
theorem dX0_countThere_20 : decode cX0_countThere 20 = .ok (.getfield 22, 3) := by decide +kernel
theorem dX0_countThere_23 : decode cX0_countThere 23 = .ok (.iload_n 2, 1) := by decide +kernel
theorem dX0_countThere_24 : decode cX0_countThere 24 = .ok (.baload, 1) := by decide +kernel
theorem dX0_countThere_25 : decode cX0_countThere 25 = .ok (.ifCond .eq 7, 3) := by decide +kernel
theorem dX0_countThere_28 : decode cX0_countThere 28 = .ok (.iconst 1, 1) := by decide +kernel
theorem dX0_countThere_29 : decode cX0_countThere 29 = .ok (.goto 4, 3) := by decide +kernel
theorem dX0_countThere_32 : decode cX0_countThere 32 = .ok (.iconst 0, 1) := by decide +kernel
theorem dX0_countThere_33 : decode cX0_countThere 33 = .ok (.iadd, 1) := by decide +kernel
theorem dX0_countThere_34 : decode cX0_countThere 34 = .ok (.istore_n 1, 1) := by decide +kernel
theorem dX0_countThere_35 : decode cX0_countThere 35 = .ok (.iinc 2 1, 3) := by decide +kernel
theorem dX0_countThere_38 : decode cX0_countThere 38 = .ok (.goto (-34), 3) := by decide +kernel
theorem dX0_countThere_41 : decode cX0_countThere 41 = .ok (.iload_n 1, 1) := by decide +kernel
theorem dX0_countThere_42 : decode cX0_countThere 42 = .ok (.ireturn, 1) := by decide +kernel
theorem dX0_standingOf_0 : decode cX0_standingOf 0 = .ok (.aload_n 0, 1) := by decide +kernel
theorem dX0_standingOf_1 : decode cX0_standingOf 1 = .ok (.iload_n 1, 1) := by decide +kernel
theorem dX0_standingOf_2 : decode cX0_standingOf 2 = .ok (.invokevirtual 45, 3) := by decide +kernel
theorem dX0_standingOf_5 : decode cX0_standingOf 5 = .ok (.ifCond .eq 9, 3) := by decide +kernel
theorem dX0_standingOf_8 : decode cX0_standingOf 8 = .ok (.aload_n 0, 1) := by decide +kernel
theorem dX0_standingOf_9 : decode cX0_standingOf 9 = .ok (.iload_n 1, 1) := by decide +kernel
theorem dX0_standingOf_10 : decode cX0_standingOf 10 = .ok (.invokevirtual 48, 3) := by decide +kernel
theorem dX0_standingOf_13 : decode cX0_standingOf 13 = .ok (.ireturn, 1) := by decide +kernel
theorem dX0_standingOf_14 : decode cX0_standingOf 14 = .ok (.aload_n 0, 1) := by decide +kernel
theorem dX0_standingOf_15 : decode cX0_standingOf 15 = .ok (.iload_n 1, 1) := by decide +kernel
theorem dX0_standingOf_16 : decode cX0_standingOf 16 = .ok (.invokevirtual 51, 3) := by decide +kernel
theorem dX0_standingOf_19 : decode cX0_standingOf 19 = .ok (.ifCond .eq 15, 3) := by decide +kernel
theorem dX0_standingOf_22 : decode cX0_standingOf 22 = .ok (.aload_n 0, 1) := by decide +kernel
theorem dX0_standingOf_23 : decode cX0_standingOf 23 = .ok (.iload_n 1, 1) := by decide +kernel
theorem dX0_standingOf_24 : decode cX0_standingOf 24 = .ok (.invokevirtual 54, 3) := by decide +kernel
theorem dX0_standingOf_27 : decode cX0_standingOf 27 = .ok (.ifCond .eq 7, 3) := by decide +kernel
theorem dX0_standingOf_30 : decode cX0_standingOf 30 = .ok (.iconst 1, 1) := by decide +kernel
theorem dX0_standingOf_31 : decode cX0_standingOf 31 = .ok (.goto 4, 3) := by decide +kernel
theorem dX0_standingOf_34 : decode cX0_standingOf 34 = .ok (.iconst 0, 1) := by decide +kernel
theorem dX0_standingOf_35 : decode cX0_standingOf 35 = .ok (.ireturn, 1) := by decide +kernel
theorem dX0_cutSize_0 : decode cX0_cutSize 0 = .ok (.aload_n 0, 1) := by decide +kernel
theorem dX0_cutSize_1 : decode cX0_cutSize 1 = .ok (.iload_n 1, 1) := by decide +kernel
theorem dX0_cutSize_2 : decode cX0_cutSize 2 = .ok (.invokevirtual 57, 3) := by decide +kernel
theorem dX0_cutSize_5 : decode cX0_cutSize 5 = .ok (.istore_n 2, 1) := by decide +kernel
theorem dX0_cutSize_6 : decode cX0_cutSize 6 = .ok (.iconst 0, 1) := by decide +kernel
theorem dX0_cutSize_7 : decode cX0_cutSize 7 = .ok (.istore_n 3, 1) := by decide +kernel
theorem dX0_cutSize_8 : decode cX0_cutSize 8 = .ok (.iload_n 3, 1) := by decide +kernel
theorem dX0_cutSize_9 : decode cX0_cutSize 9 = .ok (.aload_n 0, 1) := by decide +kernel
theorem dX0_cutSize_10 : decode cX0_cutSize 10 = .ok (.getfield 28, 3) := by decide +kernel
theorem dX0_cutSize_13 : decode cX0_cutSize 13 = .ok (.if_icmp .ge 43, 3) := by decide +kernel
theorem dX0_cutSize_16 : decode cX0_cutSize 16 = .ok (.aload_n 0, 1) := by decide +kernel
theorem dX0_cutSize_17 : decode cX0_cutSize 17 = .ok (.iload_n 3, 1) := by decide +kernel
theorem dX0_cutSize_18 : decode cX0_cutSize 18 = .ok (.invokevirtual 51, 3) := by decide +kernel
theorem dX0_cutSize_21 : decode cX0_cutSize 21 = .ok (.ifCond .eq 29, 3) := by decide +kernel
theorem dX0_cutSize_24 : decode cX0_cutSize 24 = .ok (.aload_n 0, 1) := by decide +kernel
theorem dX0_cutSize_25 : decode cX0_cutSize 25 = .ok (.iload_n 3, 1) := by decide +kernel
theorem dX0_cutSize_26 : decode cX0_cutSize 26 = .ok (.invokevirtual 57, 3) := by decide +kernel
theorem dX0_cutSize_29 : decode cX0_cutSize 29 = .ok (.iload_n 2, 1) := by decide +kernel
theorem dX0_cutSize_30 : decode cX0_cutSize 30 = .ok (.if_icmp .gt 20, 3) := by decide +kernel
theorem dX0_cutSize_33 : decode cX0_cutSize 33 = .ok (.aload_n 0, 1) := by decide +kernel
theorem dX0_cutSize_34 : decode cX0_cutSize 34 = .ok (.iload_n 1, 1) := by decide +kernel
theorem dX0_cutSize_35 : decode cX0_cutSize 35 = .ok (.iload_n 3, 1) := by decide +kernel
theorem dX0_cutSize_36 : decode cX0_cutSize 36 = .ok (.invokevirtual 60, 3) := by decide +kernel
theorem dX0_cutSize_39 : decode cX0_cutSize 39 = .ok (.ifCond .eq 11, 3) := by decide +kernel
theorem dX0_cutSize_42 : decode cX0_cutSize 42 = .ok (.aload_n 0, 1) := by decide +kernel
theorem dX0_cutSize_43 : decode cX0_cutSize 43 = .ok (.iload_n 3, 1) := by decide +kernel
theorem dX0_cutSize_44 : decode cX0_cutSize 44 = .ok (.invokevirtual 57, 3) := by decide +kernel
theorem dX0_cutSize_47 : decode cX0_cutSize 47 = .ok (.iconst 1, 1) := by decide +kernel
theorem dX0_cutSize_48 : decode cX0_cutSize 48 = .ok (.isub, 1) := by decide +kernel
theorem dX0_cutSize_49 : decode cX0_cutSize 49 = .ok (.istore_n 2, 1) := by decide +kernel
theorem dX0_cutSize_50 : decode cX0_cutSize 50 = .ok (.iinc 3 1, 3) := by decide +kernel
theorem dX0_cutSize_53 : decode cX0_cutSize 53 = .ok (.goto (-45), 3) := by decide +kernel
theorem dX0_cutSize_56 : decode cX0_cutSize 56 = .ok (.iload_n 2, 1) := by decide +kernel
theorem dX0_cutSize_57 : decode cX0_cutSize 57 = .ok (.ireturn, 1) := by decide +kernel
theorem dX0_isLeftOut_0 : decode cX0_isLeftOut 0 = .ok (.iconst 0, 1) := by decide +kernel
theorem dX0_isLeftOut_1 : decode cX0_isLeftOut 1 = .ok (.istore_n 2, 1) := by decide +kernel
theorem dX0_isLeftOut_2 : decode cX0_isLeftOut 2 = .ok (.iload_n 2, 1) := by decide +kernel
theorem dX0_isLeftOut_3 : decode cX0_isLeftOut 3 = .ok (.aload_n 0, 1) := by decide +kernel
theorem dX0_isLeftOut_4 : decode cX0_isLeftOut 4 = .ok (.getfield 28, 3) := by decide +kernel
theorem dX0_isLeftOut_7 : decode cX0_isLeftOut 7 = .ok (.if_icmp .ge 28, 3) := by decide +kernel
theorem dX0_isLeftOut_10 : decode cX0_isLeftOut 10 = .ok (.aload_n 0, 1) := by decide +kernel
theorem dX0_isLeftOut_11 : decode cX0_isLeftOut 11 = .ok (.iload_n 2, 1) := by decide +kernel
theorem dX0_isLeftOut_12 : decode cX0_isLeftOut 12 = .ok (.invokevirtual 45, 3) := by decide +kernel
theorem dX0_isLeftOut_15 : decode cX0_isLeftOut 15 = .ok (.ifCond .eq 14, 3) := by decide +kernel
theorem dX0_isLeftOut_18 : decode cX0_isLeftOut 18 = .ok (.aload_n 0, 1) := by decide +kernel
theorem dX0_isLeftOut_19 : decode cX0_isLeftOut 19 = .ok (.iload_n 2, 1) := by decide +kernel
theorem dX0_isLeftOut_20 : decode cX0_isLeftOut 20 = .ok (.iload_n 1, 1) := by decide +kernel
theorem dX0_isLeftOut_21 : decode cX0_isLeftOut 21 = .ok (.invokevirtual 60, 3) := by decide +kernel
theorem dX0_isLeftOut_24 : decode cX0_isLeftOut 24 = .ok (.ifCond .eq 5, 3) := by decide +kernel
theorem dX0_isLeftOut_27 : decode cX0_isLeftOut 27 = .ok (.iconst 1, 1) := by decide +kernel
theorem dX0_isLeftOut_28 : decode cX0_isLeftOut 28 = .ok (.ireturn, 1) := by decide +kernel
theorem dX0_isLeftOut_29 : decode cX0_isLeftOut 29 = .ok (.iinc 2 1, 3) := by decide +kernel
theorem dX0_isLeftOut_32 : decode cX0_isLeftOut 32 = .ok (.goto (-30), 3) := by decide +kernel
theorem dX0_isLeftOut_35 : decode cX0_isLeftOut 35 = .ok (.iconst 0, 1) := by decide +kernel
theorem dX0_isLeftOut_36 : decode cX0_isLeftOut 36 = .ok (.ireturn, 1) := by decide +kernel
theorem dX0_gatherBinding_0 : decode cX0_gatherBinding 0 = .ok (.aload_n 0, 1) := by decide +kernel
theorem dX0_gatherBinding_1 : decode cX0_gatherBinding 1 = .ok (.iconst 0, 1) := by decide +kernel
theorem dX0_gatherBinding_2 : decode cX0_gatherBinding 2 = .ok (.putfield 64, 3) := by decide +kernel
theorem dX0_gatherBinding_5 : decode cX0_gatherBinding 5 = .ok (.iconst 0, 1) := by decide +kernel
theorem dX0_gatherBinding_6 : decode cX0_gatherBinding 6 = .ok (.istore_n 1, 1) := by decide +kernel
theorem dX0_gatherBinding_7 : decode cX0_gatherBinding 7 = .ok (.iload_n 1, 1) := by decide +kernel
theorem dX0_gatherBinding_8 : decode cX0_gatherBinding 8 = .ok (.aload_n 0, 1) := by decide +kernel
theorem dX0_gatherBinding_9 : decode cX0_gatherBinding 9 = .ok (.getfield 28, 3) := by decide +kernel
theorem dX0_gatherBinding_12 : decode cX0_gatherBinding 12 = .ok (.if_icmp .ge 51, 3) := by decide +kernel
theorem dX0_gatherBinding_15 : decode cX0_gatherBinding 15 = .ok (.iload_n 1, 1) := by decide +kernel
theorem dX0_gatherBinding_16 : decode cX0_gatherBinding 16 = .ok (.bipush 60, 2) := by decide +kernel
theorem dX0_gatherBinding_18 : decode cX0_gatherBinding 18 = .ok (.if_icmp .ge 45, 3) := by decide +kernel
theorem dX0_gatherBinding_21 : decode cX0_gatherBinding 21 = .ok (.aload_n 0, 1) := by decide +kernel
theorem dX0_gatherBinding_22 : decode cX0_gatherBinding 22 = .ok (.iload_n 1, 1) := by decide +kernel
theorem dX0_gatherBinding_23 : decode cX0_gatherBinding 23 = .ok (.invokevirtual 51, 3) := by decide +kernel
theorem dX0_gatherBinding_26 : decode cX0_gatherBinding 26 = .ok (.ifCond .eq 31, 3) := by decide +kernel
theorem dX0_gatherBinding_29 : decode cX0_gatherBinding 29 = .ok (.aload_n 0, 1) := by decide +kernel
theorem dX0_gatherBinding_30 : decode cX0_gatherBinding 30 = .ok (.iload_n 1, 1) := by decide +kernel
theorem dX0_gatherBinding_31 : decode cX0_gatherBinding 31 = .ok (.invokevirtual 54, 3) := by decide +kernel
theorem dX0_gatherBinding_34 : decode cX0_gatherBinding 34 = .ok (.ifCond .ne 23, 3) := by decide +kernel
theorem dX0_gatherBinding_37 : decode cX0_gatherBinding 37 = .ok (.aload_n 0, 1) := by decide +kernel
theorem dX0_gatherBinding_38 : decode cX0_gatherBinding 38 = .ok (.getfield 25, 3) := by decide +kernel
theorem dX0_gatherBinding_41 : decode cX0_gatherBinding 41 = .ok (.aload_n 0, 1) := by decide +kernel
theorem dX0_gatherBinding_42 : decode cX0_gatherBinding 42 = .ok (.getfield 64, 3) := by decide +kernel
theorem dX0_gatherBinding_45 : decode cX0_gatherBinding 45 = .ok (.iload_n 1, 1) := by decide +kernel
theorem dX0_gatherBinding_46 : decode cX0_gatherBinding 46 = .ok (.iastore, 1) := by decide +kernel
theorem dX0_gatherBinding_47 : decode cX0_gatherBinding 47 = .ok (.aload_n 0, 1) := by decide +kernel
theorem dX0_gatherBinding_48 : decode cX0_gatherBinding 48 = .ok (.dup, 1) := by decide +kernel
theorem dX0_gatherBinding_49 : decode cX0_gatherBinding 49 = .ok (.getfield 64, 3) := by decide +kernel
theorem dX0_gatherBinding_52 : decode cX0_gatherBinding 52 = .ok (.iconst 1, 1) := by decide +kernel
theorem dX0_gatherBinding_53 : decode cX0_gatherBinding 53 = .ok (.iadd, 1) := by decide +kernel
theorem dX0_gatherBinding_54 : decode cX0_gatherBinding 54 = .ok (.putfield 64, 3) := by decide +kernel
theorem dX0_gatherBinding_57 : decode cX0_gatherBinding 57 = .ok (.iinc 1 1, 3) := by decide +kernel
theorem dX0_gatherBinding_60 : decode cX0_gatherBinding 60 = .ok (.goto (-53), 3) := by decide +kernel
theorem dX0_gatherBinding_63 : decode cX0_gatherBinding 63 = .ok (.return_, 1) := by decide +kernel
theorem dX0_beginsWith_0 : decode cX0_beginsWith 0 = .ok (.aload_n 0, 1) := by decide +kernel
theorem dX0_beginsWith_1 : decode cX0_beginsWith 1 = .ok (.iload_n 2, 1) := by decide +kernel
theorem dX0_beginsWith_2 : decode cX0_beginsWith 2 = .ok (.invokevirtual 57, 3) := by decide +kernel
theorem dX0_beginsWith_5 : decode cX0_beginsWith 5 = .ok (.istore_n 3, 1) := by decide +kernel
theorem dX0_beginsWith_6 : decode cX0_beginsWith 6 = .ok (.iload_n 3, 1) := by decide +kernel
theorem dX0_beginsWith_7 : decode cX0_beginsWith 7 = .ok (.aload_n 0, 1) := by decide +kernel
theorem dX0_beginsWith_8 : decode cX0_beginsWith 8 = .ok (.iload_n 1, 1) := by decide +kernel
theorem dX0_beginsWith_9 : decode cX0_beginsWith 9 = .ok (.invokevirtual 57, 3) := by decide +kernel
theorem dX0_beginsWith_12 : decode cX0_beginsWith 12 = .ok (.if_icmp .le 5, 3) := by decide +kernel
theorem dX0_beginsWith_15 : decode cX0_beginsWith 15 = .ok (.iconst 0, 1) := by decide +kernel
theorem dX0_beginsWith_16 : decode cX0_beginsWith 16 = .ok (.ireturn, 1) := by decide +kernel
theorem dX0_beginsWith_17 : decode cX0_beginsWith 17 = .ok (.iconst 0, 1) := by decide +kernel
theorem dX0_beginsWith_18 : decode cX0_beginsWith 18 = .ok (.istore 4, 2) := by decide +kernel
theorem dX0_beginsWith_20 : decode cX0_beginsWith 20 = .ok (.iload 4, 2) := by decide +kernel
theorem dX0_beginsWith_22 : decode cX0_beginsWith 22 = .ok (.iload_n 3, 1) := by decide +kernel
theorem dX0_beginsWith_23 : decode cX0_beginsWith 23 = .ok (.if_icmp .ge 28, 3) := by decide +kernel
theorem dX0_beginsWith_26 : decode cX0_beginsWith 26 = .ok (.aload_n 0, 1) := by decide +kernel
theorem dX0_beginsWith_27 : decode cX0_beginsWith 27 = .ok (.iload_n 1, 1) := by decide +kernel
theorem dX0_beginsWith_28 : decode cX0_beginsWith 28 = .ok (.iload 4, 2) := by decide +kernel
theorem dX0_beginsWith_30 : decode cX0_beginsWith 30 = .ok (.invokevirtual 67, 3) := by decide +kernel
theorem dX0_beginsWith_33 : decode cX0_beginsWith 33 = .ok (.aload_n 0, 1) := by decide +kernel
theorem dX0_beginsWith_34 : decode cX0_beginsWith 34 = .ok (.iload_n 2, 1) := by decide +kernel
theorem dX0_beginsWith_35 : decode cX0_beginsWith 35 = .ok (.iload 4, 2) := by decide +kernel
theorem dX0_beginsWith_37 : decode cX0_beginsWith 37 = .ok (.invokevirtual 67, 3) := by decide +kernel
theorem dX0_beginsWith_40 : decode cX0_beginsWith 40 = .ok (.if_icmp .eq 5, 3) := by decide +kernel
theorem dX0_beginsWith_43 : decode cX0_beginsWith 43 = .ok (.iconst 0, 1) := by decide +kernel
theorem dX0_beginsWith_44 : decode cX0_beginsWith 44 = .ok (.ireturn, 1) := by decide +kernel
theorem dX0_beginsWith_45 : decode cX0_beginsWith 45 = .ok (.iinc 4 1, 3) := by decide +kernel
theorem dX0_beginsWith_48 : decode cX0_beginsWith 48 = .ok (.goto (-28), 3) := by decide +kernel
theorem dX0_beginsWith_51 : decode cX0_beginsWith 51 = .ok (.iconst 1, 1) := by decide +kernel
theorem dX0_beginsWith_52 : decode cX0_beginsWith 52 = .ok (.ireturn, 1) := by decide +kernel
theorem dX1_init_0 : decode cX1_init 0 = .ok (.aload_n 0, 1) := by decide +kernel
theorem dX1_init_1 : decode cX1_init 1 = .ok (.invokespecial 3, 3) := by decide +kernel
theorem dX1_init_4 : decode cX1_init 4 = .ok (.aload_n 0, 1) := by decide +kernel
theorem dX1_init_5 : decode cX1_init 5 = .ok (.bipush 24, 2) := by decide +kernel
theorem dX1_init_7 : decode cX1_init 7 = .ok (.newarray .int, 2) := by decide +kernel
theorem dX1_init_9 : decode cX1_init 9 = .ok (.putfield 9, 3) := by decide +kernel
theorem dX1_init_12 : decode cX1_init 12 = .ok (.aload_n 0, 1) := by decide +kernel
theorem dX1_init_13 : decode cX1_init 13 = .ok (.bipush 16, 2) := by decide +kernel
theorem dX1_init_15 : decode cX1_init 15 = .ok (.newarray .int, 2) := by decide +kernel
theorem dX1_init_17 : decode cX1_init 17 = .ok (.putfield 15, 3) := by decide +kernel
theorem dX1_init_20 : decode cX1_init 20 = .ok (.aload_n 0, 1) := by decide +kernel
theorem dX1_init_21 : decode cX1_init 21 = .ok (.aload_n 1, 1) := by decide +kernel
theorem dX1_init_22 : decode cX1_init 22 = .ok (.putfield 18, 3) := by decide +kernel
theorem dX1_init_25 : decode cX1_init 25 = .ok (.aload_n 0, 1) := by decide +kernel
theorem dX1_init_26 : decode cX1_init 26 = .ok (.aload_n 2, 1) := by decide +kernel
theorem dX1_init_27 : decode cX1_init 27 = .ok (.putfield 22, 3) := by decide +kernel
theorem dX1_init_30 : decode cX1_init 30 = .ok (.return_, 1) := by decide +kernel
theorem dX1_states_0 : decode cX1_states 0 = .ok (.aload_n 0, 1) := by decide +kernel
theorem dX1_states_1 : decode cX1_states 1 = .ok (.getfield 18, 3) := by decide +kernel
theorem dX1_states_4 : decode cX1_states 4 = .ok (.invokevirtual 26, 3) := by decide +kernel
theorem dX1_states_7 : decode cX1_states 7 = .ok (.iconst 1, 1) := by decide +kernel
theorem dX1_states_8 : decode cX1_states 8 = .ok (.istore_n 1, 1) := by decide +kernel
theorem dX1_states_9 : decode cX1_states 9 = .ok (.iload_n 1, 1) := by decide +kernel
theorem dX1_states_10 : decode cX1_states 10 = .ok (.iconst 3, 1) := by decide +kernel
theorem dX1_states_11 : decode cX1_states 11 = .ok (.if_icmp .gt 40, 3) := by decide +kernel
theorem dX1_states_14 : decode cX1_states 14 = .ok (.aload_n 0, 1) := by decide +kernel
theorem dX1_states_15 : decode cX1_states 15 = .ok (.iload_n 1, 1) := by decide +kernel
theorem dX1_states_16 : decode cX1_states 16 = .ok (.putfield 31, 3) := by decide +kernel
theorem dX1_states_19 : decode cX1_states 19 = .ok (.aload_n 0, 1) := by decide +kernel
theorem dX1_states_20 : decode cX1_states 20 = .ok (.getfield 9, 3) := by decide +kernel
theorem dX1_states_23 : decode cX1_states 23 = .ok (.iconst (-1), 1) := by decide +kernel
theorem dX1_states_24 : decode cX1_states 24 = .ok (.invokestatic 35, 3) := by decide +kernel
theorem dX1_states_27 : decode cX1_states 27 = .ok (.aload_n 0, 1) := by decide +kernel
theorem dX1_states_28 : decode cX1_states 28 = .ok (.getfield 15, 3) := by decide +kernel
theorem dX1_states_31 : decode cX1_states 31 = .ok (.iconst 0, 1) := by decide +kernel
theorem dX1_states_32 : decode cX1_states 32 = .ok (.iconst 0, 1) := by decide +kernel
theorem dX1_states_33 : decode cX1_states 33 = .ok (.iastore, 1) := by decide +kernel
theorem dX1_states_34 : decode cX1_states 34 = .ok (.aload_n 0, 1) := by decide +kernel
theorem dX1_states_35 : decode cX1_states 35 = .ok (.iconst 1, 1) := by decide +kernel
theorem dX1_states_36 : decode cX1_states 36 = .ok (.iconst 1, 1) := by decide +kernel
theorem dX1_states_37 : decode cX1_states 37 = .ok (.invokevirtual 41, 3) := by decide +kernel
theorem dX1_states_40 : decode cX1_states 40 = .ok (.ifCond .eq 5, 3) := by decide +kernel
theorem dX1_states_43 : decode cX1_states 43 = .ok (.iload_n 1, 1) := by decide +kernel
theorem dX1_states_44 : decode cX1_states 44 = .ok (.ireturn, 1) := by decide +kernel
theorem dX1_states_45 : decode cX1_states 45 = .ok (.iinc 1 1, 3) := by decide +kernel
theorem dX1_states_48 : decode cX1_states 48 = .ok (.goto (-39), 3) := by decide +kernel
theorem dX1_states_51 : decode cX1_states 51 = .ok (.iconst 4, 1) := by decide +kernel
theorem dX1_states_52 : decode cX1_states 52 = .ok (.ireturn, 1) := by decide +kernel
theorem dX1_placeFrom_0 : decode cX1_placeFrom 0 = .ok (.iload_n 1, 1) := by decide +kernel
theorem dX1_placeFrom_1 : decode cX1_placeFrom 1 = .ok (.aload_n 0, 1) := by decide +kernel
theorem dX1_placeFrom_2 : decode cX1_placeFrom 2 = .ok (.getfield 22, 3) := by decide +kernel
theorem dX1_placeFrom_5 : decode cX1_placeFrom 5 = .ok (.getfield 45, 3) := by decide +kernel
theorem dX1_placeFrom_8 : decode cX1_placeFrom 8 = .ok (.if_icmp .ge 9, 3) := by decide +kernel
theorem dX1_placeFrom_11 : decode cX1_placeFrom 11 = .ok (.iload_n 1, 1) := by decide +kernel
theorem dX1_placeFrom_12 : decode cX1_placeFrom 12 = .ok (.bipush 16, 2) := by decide +kernel
theorem dX1_placeFrom_14 : decode cX1_placeFrom 14 = .ok (.if_icmp .lt 5, 3) := by decide +kernel
theorem dX1_placeFrom_17 : decode cX1_placeFrom 17 = .ok (.iconst 1, 1) := by decide +kernel
theorem dX1_placeFrom_18 : decode cX1_placeFrom 18 = .ok (.ireturn, 1) := by decide +kernel
theorem dX1_placeFrom_19 : decode cX1_placeFrom 19 = .ok (.aload_n 0, 1) := by decide +kernel
theorem dX1_placeFrom_20 : decode cX1_placeFrom 20 = .ok (.iload_n 1, 1) := by decide +kernel
theorem dX1_placeFrom_21 : decode cX1_placeFrom 21 = .ok (.invokevirtual 50, 3) := by decide +kernel
theorem dX1_placeFrom_24 : decode cX1_placeFrom 24 = .ok (.istore_n 3, 1) := by decide +kernel
theorem dX1_placeFrom_25 : decode cX1_placeFrom 25 = .ok (.iload_n 3, 1) := by decide +kernel
theorem dX1_placeFrom_26 : decode cX1_placeFrom 26 = .ok (.iconst (-1), 1) := by decide +kernel
theorem dX1_placeFrom_27 : decode cX1_placeFrom 27 = .ok (.if_icmp .ne 5, 3) := by decide +kernel
theorem dX1_placeFrom_30 : decode cX1_placeFrom 30 = .ok (.iconst 0, 1) := by decide +kernel
theorem dX1_placeFrom_31 : decode cX1_placeFrom 31 = .ok (.ireturn, 1) := by decide +kernel
theorem dX1_placeFrom_32 : decode cX1_placeFrom 32 = .ok (.aload_n 0, 1) := by decide +kernel
theorem dX1_placeFrom_33 : decode cX1_placeFrom 33 = .ok (.getfield 9, 3) := by decide +kernel
theorem dX1_placeFrom_36 : decode cX1_placeFrom 36 = .ok (.iload_n 3, 1) := by decide +kernel
theorem dX1_placeFrom_37 : decode cX1_placeFrom 37 = .ok (.iaload, 1) := by decide +kernel
theorem dX1_placeFrom_38 : decode cX1_placeFrom 38 = .ok (.iconst (-1), 1) := by decide +kernel
theorem dX1_placeFrom_39 : decode cX1_placeFrom 39 = .ok (.if_icmp .ne 11, 3) := by decide +kernel
theorem dX1_placeFrom_42 : decode cX1_placeFrom 42 = .ok (.aload_n 0, 1) := by decide +kernel
theorem dX1_placeFrom_43 : decode cX1_placeFrom 43 = .ok (.iload_n 1, 1) := by decide +kernel
theorem dX1_placeFrom_44 : decode cX1_placeFrom 44 = .ok (.iload_n 2, 1) := by decide +kernel
theorem dX1_placeFrom_45 : decode cX1_placeFrom 45 = .ok (.iload_n 3, 1) := by decide +kernel
theorem dX1_placeFrom_46 : decode cX1_placeFrom 46 = .ok (.invokevirtual 54, 3) := by decide +kernel
theorem dX1_placeFrom_49 : decode cX1_placeFrom 49 = .ok (.ireturn, 1) := by decide +kernel
theorem dX1_placeFrom_50 : decode cX1_placeFrom 50 = .ok (.aload_n 0, 1) := by decide +kernel
theorem dX1_placeFrom_51 : decode cX1_placeFrom 51 = .ok (.getfield 15, 3) := by decide +kernel
theorem dX1_placeFrom_54 : decode cX1_placeFrom 54 = .ok (.iload_n 1, 1) := by decide +kernel
theorem dX1_placeFrom_55 : decode cX1_placeFrom 55 = .ok (.aload_n 0, 1) := by decide +kernel
theorem dX1_placeFrom_56 : decode cX1_placeFrom 56 = .ok (.getfield 9, 3) := by decide +kernel
theorem dX1_placeFrom_59 : decode cX1_placeFrom 59 = .ok (.iload_n 3, 1) := by decide +kernel
theorem dX1_placeFrom_60 : decode cX1_placeFrom 60 = .ok (.iaload, 1) := by decide +kernel
theorem dX1_placeFrom_61 : decode cX1_placeFrom 61 = .ok (.iastore, 1) := by decide +kernel
theorem dX1_placeFrom_62 : decode cX1_placeFrom 62 = .ok (.aload_n 0, 1) := by decide +kernel
theorem dX1_placeFrom_63 : decode cX1_placeFrom 63 = .ok (.iload_n 1, 1) := by decide +kernel
theorem dX1_placeFrom_64 : decode cX1_placeFrom 64 = .ok (.iconst 1, 1) := by decide +kernel
theorem dX1_placeFrom_65 : decode cX1_placeFrom 65 = .ok (.iadd, 1) := by decide +kernel
theorem dX1_placeFrom_66 : decode cX1_placeFrom 66 = .ok (.iload_n 2, 1) := by decide +kernel
theorem dX1_placeFrom_67 : decode cX1_placeFrom 67 = .ok (.invokevirtual 41, 3) := by decide +kernel
theorem dX1_placeFrom_70 : decode cX1_placeFrom 70 = .ok (.ireturn, 1) := by decide +kernel
theorem dX1_placeFree_0 : decode cX1_placeFree 0 = .ok (.iload_n 1, 1) := by decide +kernel
theorem dX1_placeFree_1 : decode cX1_placeFree 1 = .ok (.ifCond .lt 19, 3) := by decide +kernel
theorem dX1_placeFree_4 : decode cX1_placeFree 4 = .ok (.iload_n 1, 1) := by decide +kernel
theorem dX1_placeFree_5 : decode cX1_placeFree 5 = .ok (.bipush 16, 2) := by decide +kernel
theorem dX1_placeFree_7 : decode cX1_placeFree 7 = .ok (.if_icmp .ge 13, 3) := by decide +kernel
theorem dX1_placeFree_10 : decode cX1_placeFree 10 = .ok (.iload_n 3, 1) := by decide +kernel
theorem dX1_placeFree_11 : decode cX1_placeFree 11 = .ok (.ifCond .lt 9, 3) := by decide +kernel
theorem dX1_placeFree_14 : decode cX1_placeFree 14 = .ok (.iload_n 3, 1) := by decide +kernel
theorem dX1_placeFree_15 : decode cX1_placeFree 15 = .ok (.bipush 24, 2) := by decide +kernel
theorem dX1_placeFree_17 : decode cX1_placeFree 17 = .ok (.if_icmp .lt 5, 3) := by decide +kernel
theorem dX1_placeFree_20 : decode cX1_placeFree 20 = .ok (.iconst 0, 1) := by decide +kernel
theorem dX1_placeFree_21 : decode cX1_placeFree 21 = .ok (.ireturn, 1) := by decide +kernel
theorem dX1_placeFree_22 : decode cX1_placeFree 22 = .ok (.iconst 0, 1) := by decide +kernel
theorem dX1_placeFree_23 : decode cX1_placeFree 23 = .ok (.istore 4, 2) := by decide +kernel
theorem dX1_placeFree_25 : decode cX1_placeFree 25 = .ok (.iload 4, 2) := by decide +kernel
theorem dX1_placeFree_27 : decode cX1_placeFree 27 = .ok (.iload_n 2, 1) := by decide +kernel
theorem dX1_placeFree_28 : decode cX1_placeFree 28 = .ok (.if_icmp .gt 66, 3) := by decide +kernel
theorem dX1_placeFree_31 : decode cX1_placeFree 31 = .ok (.iload 4, 2) := by decide +kernel
theorem dX1_placeFree_33 : decode cX1_placeFree 33 = .ok (.aload_n 0, 1) := by decide +kernel
theorem dX1_placeFree_34 : decode cX1_placeFree 34 = .ok (.getfield 31, 3) := by decide +kernel
theorem dX1_placeFree_37 : decode cX1_placeFree 37 = .ok (.if_icmp .ge 57, 3) := by decide +kernel
theorem dX1_placeFree_40 : decode cX1_placeFree 40 = .ok (.aload_n 0, 1) := by decide +kernel
theorem dX1_placeFree_41 : decode cX1_placeFree 41 = .ok (.getfield 9, 3) := by decide +kernel
theorem dX1_placeFree_44 : decode cX1_placeFree 44 = .ok (.iload_n 3, 1) := by decide +kernel
theorem dX1_placeFree_45 : decode cX1_placeFree 45 = .ok (.iload 4, 2) := by decide +kernel
theorem dX1_placeFree_47 : decode cX1_placeFree 47 = .ok (.iastore, 1) := by decide +kernel
theorem dX1_placeFree_48 : decode cX1_placeFree 48 = .ok (.aload_n 0, 1) := by decide +kernel
theorem dX1_placeFree_49 : decode cX1_placeFree 49 = .ok (.getfield 15, 3) := by decide +kernel
theorem dX1_placeFree_52 : decode cX1_placeFree 52 = .ok (.iload_n 1, 1) := by decide +kernel
theorem dX1_placeFree_53 : decode cX1_placeFree 53 = .ok (.iload 4, 2) := by decide +kernel
theorem dX1_placeFree_55 : decode cX1_placeFree 55 = .ok (.iastore, 1) := by decide +kernel
theorem dX1_placeFree_56 : decode cX1_placeFree 56 = .ok (.aload_n 0, 1) := by decide +kernel
theorem dX1_placeFree_57 : decode cX1_placeFree 57 = .ok (.iload_n 1, 1) := by decide +kernel
theorem dX1_placeFree_58 : decode cX1_placeFree 58 = .ok (.aload_n 0, 1) := by decide +kernel
theorem dX1_placeFree_59 : decode cX1_placeFree 59 = .ok (.invokevirtual 58, 3) := by decide +kernel
theorem dX1_placeFree_62 : decode cX1_placeFree 62 = .ok (.invokevirtual 62, 3) := by decide +kernel
theorem dX1_placeFree_65 : decode cX1_placeFree 65 = .ok (.ifCond .ne 23, 3) := by decide +kernel
theorem dX1_placeFree_68 : decode cX1_placeFree 68 = .ok (.aload_n 0, 1) := by decide +kernel
theorem dX1_placeFree_69 : decode cX1_placeFree 69 = .ok (.iload_n 1, 1) := by decide +kernel
theorem dX1_placeFree_70 : decode cX1_placeFree 70 = .ok (.iconst 1, 1) := by decide +kernel
theorem dX1_placeFree_71 : decode cX1_placeFree 71 = .ok (.iadd, 1) := by decide +kernel
theorem dX1_placeFree_72 : decode cX1_placeFree 72 = .ok (.iload_n 2, 1) := by decide +kernel
theorem dX1_placeFree_73 : decode cX1_placeFree 73 = .ok (.iload 4, 2) := by decide +kernel
theorem dX1_placeFree_75 : decode cX1_placeFree 75 = .ok (.iconst 1, 1) := by decide +kernel
theorem dX1_placeFree_76 : decode cX1_placeFree 76 = .ok (.iadd, 1) := by decide +kernel
theorem dX1_placeFree_77 : decode cX1_placeFree 77 = .ok (.invokestatic 65, 3) := by decide +kernel
theorem dX1_placeFree_80 : decode cX1_placeFree 80 = .ok (.invokevirtual 41, 3) := by decide +kernel
theorem dX1_placeFree_83 : decode cX1_placeFree 83 = .ok (.ifCond .eq 5, 3) := by decide +kernel
theorem dX1_placeFree_86 : decode cX1_placeFree 86 = .ok (.iconst 1, 1) := by decide +kernel
theorem dX1_placeFree_87 : decode cX1_placeFree 87 = .ok (.ireturn, 1) := by decide +kernel
theorem dX1_placeFree_88 : decode cX1_placeFree 88 = .ok (.iinc 4 1, 3) := by decide +kernel
theorem dX1_placeFree_91 : decode cX1_placeFree 91 = .ok (.goto (-66), 3) := by decide +kernel
theorem dX1_placeFree_94 : decode cX1_placeFree 94 = .ok (.aload_n 0, 1) := by decide +kernel
theorem dX1_placeFree_95 : decode cX1_placeFree 95 = .ok (.getfield 9, 3) := by decide +kernel
theorem dX1_placeFree_98 : decode cX1_placeFree 98 = .ok (.iload_n 3, 1) := by decide +kernel
theorem dX1_placeFree_99 : decode cX1_placeFree 99 = .ok (.iconst (-1), 1) := by decide +kernel
theorem dX1_placeFree_100 : decode cX1_placeFree 100 = .ok (.iastore, 1) := by decide +kernel
theorem dX1_placeFree_101 : decode cX1_placeFree 101 = .ok (.iconst 0, 1) := by decide +kernel
theorem dX1_placeFree_102 : decode cX1_placeFree 102 = .ok (.ireturn, 1) := by decide +kernel
theorem dX1_slotInto_0 : decode cX1_slotInto 0 = .ok (.iload_n 1, 1) := by decide +kernel
theorem dX1_slotInto_1 : decode cX1_slotInto 1 = .ok (.ifCond .lt 9, 3) := by decide +kernel
theorem dX1_slotInto_4 : decode cX1_slotInto 4 = .ok (.iload_n 1, 1) := by decide +kernel
theorem dX1_slotInto_5 : decode cX1_slotInto 5 = .ok (.bipush 16, 2) := by decide +kernel
theorem dX1_slotInto_7 : decode cX1_slotInto 7 = .ok (.if_icmp .lt 5, 3) := by decide +kernel
theorem dX1_slotInto_10 : decode cX1_slotInto 10 = .ok (.iconst (-1), 1) := by decide +kernel
theorem dX1_slotInto_11 : decode cX1_slotInto 11 = .ok (.ireturn, 1) := by decide +kernel
theorem dX1_slotInto_12 : decode cX1_slotInto 12 = .ok (.aload_n 0, 1) := by decide +kernel
theorem dX1_slotInto_13 : decode cX1_slotInto 13 = .ok (.aload_n 0, 1) := by decide +kernel
theorem dX1_slotInto_14 : decode cX1_slotInto 14 = .ok (.getfield 22, 3) := by decide +kernel
theorem dX1_slotInto_17 : decode cX1_slotInto 17 = .ok (.getfield 71, 3) := by decide +kernel
theorem dX1_slotInto_20 : decode cX1_slotInto 20 = .ok (.iload_n 1, 1) := by decide +kernel
theorem dX1_slotInto_21 : decode cX1_slotInto 21 = .ok (.iaload, 1) := by decide +kernel
theorem dX1_slotInto_22 : decode cX1_slotInto 22 = .ok (.invokevirtual 74, 3) := by decide +kernel
theorem dX1_slotInto_25 : decode cX1_slotInto 25 = .ok (.aload_n 0, 1) := by decide +kernel
theorem dX1_slotInto_26 : decode cX1_slotInto 26 = .ok (.getfield 22, 3) := by decide +kernel
theorem dX1_slotInto_29 : decode cX1_slotInto 29 = .ok (.getfield 77, 3) := by decide +kernel
theorem dX1_slotInto_32 : decode cX1_slotInto 32 = .ok (.iload_n 1, 1) := by decide +kernel
theorem dX1_slotInto_33 : decode cX1_slotInto 33 = .ok (.iaload, 1) := by decide +kernel
theorem dX1_slotInto_34 : decode cX1_slotInto 34 = .ok (.invokestatic 80, 3) := by decide +kernel
theorem dX1_slotInto_37 : decode cX1_slotInto 37 = .ok (.ireturn, 1) := by decide +kernel
theorem dX1_stateAt_0 : decode cX1_stateAt 0 = .ok (.iload_n 1, 1) := by decide +kernel
theorem dX1_stateAt_1 : decode cX1_stateAt 1 = .ok (.ifCond .lt 18, 3) := by decide +kernel
theorem dX1_stateAt_4 : decode cX1_stateAt 4 = .ok (.iload_n 1, 1) := by decide +kernel
theorem dX1_stateAt_5 : decode cX1_stateAt 5 = .ok (.bipush 16, 2) := by decide +kernel
theorem dX1_stateAt_7 : decode cX1_stateAt 7 = .ok (.if_icmp .ge 12, 3) := by decide +kernel
theorem dX1_stateAt_10 : decode cX1_stateAt 10 = .ok (.aload_n 0, 1) := by decide +kernel
theorem dX1_stateAt_11 : decode cX1_stateAt 11 = .ok (.getfield 15, 3) := by decide +kernel
theorem dX1_stateAt_14 : decode cX1_stateAt 14 = .ok (.iload_n 1, 1) := by decide +kernel
theorem dX1_stateAt_15 : decode cX1_stateAt 15 = .ok (.iaload, 1) := by decide +kernel
theorem dX1_stateAt_16 : decode cX1_stateAt 16 = .ok (.goto 4, 3) := by decide +kernel
theorem dX1_stateAt_19 : decode cX1_stateAt 19 = .ok (.iconst (-1), 1) := by decide +kernel
theorem dX1_stateAt_20 : decode cX1_stateAt 20 = .ok (.ireturn, 1) := by decide +kernel
theorem dX1_slotOf_0 : decode cX1_slotOf 0 = .ok (.iload_n 0, 1) := by decide +kernel
theorem dX1_slotOf_1 : decode cX1_slotOf 1 = .ok (.ifCond .lt 24, 3) := by decide +kernel
theorem dX1_slotOf_4 : decode cX1_slotOf 4 = .ok (.iload_n 0, 1) := by decide +kernel
theorem dX1_slotOf_5 : decode cX1_slotOf 5 = .ok (.iconst 3, 1) := by decide +kernel
theorem dX1_slotOf_6 : decode cX1_slotOf 6 = .ok (.if_icmp .ge 19, 3) := by decide +kernel
theorem dX1_slotOf_9 : decode cX1_slotOf 9 = .ok (.iload_n 1, 1) := by decide +kernel
theorem dX1_slotOf_10 : decode cX1_slotOf 10 = .ok (.invokestatic 83, 3) := by decide +kernel
theorem dX1_slotOf_13 : decode cX1_slotOf 13 = .ok (.ifCond .eq 12, 3) := by decide +kernel
theorem dX1_slotOf_16 : decode cX1_slotOf 16 = .ok (.iload_n 0, 1) := by decide +kernel
theorem dX1_slotOf_17 : decode cX1_slotOf 17 = .ok (.bipush 8, 2) := by decide +kernel
theorem dX1_slotOf_19 : decode cX1_slotOf 19 = .ok (.imul, 1) := by decide +kernel
theorem dX1_slotOf_20 : decode cX1_slotOf 20 = .ok (.iload_n 1, 1) := by decide +kernel
theorem dX1_slotOf_21 : decode cX1_slotOf 21 = .ok (.iadd, 1) := by decide +kernel
theorem dX1_slotOf_22 : decode cX1_slotOf 22 = .ok (.goto 4, 3) := by decide +kernel
theorem dX1_slotOf_25 : decode cX1_slotOf 25 = .ok (.iconst (-1), 1) := by decide +kernel
theorem dX1_slotOf_26 : decode cX1_slotOf 26 = .ok (.ireturn, 1) := by decide +kernel
theorem dX1_isLost_0 : decode cX1_isLost 0 = .ok (.iload_n 2, 1) := by decide +kernel
theorem dX1_isLost_1 : decode cX1_isLost 1 = .ok (.iconst (-1), 1) := by decide +kernel
theorem dX1_isLost_2 : decode cX1_isLost 2 = .ok (.if_icmp .ne 5, 3) := by decide +kernel
theorem dX1_isLost_5 : decode cX1_isLost 5 = .ok (.iconst 1, 1) := by decide +kernel
theorem dX1_isLost_6 : decode cX1_isLost 6 = .ok (.ireturn, 1) := by decide +kernel
theorem dX1_isLost_7 : decode cX1_isLost 7 = .ok (.iload_n 1, 1) := by decide +kernel
theorem dX1_isLost_8 : decode cX1_isLost 8 = .ok (.iconst 1, 1) := by decide +kernel
theorem dX1_isLost_9 : decode cX1_isLost 9 = .ok (.iadd, 1) := by decide +kernel
theorem dX1_isLost_10 : decode cX1_isLost 10 = .ok (.istore_n 3, 1) := by decide +kernel
theorem dX1_isLost_11 : decode cX1_isLost 11 = .ok (.iload_n 3, 1) := by decide +kernel
theorem dX1_isLost_12 : decode cX1_isLost 12 = .ok (.aload_n 0, 1) := by decide +kernel
theorem dX1_isLost_13 : decode cX1_isLost 13 = .ok (.getfield 22, 3) := by decide +kernel
theorem dX1_isLost_16 : decode cX1_isLost 16 = .ok (.getfield 45, 3) := by decide +kernel
theorem dX1_isLost_19 : decode cX1_isLost 19 = .ok (.if_icmp .ge 57, 3) := by decide +kernel
theorem dX1_isLost_22 : decode cX1_isLost 22 = .ok (.iload_n 3, 1) := by decide +kernel
theorem dX1_isLost_23 : decode cX1_isLost 23 = .ok (.bipush 16, 2) := by decide +kernel
theorem dX1_isLost_25 : decode cX1_isLost 25 = .ok (.if_icmp .ge 51, 3) := by decide +kernel
theorem dX1_isLost_28 : decode cX1_isLost 28 = .ok (.aload_n 0, 1) := by decide +kernel
theorem dX1_isLost_29 : decode cX1_isLost 29 = .ok (.getfield 22, 3) := by decide +kernel
theorem dX1_isLost_32 : decode cX1_isLost 32 = .ok (.getfield 71, 3) := by decide +kernel
theorem dX1_isLost_35 : decode cX1_isLost 35 = .ok (.iload_n 3, 1) := by decide +kernel
theorem dX1_isLost_36 : decode cX1_isLost 36 = .ok (.iaload, 1) := by decide +kernel
theorem dX1_isLost_37 : decode cX1_isLost 37 = .ok (.iload_n 1, 1) := by decide +kernel
theorem dX1_isLost_38 : decode cX1_isLost 38 = .ok (.if_icmp .gt 11, 3) := by decide +kernel
theorem dX1_isLost_41 : decode cX1_isLost 41 = .ok (.aload_n 0, 1) := by decide +kernel
theorem dX1_isLost_42 : decode cX1_isLost 42 = .ok (.iload_n 3, 1) := by decide +kernel
theorem dX1_isLost_43 : decode cX1_isLost 43 = .ok (.invokevirtual 50, 3) := by decide +kernel
theorem dX1_isLost_46 : decode cX1_isLost 46 = .ok (.goto 4, 3) := by decide +kernel
theorem dX1_isLost_49 : decode cX1_isLost 49 = .ok (.iconst (-1), 1) := by decide +kernel
theorem dX1_isLost_50 : decode cX1_isLost 50 = .ok (.istore 4, 2) := by decide +kernel
theorem dX1_isLost_52 : decode cX1_isLost 52 = .ok (.iload 4, 2) := by decide +kernel
theorem dX1_isLost_54 : decode cX1_isLost 54 = .ok (.iconst (-1), 1) := by decide +kernel
theorem dX1_isLost_55 : decode cX1_isLost 55 = .ok (.if_icmp .eq 15, 3) := by decide +kernel
theorem dX1_isLost_58 : decode cX1_isLost 58 = .ok (.iload_n 2, 1) := by decide +kernel
theorem dX1_isLost_59 : decode cX1_isLost 59 = .ok (.iload 4, 2) := by decide +kernel
theorem dX1_isLost_61 : decode cX1_isLost 61 = .ok (.iushr, 1) := by decide +kernel
theorem dX1_isLost_62 : decode cX1_isLost 62 = .ok (.iconst 1, 1) := by decide +kernel
theorem dX1_isLost_63 : decode cX1_isLost 63 = .ok (.iand, 1) := by decide +kernel
theorem dX1_isLost_64 : decode cX1_isLost 64 = .ok (.iconst 1, 1) := by decide +kernel
theorem dX1_isLost_65 : decode cX1_isLost 65 = .ok (.if_icmp .ne 5, 3) := by decide +kernel
theorem dX1_isLost_68 : decode cX1_isLost 68 = .ok (.iconst 1, 1) := by decide +kernel
theorem dX1_isLost_69 : decode cX1_isLost 69 = .ok (.ireturn, 1) := by decide +kernel
theorem dX1_isLost_70 : decode cX1_isLost 70 = .ok (.iinc 3 1, 3) := by decide +kernel
theorem dX1_isLost_73 : decode cX1_isLost 73 = .ok (.goto (-62), 3) := by decide +kernel
theorem dX1_isLost_76 : decode cX1_isLost 76 = .ok (.iconst 0, 1) := by decide +kernel
theorem dX1_isLost_77 : decode cX1_isLost 77 = .ok (.ireturn, 1) := by decide +kernel
theorem dX1_barredSlots_0 : decode cX1_barredSlots 0 = .ok (.iconst 0, 1) := by decide +kernel
theorem dX1_barredSlots_1 : decode cX1_barredSlots 1 = .ok (.istore_n 1, 1) := by decide +kernel
theorem dX1_barredSlots_2 : decode cX1_barredSlots 2 = .ok (.iconst 0, 1) := by decide +kernel
theorem dX1_barredSlots_3 : decode cX1_barredSlots 3 = .ok (.istore_n 2, 1) := by decide +kernel
theorem dX1_barredSlots_4 : decode cX1_barredSlots 4 = .ok (.iload_n 2, 1) := by decide +kernel
theorem dX1_barredSlots_5 : decode cX1_barredSlots 5 = .ok (.aload_n 0, 1) := by decide +kernel
theorem dX1_barredSlots_6 : decode cX1_barredSlots 6 = .ok (.getfield 18, 3) := by decide +kernel
theorem dX1_barredSlots_9 : decode cX1_barredSlots 9 = .ok (.getfield 87, 3) := by decide +kernel
theorem dX1_barredSlots_12 : decode cX1_barredSlots 12 = .ok (.if_icmp .ge 52, 3) := by decide +kernel
theorem dX1_barredSlots_15 : decode cX1_barredSlots 15 = .ok (.iload_n 2, 1) := by decide +kernel
theorem dX1_barredSlots_16 : decode cX1_barredSlots 16 = .ok (.bipush 60, 2) := by decide +kernel
theorem dX1_barredSlots_18 : decode cX1_barredSlots 18 = .ok (.if_icmp .ge 46, 3) := by decide +kernel
theorem dX1_barredSlots_21 : decode cX1_barredSlots 21 = .ok (.aload_n 0, 1) := by decide +kernel
theorem dX1_barredSlots_22 : decode cX1_barredSlots 22 = .ok (.aload_n 0, 1) := by decide +kernel
theorem dX1_barredSlots_23 : decode cX1_barredSlots 23 = .ok (.getfield 18, 3) := by decide +kernel
theorem dX1_barredSlots_26 : decode cX1_barredSlots 26 = .ok (.getfield 90, 3) := by decide +kernel
theorem dX1_barredSlots_29 : decode cX1_barredSlots 29 = .ok (.iload_n 2, 1) := by decide +kernel
theorem dX1_barredSlots_30 : decode cX1_barredSlots 30 = .ok (.iaload, 1) := by decide +kernel
theorem dX1_barredSlots_31 : decode cX1_barredSlots 31 = .ok (.invokevirtual 93, 3) := by decide +kernel
theorem dX1_barredSlots_34 : decode cX1_barredSlots 34 = .ok (.istore_n 3, 1) := by decide +kernel
theorem dX1_barredSlots_35 : decode cX1_barredSlots 35 = .ok (.iload_n 3, 1) := by decide +kernel
theorem dX1_barredSlots_36 : decode cX1_barredSlots 36 = .ok (.iconst (-1), 1) := by decide +kernel
theorem dX1_barredSlots_37 : decode cX1_barredSlots 37 = .ok (.if_icmp .ne 5, 3) := by decide +kernel
theorem dX1_barredSlots_40 : decode cX1_barredSlots 40 = .ok (.iconst (-1), 1) := by decide +kernel
theorem dX1_barredSlots_41 : decode cX1_barredSlots 41 = .ok (.ireturn, 1) := by decide +kernel
theorem dX1_barredSlots_42 : decode cX1_barredSlots 42 = .ok (.iload_n 1, 1) := by decide +kernel
theorem dX1_barredSlots_43 : decode cX1_barredSlots 43 = .ok (.iload_n 3, 1) := by decide +kernel
theorem dX1_barredSlots_44 : decode cX1_barredSlots 44 = .ok (.bipush (-2), 2) := by decide +kernel
theorem dX1_barredSlots_46 : decode cX1_barredSlots 46 = .ok (.if_icmp .ne 7, 3) := by decide +kernel
theorem dX1_barredSlots_49 : decode cX1_barredSlots 49 = .ok (.iconst 0, 1) := by decide +kernel
theorem dX1_barredSlots_50 : decode cX1_barredSlots 50 = .ok (.goto 6, 3) := by decide +kernel
theorem dX1_barredSlots_53 : decode cX1_barredSlots 53 = .ok (.iconst 1, 1) := by decide +kernel
theorem dX1_barredSlots_54 : decode cX1_barredSlots 54 = .ok (.iload_n 3, 1) := by decide +kernel
theorem dX1_barredSlots_55 : decode cX1_barredSlots 55 = .ok (.ishl, 1) := by decide +kernel
theorem dX1_barredSlots_56 : decode cX1_barredSlots 56 = .ok (.ior, 1) := by decide +kernel
theorem dX1_barredSlots_57 : decode cX1_barredSlots 57 = .ok (.istore_n 1, 1) := by decide +kernel
theorem dX1_barredSlots_58 : decode cX1_barredSlots 58 = .ok (.iinc 2 1, 3) := by decide +kernel
theorem dX1_barredSlots_61 : decode cX1_barredSlots 61 = .ok (.goto (-57), 3) := by decide +kernel
theorem dX1_barredSlots_64 : decode cX1_barredSlots 64 = .ok (.iload_n 1, 1) := by decide +kernel
theorem dX1_barredSlots_65 : decode cX1_barredSlots 65 = .ok (.ireturn, 1) := by decide +kernel
theorem dX1_slotLackedBy_0 : decode cX1_slotLackedBy 0 = .ok (.iconst 0, 1) := by decide +kernel
theorem dX1_slotLackedBy_1 : decode cX1_slotLackedBy 1 = .ok (.istore_n 2, 1) := by decide +kernel
theorem dX1_slotLackedBy_2 : decode cX1_slotLackedBy 2 = .ok (.aload_n 0, 1) := by decide +kernel
theorem dX1_slotLackedBy_3 : decode cX1_slotLackedBy 3 = .ok (.getfield 18, 3) := by decide +kernel
theorem dX1_slotLackedBy_6 : decode cX1_slotLackedBy 6 = .ok (.iload_n 1, 1) := by decide +kernel
theorem dX1_slotLackedBy_7 : decode cX1_slotLackedBy 7 = .ok (.invokevirtual 96, 3) := by decide +kernel
theorem dX1_slotLackedBy_10 : decode cX1_slotLackedBy 10 = .ok (.istore_n 3, 1) := by decide +kernel
theorem dX1_slotLackedBy_11 : decode cX1_slotLackedBy 11 = .ok (.iconst 0, 1) := by decide +kernel
theorem dX1_slotLackedBy_12 : decode cX1_slotLackedBy 12 = .ok (.istore 4, 2) := by decide +kernel
theorem dX1_slotLackedBy_14 : decode cX1_slotLackedBy 14 = .ok (.iload 4, 2) := by decide +kernel
theorem dX1_slotLackedBy_16 : decode cX1_slotLackedBy 16 = .ok (.iload_n 3, 1) := by decide +kernel
theorem dX1_slotLackedBy_17 : decode cX1_slotLackedBy 17 = .ok (.if_icmp .ge 69, 3) := by decide +kernel
theorem dX1_slotLackedBy_20 : decode cX1_slotLackedBy 20 = .ok (.iload_n 2, 1) := by decide +kernel
theorem dX1_slotLackedBy_21 : decode cX1_slotLackedBy 21 = .ok (.aload_n 0, 1) := by decide +kernel
theorem dX1_slotLackedBy_22 : decode cX1_slotLackedBy 22 = .ok (.getfield 18, 3) := by decide +kernel
theorem dX1_slotLackedBy_25 : decode cX1_slotLackedBy 25 = .ok (.iload_n 1, 1) := by decide +kernel
theorem dX1_slotLackedBy_26 : decode cX1_slotLackedBy 26 = .ok (.iload 4, 2) := by decide +kernel
theorem dX1_slotLackedBy_28 : decode cX1_slotLackedBy 28 = .ok (.invokevirtual 99, 3) := by decide +kernel
theorem dX1_slotLackedBy_31 : decode cX1_slotLackedBy 31 = .ok (.invokestatic 80, 3) := by decide +kernel
theorem dX1_slotLackedBy_34 : decode cX1_slotLackedBy 34 = .ok (.istore 5, 2) := by decide +kernel
theorem dX1_slotLackedBy_36 : decode cX1_slotLackedBy 36 = .ok (.iload 5, 2) := by decide +kernel
theorem dX1_slotLackedBy_38 : decode cX1_slotLackedBy 38 = .ok (.iconst (-1), 1) := by decide +kernel
theorem dX1_slotLackedBy_39 : decode cX1_slotLackedBy 39 = .ok (.if_icmp .ne 6, 3) := by decide +kernel
theorem dX1_slotLackedBy_42 : decode cX1_slotLackedBy 42 = .ok (.bipush (-2), 2) := by decide +kernel
theorem dX1_slotLackedBy_44 : decode cX1_slotLackedBy 44 = .ok (.ireturn, 1) := by decide +kernel
theorem dX1_slotLackedBy_45 : decode cX1_slotLackedBy 45 = .ok (.aload_n 0, 1) := by decide +kernel
theorem dX1_slotLackedBy_46 : decode cX1_slotLackedBy 46 = .ok (.getfield 9, 3) := by decide +kernel
theorem dX1_slotLackedBy_49 : decode cX1_slotLackedBy 49 = .ok (.iload 5, 2) := by decide +kernel
theorem dX1_slotLackedBy_51 : decode cX1_slotLackedBy 51 = .ok (.iaload, 1) := by decide +kernel
theorem dX1_slotLackedBy_52 : decode cX1_slotLackedBy 52 = .ok (.iconst (-1), 1) := by decide +kernel
theorem dX1_slotLackedBy_53 : decode cX1_slotLackedBy 53 = .ok (.if_icmp .ne 19, 3) := by decide +kernel
theorem dX1_slotLackedBy_56 : decode cX1_slotLackedBy 56 = .ok (.iload 4, 2) := by decide +kernel
theorem dX1_slotLackedBy_58 : decode cX1_slotLackedBy 58 = .ok (.iload_n 3, 1) := by decide +kernel
theorem dX1_slotLackedBy_59 : decode cX1_slotLackedBy 59 = .ok (.iconst 1, 1) := by decide +kernel
theorem dX1_slotLackedBy_60 : decode cX1_slotLackedBy 60 = .ok (.isub, 1) := by decide +kernel
theorem dX1_slotLackedBy_61 : decode cX1_slotLackedBy 61 = .ok (.if_icmp .ne 8, 3) := by decide +kernel
theorem dX1_slotLackedBy_64 : decode cX1_slotLackedBy 64 = .ok (.iload 5, 2) := by decide +kernel
theorem dX1_slotLackedBy_66 : decode cX1_slotLackedBy 66 = .ok (.goto 5, 3) := by decide +kernel
theorem dX1_slotLackedBy_69 : decode cX1_slotLackedBy 69 = .ok (.bipush (-2), 2) := by decide +kernel
theorem dX1_slotLackedBy_71 : decode cX1_slotLackedBy 71 = .ok (.ireturn, 1) := by decide +kernel
theorem dX1_slotLackedBy_72 : decode cX1_slotLackedBy 72 = .ok (.aload_n 0, 1) := by decide +kernel
theorem dX1_slotLackedBy_73 : decode cX1_slotLackedBy 73 = .ok (.getfield 9, 3) := by decide +kernel
theorem dX1_slotLackedBy_76 : decode cX1_slotLackedBy 76 = .ok (.iload 5, 2) := by decide +kernel
theorem dX1_slotLackedBy_78 : decode cX1_slotLackedBy 78 = .ok (.iaload, 1) := by decide +kernel
theorem dX1_slotLackedBy_79 : decode cX1_slotLackedBy 79 = .ok (.istore_n 2, 1) := by decide +kernel
theorem dX1_slotLackedBy_80 : decode cX1_slotLackedBy 80 = .ok (.iinc 4 1, 3) := by decide +kernel
theorem dX1_slotLackedBy_83 : decode cX1_slotLackedBy 83 = .ok (.goto (-69), 3) := by decide +kernel
theorem dX1_slotLackedBy_86 : decode cX1_slotLackedBy 86 = .ok (.iconst (-1), 1) := by decide +kernel
theorem dX1_slotLackedBy_87 : decode cX1_slotLackedBy 87 = .ok (.ireturn, 1) := by decide +kernel
theorem dX2_init_0 : decode cX2_init 0 = .ok (.aload_n 0, 1) := by decide +kernel
theorem dX2_init_1 : decode cX2_init 1 = .ok (.invokespecial 3, 3) := by decide +kernel
theorem dX2_init_4 : decode cX2_init 4 = .ok (.aload_n 0, 1) := by decide +kernel
theorem dX2_init_5 : decode cX2_init 5 = .ok (.bipush 8, 2) := by decide +kernel
theorem dX2_init_7 : decode cX2_init 7 = .ok (.newarray .int, 2) := by decide +kernel
theorem dX2_init_9 : decode cX2_init 9 = .ok (.putfield 9, 3) := by decide +kernel
theorem dX2_init_12 : decode cX2_init 12 = .ok (.aload_n 0, 1) := by decide +kernel
theorem dX2_init_13 : decode cX2_init 13 = .ok (.bipush 64, 2) := by decide +kernel
theorem dX2_init_15 : decode cX2_init 15 = .ok (.newarray .int, 2) := by decide +kernel
theorem dX2_init_17 : decode cX2_init 17 = .ok (.putfield 15, 3) := by decide +kernel
theorem dX2_init_20 : decode cX2_init 20 = .ok (.aload_n 0, 1) := by decide +kernel
theorem dX2_init_21 : decode cX2_init 21 = .ok (.bipush 8, 2) := by decide +kernel
theorem dX2_init_23 : decode cX2_init 23 = .ok (.newarray .int, 2) := by decide +kernel
theorem dX2_init_25 : decode cX2_init 25 = .ok (.putfield 18, 3) := by decide +kernel
theorem dX2_init_28 : decode cX2_init 28 = .ok (.aload_n 0, 1) := by decide +kernel
theorem dX2_init_29 : decode cX2_init 29 = .ok (.aload_n 1, 1) := by decide +kernel
theorem dX2_init_30 : decode cX2_init 30 = .ok (.putfield 21, 3) := by decide +kernel
theorem dX2_init_33 : decode cX2_init 33 = .ok (.return_, 1) := by decide +kernel
theorem dX2_having_0 : decode cX2_having 0 = .ok (.iload_n 1, 1) := by decide +kernel
theorem dX2_having_1 : decode cX2_having 1 = .ok (.invokestatic 25, 3) := by decide +kernel
theorem dX2_having_4 : decode cX2_having 4 = .ok (.ifCond .eq 12, 3) := by decide +kernel
theorem dX2_having_7 : decode cX2_having 7 = .ok (.aload_n 0, 1) := by decide +kernel
theorem dX2_having_8 : decode cX2_having 8 = .ok (.getfield 9, 3) := by decide +kernel
theorem dX2_having_11 : decode cX2_having 11 = .ok (.iload_n 1, 1) := by decide +kernel
theorem dX2_having_12 : decode cX2_having 12 = .ok (.iaload, 1) := by decide +kernel
theorem dX2_having_13 : decode cX2_having 13 = .ok (.goto 4, 3) := by decide +kernel
theorem dX2_having_16 : decode cX2_having 16 = .ok (.iconst 0, 1) := by decide +kernel
theorem dX2_having_17 : decode cX2_having 17 = .ok (.ireturn, 1) := by decide +kernel
theorem dX2_holding_0 : decode cX2_holding 0 = .ok (.iload_n 1, 1) := by decide +kernel
theorem dX2_holding_1 : decode cX2_holding 1 = .ok (.invokestatic 25, 3) := by decide +kernel
theorem dX2_holding_4 : decode cX2_holding 4 = .ok (.ifCond .eq 24, 3) := by decide +kernel
theorem dX2_holding_7 : decode cX2_holding 7 = .ok (.iload_n 2, 1) := by decide +kernel
theorem dX2_holding_8 : decode cX2_holding 8 = .ok (.invokestatic 25, 3) := by decide +kernel
theorem dX2_holding_11 : decode cX2_holding 11 = .ok (.ifCond .eq 17, 3) := by decide +kernel
theorem dX2_holding_14 : decode cX2_holding 14 = .ok (.aload_n 0, 1) := by decide +kernel
theorem dX2_holding_15 : decode cX2_holding 15 = .ok (.getfield 15, 3) := by decide +kernel
theorem dX2_holding_18 : decode cX2_holding 18 = .ok (.iload_n 1, 1) := by decide +kernel
theorem dX2_holding_19 : decode cX2_holding 19 = .ok (.bipush 8, 2) := by decide +kernel
theorem dX2_holding_21 : decode cX2_holding 21 = .ok (.imul, 1) := by decide +kernel
theorem dX2_holding_22 : decode cX2_holding 22 = .ok (.iload_n 2, 1) := by decide +kernel
theorem dX2_holding_23 : decode cX2_holding 23 = .ok (.iadd, 1) := by decide +kernel
theorem dX2_holding_24 : decode cX2_holding 24 = .ok (.iaload, 1) := by decide +kernel
theorem dX2_holding_25 : decode cX2_holding 25 = .ok (.goto 4, 3) := by decide +kernel
theorem dX2_holding_28 : decode cX2_holding 28 = .ok (.iconst 0, 1) := by decide +kernel
theorem dX2_holding_29 : decode cX2_holding 29 = .ok (.ireturn, 1) := by decide +kernel
theorem dX2_survey_0 : decode cX2_survey 0 = .ok (.aload_n 0, 1) := by decide +kernel
theorem dX2_survey_1 : decode cX2_survey 1 = .ok (.getfield 9, 3) := by decide +kernel
theorem dX2_survey_4 : decode cX2_survey 4 = .ok (.iconst 0, 1) := by decide +kernel
theorem dX2_survey_5 : decode cX2_survey 5 = .ok (.invokestatic 29, 3) := by decide +kernel
theorem dX2_survey_8 : decode cX2_survey 8 = .ok (.aload_n 0, 1) := by decide +kernel
theorem dX2_survey_9 : decode cX2_survey 9 = .ok (.getfield 15, 3) := by decide +kernel
theorem dX2_survey_12 : decode cX2_survey 12 = .ok (.iconst 0, 1) := by decide +kernel
theorem dX2_survey_13 : decode cX2_survey 13 = .ok (.invokestatic 29, 3) := by decide +kernel
theorem dX2_survey_16 : decode cX2_survey 16 = .ok (.iconst 0, 1) := by decide +kernel
theorem dX2_survey_17 : decode cX2_survey 17 = .ok (.istore_n 1, 1) := by decide +kernel
theorem dX2_survey_18 : decode cX2_survey 18 = .ok (.iload_n 1, 1) := by decide +kernel
theorem dX2_survey_19 : decode cX2_survey 19 = .ok (.aload_n 0, 1) := by decide +kernel
theorem dX2_survey_20 : decode cX2_survey 20 = .ok (.getfield 21, 3) := by decide +kernel
theorem dX2_survey_23 : decode cX2_survey 23 = .ok (.getfield 35, 3) := by decide +kernel
theorem dX2_survey_26 : decode cX2_survey 26 = .ok (.if_icmp .ge 29, 3) := by decide +kernel
theorem dX2_survey_29 : decode cX2_survey 29 = .ok (.aload_n 0, 1) := by decide +kernel
theorem dX2_survey_30 : decode cX2_survey 30 = .ok (.getfield 21, 3) := by decide +kernel
theorem dX2_survey_33 : decode cX2_survey 33 = .ok (.iload_n 1, 1) := by decide +kernel
theorem dX2_survey_34 : decode cX2_survey 34 = .ok (.invokevirtual 41, 3) := by decide +kernel
theorem dX2_survey_37 : decode cX2_survey 37 = .ok (.ifCond .eq 12, 3) := by decide +kernel
theorem dX2_survey_40 : decode cX2_survey 40 = .ok (.aload_n 0, 1) := by decide +kernel
theorem dX2_survey_41 : decode cX2_survey 41 = .ok (.iload_n 1, 1) := by decide +kernel
theorem dX2_survey_42 : decode cX2_survey 42 = .ok (.invokevirtual 44, 3) := by decide +kernel
theorem dX2_survey_45 : decode cX2_survey 45 = .ok (.aload_n 0, 1) := by decide +kernel
theorem dX2_survey_46 : decode cX2_survey 46 = .ok (.invokevirtual 48, 3) := by decide +kernel
theorem dX2_survey_49 : decode cX2_survey 49 = .ok (.iinc 1 1, 3) := by decide +kernel
theorem dX2_survey_52 : decode cX2_survey 52 = .ok (.goto (-34), 3) := by decide +kernel
theorem dX2_survey_55 : decode cX2_survey 55 = .ok (.return_, 1) := by decide +kernel
theorem dX2_findLastPlaces_0 : decode cX2_findLastPlaces 0 = .ok (.aload_n 0, 1) := by decide +kernel
theorem dX2_findLastPlaces_1 : decode cX2_findLastPlaces 1 = .ok (.getfield 18, 3) := by decide +kernel
theorem dX2_findLastPlaces_4 : decode cX2_findLastPlaces 4 = .ok (.iconst (-1), 1) := by decide +kernel
theorem dX2_findLastPlaces_5 : decode cX2_findLastPlaces 5 = .ok (.invokestatic 29, 3) := by decide +kernel
theorem dX2_findLastPlaces_8 : decode cX2_findLastPlaces 8 = .ok (.aload_n 0, 1) := by decide +kernel
theorem dX2_findLastPlaces_9 : decode cX2_findLastPlaces 9 = .ok (.getfield 21, 3) := by decide +kernel
theorem dX2_findLastPlaces_12 : decode cX2_findLastPlaces 12 = .ok (.iload_n 1, 1) := by decide +kernel
theorem dX2_findLastPlaces_13 : decode cX2_findLastPlaces 13 = .ok (.invokevirtual 51, 3) := by decide +kernel
theorem dX2_findLastPlaces_16 : decode cX2_findLastPlaces 16 = .ok (.istore_n 2, 1) := by decide +kernel
theorem dX2_findLastPlaces_17 : decode cX2_findLastPlaces 17 = .ok (.iconst 0, 1) := by decide +kernel
theorem dX2_findLastPlaces_18 : decode cX2_findLastPlaces 18 = .ok (.istore_n 3, 1) := by decide +kernel
theorem dX2_findLastPlaces_19 : decode cX2_findLastPlaces 19 = .ok (.iload_n 3, 1) := by decide +kernel
theorem dX2_findLastPlaces_20 : decode cX2_findLastPlaces 20 = .ok (.iload_n 2, 1) := by decide +kernel
theorem dX2_findLastPlaces_21 : decode cX2_findLastPlaces 21 = .ok (.if_icmp .ge 36, 3) := by decide +kernel
theorem dX2_findLastPlaces_24 : decode cX2_findLastPlaces 24 = .ok (.aload_n 0, 1) := by decide +kernel
theorem dX2_findLastPlaces_25 : decode cX2_findLastPlaces 25 = .ok (.getfield 21, 3) := by decide +kernel
theorem dX2_findLastPlaces_28 : decode cX2_findLastPlaces 28 = .ok (.iload_n 1, 1) := by decide +kernel
theorem dX2_findLastPlaces_29 : decode cX2_findLastPlaces 29 = .ok (.iload_n 3, 1) := by decide +kernel
theorem dX2_findLastPlaces_30 : decode cX2_findLastPlaces 30 = .ok (.invokevirtual 55, 3) := by decide +kernel
theorem dX2_findLastPlaces_33 : decode cX2_findLastPlaces 33 = .ok (.istore 4, 2) := by decide +kernel
theorem dX2_findLastPlaces_35 : decode cX2_findLastPlaces 35 = .ok (.iload 4, 2) := by decide +kernel
theorem dX2_findLastPlaces_37 : decode cX2_findLastPlaces 37 = .ok (.invokestatic 25, 3) := by decide +kernel
theorem dX2_findLastPlaces_40 : decode cX2_findLastPlaces 40 = .ok (.ifCond .eq 11, 3) := by decide +kernel
theorem dX2_findLastPlaces_43 : decode cX2_findLastPlaces 43 = .ok (.aload_n 0, 1) := by decide +kernel
theorem dX2_findLastPlaces_44 : decode cX2_findLastPlaces 44 = .ok (.getfield 18, 3) := by decide +kernel
theorem dX2_findLastPlaces_47 : decode cX2_findLastPlaces 47 = .ok (.iload 4, 2) := by decide +kernel
theorem dX2_findLastPlaces_49 : decode cX2_findLastPlaces 49 = .ok (.iload_n 3, 1) := by decide +kernel
theorem dX2_findLastPlaces_50 : decode cX2_findLastPlaces 50 = .ok (.iastore, 1) := by decide +kernel
theorem dX2_findLastPlaces_51 : decode cX2_findLastPlaces 51 = .ok (.iinc 3 1, 3) := by decide +kernel
theorem dX2_findLastPlaces_54 : decode cX2_findLastPlaces 54 = .ok (.goto (-35), 3) := by decide +kernel
theorem dX2_findLastPlaces_57 : decode cX2_findLastPlaces 57 = .ok (.return_, 1) := by decide +kernel
theorem dX2_addRow_0 : decode cX2_addRow 0 = .ok (.iconst 0, 1) := by decide +kernel
theorem dX2_addRow_1 : decode cX2_addRow 1 = .ok (.istore_n 1, 1) := by decide +kernel
theorem dX2_addRow_2 : decode cX2_addRow 2 = .ok (.iload_n 1, 1) := by decide +kernel
theorem dX2_addRow_3 : decode cX2_addRow 3 = .ok (.bipush 8, 2) := by decide +kernel
theorem dX2_addRow_5 : decode cX2_addRow 5 = .ok (.if_icmp .ge 80, 3) := by decide +kernel
theorem dX2_addRow_8 : decode cX2_addRow 8 = .ok (.aload_n 0, 1) := by decide +kernel
theorem dX2_addRow_9 : decode cX2_addRow 9 = .ok (.getfield 18, 3) := by decide +kernel
theorem dX2_addRow_12 : decode cX2_addRow 12 = .ok (.iload_n 1, 1) := by decide +kernel
theorem dX2_addRow_13 : decode cX2_addRow 13 = .ok (.iaload, 1) := by decide +kernel
theorem dX2_addRow_14 : decode cX2_addRow 14 = .ok (.iconst (-1), 1) := by decide +kernel
theorem dX2_addRow_15 : decode cX2_addRow 15 = .ok (.if_icmp .ne 6, 3) := by decide +kernel
theorem dX2_addRow_18 : decode cX2_addRow 18 = .ok (.goto 61, 3) := by decide +kernel
theorem dX2_addRow_21 : decode cX2_addRow 21 = .ok (.aload_n 0, 1) := by decide +kernel
theorem dX2_addRow_22 : decode cX2_addRow 22 = .ok (.getfield 9, 3) := by decide +kernel
theorem dX2_addRow_25 : decode cX2_addRow 25 = .ok (.iload_n 1, 1) := by decide +kernel
theorem dX2_addRow_26 : decode cX2_addRow 26 = .ok (.dup2, 1) := by decide +kernel
theorem dX2_addRow_27 : decode cX2_addRow 27 = .ok (.iaload, 1) := by decide +kernel
theorem dX2_addRow_28 : decode cX2_addRow 28 = .ok (.iconst 1, 1) := by decide +kernel
theorem dX2_addRow_29 : decode cX2_addRow 29 = .ok (.iadd, 1) := by decide +kernel
theorem dX2_addRow_30 : decode cX2_addRow 30 = .ok (.iastore, 1) := by decide +kernel
theorem dX2_addRow_31 : decode cX2_addRow 31 = .ok (.iconst 0, 1) := by decide +kernel
theorem dX2_addRow_32 : decode cX2_addRow 32 = .ok (.istore_n 2, 1) := by decide +kernel
theorem dX2_addRow_33 : decode cX2_addRow 33 = .ok (.iload_n 2, 1) := by decide +kernel
theorem dX2_addRow_34 : decode cX2_addRow 34 = .ok (.bipush 8, 2) := by decide +kernel
theorem dX2_addRow_36 : decode cX2_addRow 36 = .ok (.if_icmp .ge 43, 3) := by decide +kernel
theorem dX2_addRow_39 : decode cX2_addRow 39 = .ok (.aload_n 0, 1) := by decide +kernel
theorem dX2_addRow_40 : decode cX2_addRow 40 = .ok (.getfield 15, 3) := by decide +kernel
theorem dX2_addRow_43 : decode cX2_addRow 43 = .ok (.iload_n 1, 1) := by decide +kernel
theorem dX2_addRow_44 : decode cX2_addRow 44 = .ok (.bipush 8, 2) := by decide +kernel
theorem dX2_addRow_46 : decode cX2_addRow 46 = .ok (.imul, 1) := by decide +kernel
theorem dX2_addRow_47 : decode cX2_addRow 47 = .ok (.iload_n 2, 1) := by decide +kernel
theorem dX2_addRow_48 : decode cX2_addRow 48 = .ok (.iadd, 1) := by decide +kernel
theorem dX2_addRow_49 : decode cX2_addRow 49 = .ok (.dup2, 1) := by decide +kernel
theorem dX2_addRow_50 : decode cX2_addRow 50 = .ok (.iaload, 1) := by decide +kernel
theorem dX2_addRow_51 : decode cX2_addRow 51 = .ok (.aload_n 0, 1) := by decide +kernel
theorem dX2_addRow_52 : decode cX2_addRow 52 = .ok (.getfield 18, 3) := by decide +kernel
theorem dX2_addRow_55 : decode cX2_addRow 55 = .ok (.iload_n 2, 1) := by decide +kernel
theorem dX2_addRow_56 : decode cX2_addRow 56 = .ok (.iaload, 1) := by decide +kernel
theorem dX2_addRow_57 : decode cX2_addRow 57 = .ok (.aload_n 0, 1) := by decide +kernel
theorem dX2_addRow_58 : decode cX2_addRow 58 = .ok (.getfield 18, 3) := by decide +kernel
theorem dX2_addRow_61 : decode cX2_addRow 61 = .ok (.iload_n 1, 1) := by decide +kernel
theorem dX2_addRow_62 : decode cX2_addRow 62 = .ok (.iaload, 1) := by decide +kernel
theorem dX2_addRow_63 : decode cX2_addRow 63 = .ok (.if_icmp .le 7, 3) := by decide +kernel
theorem dX2_addRow_66 : decode cX2_addRow 66 = .ok (.iconst 1, 1) := by decide +kernel
theorem dX2_addRow_67 : decode cX2_addRow 67 = .ok (.goto 4, 3) := by decide +kernel
theorem dX2_addRow_70 : decode cX2_addRow 70 = .ok (.iconst 0, 1) := by decide +kernel
theorem dX2_addRow_71 : decode cX2_addRow 71 = .ok (.iadd, 1) := by decide +kernel
theorem dX2_addRow_72 : decode cX2_addRow 72 = .ok (.iastore, 1) := by decide +kernel
theorem dX2_addRow_73 : decode cX2_addRow 73 = .ok (.iinc 2 1, 3) := by decide +kernel
theorem dX2_addRow_76 : decode cX2_addRow 76 = .ok (.goto (-43), 3) := by decide +kernel
theorem dX2_addRow_79 : decode cX2_addRow 79 = .ok (.iinc 1 1, 3) := by decide +kernel
theorem dX2_addRow_82 : decode cX2_addRow 82 = .ok (.goto (-80), 3) := by decide +kernel
theorem dX2_addRow_85 : decode cX2_addRow 85 = .ok (.return_, 1) := by decide +kernel
theorem dX2_atRank_0 : decode cX2_atRank 0 = .ok (.iload_n 1, 1) := by decide +kernel
theorem dX2_atRank_1 : decode cX2_atRank 1 = .ok (.ifCond .lt 9, 3) := by decide +kernel
theorem dX2_atRank_4 : decode cX2_atRank 4 = .ok (.iload_n 1, 1) := by decide +kernel
theorem dX2_atRank_5 : decode cX2_atRank 5 = .ok (.bipush 64, 2) := by decide +kernel
theorem dX2_atRank_7 : decode cX2_atRank 7 = .ok (.if_icmp .lt 5, 3) := by decide +kernel
theorem dX2_atRank_10 : decode cX2_atRank 10 = .ok (.iconst (-1), 1) := by decide +kernel
theorem dX2_atRank_11 : decode cX2_atRank 11 = .ok (.ireturn, 1) := by decide +kernel
theorem dX2_atRank_12 : decode cX2_atRank 12 = .ok (.iconst 0, 1) := by decide +kernel
theorem dX2_atRank_13 : decode cX2_atRank 13 = .ok (.istore_n 2, 1) := by decide +kernel
theorem dX2_atRank_14 : decode cX2_atRank 14 = .ok (.iload_n 2, 1) := by decide +kernel
theorem dX2_atRank_15 : decode cX2_atRank 15 = .ok (.bipush 64, 2) := by decide +kernel
theorem dX2_atRank_17 : decode cX2_atRank 17 = .ok (.if_icmp .ge 28, 3) := by decide +kernel
theorem dX2_atRank_20 : decode cX2_atRank 20 = .ok (.aload_n 0, 1) := by decide +kernel
theorem dX2_atRank_21 : decode cX2_atRank 21 = .ok (.iload_n 2, 1) := by decide +kernel
theorem dX2_atRank_22 : decode cX2_atRank 22 = .ok (.invokevirtual 59, 3) := by decide +kernel
theorem dX2_atRank_25 : decode cX2_atRank 25 = .ok (.ifCond .eq 14, 3) := by decide +kernel
theorem dX2_atRank_28 : decode cX2_atRank 28 = .ok (.aload_n 0, 1) := by decide +kernel
theorem dX2_atRank_29 : decode cX2_atRank 29 = .ok (.iload_n 2, 1) := by decide +kernel
theorem dX2_atRank_30 : decode cX2_atRank 30 = .ok (.invokevirtual 62, 3) := by decide +kernel
theorem dX2_atRank_33 : decode cX2_atRank 33 = .ok (.iload_n 1, 1) := by decide +kernel
theorem dX2_atRank_34 : decode cX2_atRank 34 = .ok (.if_icmp .ne 5, 3) := by decide +kernel
theorem dX2_atRank_37 : decode cX2_atRank 37 = .ok (.iload_n 2, 1) := by decide +kernel
theorem dX2_atRank_38 : decode cX2_atRank 38 = .ok (.ireturn, 1) := by decide +kernel
theorem dX2_atRank_39 : decode cX2_atRank 39 = .ok (.iinc 2 1, 3) := by decide +kernel
theorem dX2_atRank_42 : decode cX2_atRank 42 = .ok (.goto (-28), 3) := by decide +kernel
theorem dX2_atRank_45 : decode cX2_atRank 45 = .ok (.iconst (-1), 1) := by decide +kernel
theorem dX2_atRank_46 : decode cX2_atRank 46 = .ok (.ireturn, 1) := by decide +kernel
theorem dX2_isRanked_0 : decode cX2_isRanked 0 = .ok (.iload_n 1, 1) := by decide +kernel
theorem dX2_isRanked_1 : decode cX2_isRanked 1 = .ok (.bipush 8, 2) := by decide +kernel
theorem dX2_isRanked_3 : decode cX2_isRanked 3 = .ok (.idiv, 1) := by decide +kernel
theorem dX2_isRanked_4 : decode cX2_isRanked 4 = .ok (.iload_n 1, 1) := by decide +kernel
theorem dX2_isRanked_5 : decode cX2_isRanked 5 = .ok (.bipush 8, 2) := by decide +kernel
theorem dX2_isRanked_7 : decode cX2_isRanked 7 = .ok (.irem, 1) := by decide +kernel
theorem dX2_isRanked_8 : decode cX2_isRanked 8 = .ok (.if_icmp .eq 18, 3) := by decide +kernel
theorem dX2_isRanked_11 : decode cX2_isRanked 11 = .ok (.aload_n 0, 1) := by decide +kernel
theorem dX2_isRanked_12 : decode cX2_isRanked 12 = .ok (.iload_n 1, 1) := by decide +kernel
theorem dX2_isRanked_13 : decode cX2_isRanked 13 = .ok (.bipush 8, 2) := by decide +kernel
theorem dX2_isRanked_15 : decode cX2_isRanked 15 = .ok (.idiv, 1) := by decide +kernel
theorem dX2_isRanked_16 : decode cX2_isRanked 16 = .ok (.invokevirtual 65, 3) := by decide +kernel
theorem dX2_isRanked_19 : decode cX2_isRanked 19 = .ok (.ifCond .le 7, 3) := by decide +kernel
theorem dX2_isRanked_22 : decode cX2_isRanked 22 = .ok (.iconst 1, 1) := by decide +kernel
theorem dX2_isRanked_23 : decode cX2_isRanked 23 = .ok (.goto 4, 3) := by decide +kernel
theorem dX2_isRanked_26 : decode cX2_isRanked 26 = .ok (.iconst 0, 1) := by decide +kernel
theorem dX2_isRanked_27 : decode cX2_isRanked 27 = .ok (.ireturn, 1) := by decide +kernel
theorem dX2_countAhead_0 : decode cX2_countAhead 0 = .ok (.iconst 0, 1) := by decide +kernel
theorem dX2_countAhead_1 : decode cX2_countAhead 1 = .ok (.istore_n 2, 1) := by decide +kernel
theorem dX2_countAhead_2 : decode cX2_countAhead 2 = .ok (.iconst 0, 1) := by decide +kernel
theorem dX2_countAhead_3 : decode cX2_countAhead 3 = .ok (.istore_n 3, 1) := by decide +kernel
theorem dX2_countAhead_4 : decode cX2_countAhead 4 = .ok (.iload_n 3, 1) := by decide +kernel
theorem dX2_countAhead_5 : decode cX2_countAhead 5 = .ok (.bipush 64, 2) := by decide +kernel
theorem dX2_countAhead_7 : decode cX2_countAhead 7 = .ok (.if_icmp .ge 34, 3) := by decide +kernel
theorem dX2_countAhead_10 : decode cX2_countAhead 10 = .ok (.iload_n 2, 1) := by decide +kernel
theorem dX2_countAhead_11 : decode cX2_countAhead 11 = .ok (.aload_n 0, 1) := by decide +kernel
theorem dX2_countAhead_12 : decode cX2_countAhead 12 = .ok (.iload_n 3, 1) := by decide +kernel
theorem dX2_countAhead_13 : decode cX2_countAhead 13 = .ok (.invokevirtual 59, 3) := by decide +kernel
theorem dX2_countAhead_16 : decode cX2_countAhead 16 = .ok (.ifCond .eq 16, 3) := by decide +kernel
theorem dX2_countAhead_19 : decode cX2_countAhead 19 = .ok (.aload_n 0, 1) := by decide +kernel
theorem dX2_countAhead_20 : decode cX2_countAhead 20 = .ok (.iload_n 3, 1) := by decide +kernel
theorem dX2_countAhead_21 : decode cX2_countAhead 21 = .ok (.iload_n 1, 1) := by decide +kernel
theorem dX2_countAhead_22 : decode cX2_countAhead 22 = .ok (.invokevirtual 68, 3) := by decide +kernel
theorem dX2_countAhead_25 : decode cX2_countAhead 25 = .ok (.ifCond .eq 7, 3) := by decide +kernel
theorem dX2_countAhead_28 : decode cX2_countAhead 28 = .ok (.iconst 1, 1) := by decide +kernel
theorem dX2_countAhead_29 : decode cX2_countAhead 29 = .ok (.goto 4, 3) := by decide +kernel
theorem dX2_countAhead_32 : decode cX2_countAhead 32 = .ok (.iconst 0, 1) := by decide +kernel
theorem dX2_countAhead_33 : decode cX2_countAhead 33 = .ok (.iadd, 1) := by decide +kernel
theorem dX2_countAhead_34 : decode cX2_countAhead 34 = .ok (.istore_n 2, 1) := by decide +kernel
theorem dX2_countAhead_35 : decode cX2_countAhead 35 = .ok (.iinc 3 1, 3) := by decide +kernel
theorem dX2_countAhead_38 : decode cX2_countAhead 38 = .ok (.goto (-34), 3) := by decide +kernel
theorem dX2_countAhead_41 : decode cX2_countAhead 41 = .ok (.iload_n 2, 1) := by decide +kernel
theorem dX2_countAhead_42 : decode cX2_countAhead 42 = .ok (.ireturn, 1) := by decide +kernel
theorem dX2_isAhead_0 : decode cX2_isAhead 0 = .ok (.aload_n 0, 1) := by decide +kernel
theorem dX2_isAhead_1 : decode cX2_isAhead 1 = .ok (.iload_n 1, 1) := by decide +kernel
theorem dX2_isAhead_2 : decode cX2_isAhead 2 = .ok (.bipush 8, 2) := by decide +kernel
theorem dX2_isAhead_4 : decode cX2_isAhead 4 = .ok (.idiv, 1) := by decide +kernel
theorem dX2_isAhead_5 : decode cX2_isAhead 5 = .ok (.invokevirtual 65, 3) := by decide +kernel
theorem dX2_isAhead_8 : decode cX2_isAhead 8 = .ok (.istore_n 3, 1) := by decide +kernel
theorem dX2_isAhead_9 : decode cX2_isAhead 9 = .ok (.aload_n 0, 1) := by decide +kernel
theorem dX2_isAhead_10 : decode cX2_isAhead 10 = .ok (.iload_n 2, 1) := by decide +kernel
theorem dX2_isAhead_11 : decode cX2_isAhead 11 = .ok (.bipush 8, 2) := by decide +kernel
theorem dX2_isAhead_13 : decode cX2_isAhead 13 = .ok (.idiv, 1) := by decide +kernel
theorem dX2_isAhead_14 : decode cX2_isAhead 14 = .ok (.invokevirtual 65, 3) := by decide +kernel
theorem dX2_isAhead_17 : decode cX2_isAhead 17 = .ok (.istore 4, 2) := by decide +kernel
theorem dX2_isAhead_19 : decode cX2_isAhead 19 = .ok (.aload_n 0, 1) := by decide +kernel
theorem dX2_isAhead_20 : decode cX2_isAhead 20 = .ok (.iload_n 1, 1) := by decide +kernel
theorem dX2_isAhead_21 : decode cX2_isAhead 21 = .ok (.bipush 8, 2) := by decide +kernel
theorem dX2_isAhead_23 : decode cX2_isAhead 23 = .ok (.idiv, 1) := by decide +kernel
theorem dX2_isAhead_24 : decode cX2_isAhead 24 = .ok (.iload_n 1, 1) := by decide +kernel
theorem dX2_isAhead_25 : decode cX2_isAhead 25 = .ok (.bipush 8, 2) := by decide +kernel
theorem dX2_isAhead_27 : decode cX2_isAhead 27 = .ok (.irem, 1) := by decide +kernel
theorem dX2_isAhead_28 : decode cX2_isAhead 28 = .ok (.invokevirtual 72, 3) := by decide +kernel
theorem dX2_isAhead_31 : decode cX2_isAhead 31 = .ok (.iload 4, 2) := by decide +kernel
theorem dX2_isAhead_33 : decode cX2_isAhead 33 = .ok (.imul, 1) := by decide +kernel
theorem dX2_isAhead_34 : decode cX2_isAhead 34 = .ok (.istore 5, 2) := by decide +kernel
theorem dX2_isAhead_36 : decode cX2_isAhead 36 = .ok (.aload_n 0, 1) := by decide +kernel
theorem dX2_isAhead_37 : decode cX2_isAhead 37 = .ok (.iload_n 2, 1) := by decide +kernel
theorem dX2_isAhead_38 : decode cX2_isAhead 38 = .ok (.bipush 8, 2) := by decide +kernel
theorem dX2_isAhead_40 : decode cX2_isAhead 40 = .ok (.idiv, 1) := by decide +kernel
theorem dX2_isAhead_41 : decode cX2_isAhead 41 = .ok (.iload_n 2, 1) := by decide +kernel
theorem dX2_isAhead_42 : decode cX2_isAhead 42 = .ok (.bipush 8, 2) := by decide +kernel
theorem dX2_isAhead_44 : decode cX2_isAhead 44 = .ok (.irem, 1) := by decide +kernel
theorem dX2_isAhead_45 : decode cX2_isAhead 45 = .ok (.invokevirtual 72, 3) := by decide +kernel
theorem dX2_isAhead_48 : decode cX2_isAhead 48 = .ok (.iload_n 3, 1) := by decide +kernel
theorem dX2_isAhead_49 : decode cX2_isAhead 49 = .ok (.imul, 1) := by decide +kernel
theorem dX2_isAhead_50 : decode cX2_isAhead 50 = .ok (.istore 6, 2) := by decide +kernel
theorem dX2_isAhead_52 : decode cX2_isAhead 52 = .ok (.iload 5, 2) := by decide +kernel
theorem dX2_isAhead_54 : decode cX2_isAhead 54 = .ok (.iload 6, 2) := by decide +kernel
theorem dX2_isAhead_56 : decode cX2_isAhead 56 = .ok (.if_icmp .eq 16, 3) := by decide +kernel
theorem dX2_isAhead_59 : decode cX2_isAhead 59 = .ok (.iload 5, 2) := by decide +kernel
theorem dX2_isAhead_61 : decode cX2_isAhead 61 = .ok (.iload 6, 2) := by decide +kernel
theorem dX2_isAhead_63 : decode cX2_isAhead 63 = .ok (.if_icmp .le 7, 3) := by decide +kernel
theorem dX2_isAhead_66 : decode cX2_isAhead 66 = .ok (.iconst 1, 1) := by decide +kernel
theorem dX2_isAhead_67 : decode cX2_isAhead 67 = .ok (.goto 4, 3) := by decide +kernel
theorem dX2_isAhead_70 : decode cX2_isAhead 70 = .ok (.iconst 0, 1) := by decide +kernel
theorem dX2_isAhead_71 : decode cX2_isAhead 71 = .ok (.ireturn, 1) := by decide +kernel
theorem dX2_isAhead_72 : decode cX2_isAhead 72 = .ok (.iload_n 3, 1) := by decide +kernel
theorem dX2_isAhead_73 : decode cX2_isAhead 73 = .ok (.iload 4, 2) := by decide +kernel
theorem dX2_isAhead_75 : decode cX2_isAhead 75 = .ok (.if_icmp .eq 17, 3) := by decide +kernel
theorem dX2_isAhead_78 : decode cX2_isAhead 78 = .ok (.iload_n 3, 1) := by decide +kernel
theorem dX2_isAhead_79 : decode cX2_isAhead 79 = .ok (.iload 4, 2) := by decide +kernel
theorem dX2_isAhead_81 : decode cX2_isAhead 81 = .ok (.if_icmp .le 7, 3) := by decide +kernel
theorem dX2_isAhead_84 : decode cX2_isAhead 84 = .ok (.iconst 1, 1) := by decide +kernel
theorem dX2_isAhead_85 : decode cX2_isAhead 85 = .ok (.goto 17, 3) := by decide +kernel
theorem dX2_isAhead_88 : decode cX2_isAhead 88 = .ok (.iconst 0, 1) := by decide +kernel
theorem dX2_isAhead_89 : decode cX2_isAhead 89 = .ok (.goto 13, 3) := by decide +kernel
theorem dX2_isAhead_92 : decode cX2_isAhead 92 = .ok (.iload_n 1, 1) := by decide +kernel
theorem dX2_isAhead_93 : decode cX2_isAhead 93 = .ok (.iload_n 2, 1) := by decide +kernel
theorem dX2_isAhead_94 : decode cX2_isAhead 94 = .ok (.if_icmp .ge 7, 3) := by decide +kernel
theorem dX2_isAhead_97 : decode cX2_isAhead 97 = .ok (.iconst 1, 1) := by decide +kernel
theorem dX2_isAhead_98 : decode cX2_isAhead 98 = .ok (.goto 4, 3) := by decide +kernel
theorem dX2_isAhead_101 : decode cX2_isAhead 101 = .ok (.iconst 0, 1) := by decide +kernel
theorem dX2_isAhead_102 : decode cX2_isAhead 102 = .ok (.ireturn, 1) := by decide +kernel
theorem dX3_init_0 : decode cX3_init 0 = .ok (.aload_n 0, 1) := by decide +kernel
theorem dX3_init_1 : decode cX3_init 1 = .ok (.invokespecial 3, 3) := by decide +kernel
theorem dX3_init_4 : decode cX3_init 4 = .ok (.aload_n 0, 1) := by decide +kernel
theorem dX3_init_5 : decode cX3_init 5 = .ok (.sipush 6030, 3) := by decide +kernel
theorem dX3_init_8 : decode cX3_init 8 = .ok (.newarray .int, 2) := by decide +kernel
theorem dX3_init_10 : decode cX3_init 10 = .ok (.putfield 9, 3) := by decide +kernel
theorem dX3_init_13 : decode cX3_init 13 = .ok (.aload_n 0, 1) := by decide +kernel
theorem dX3_init_14 : decode cX3_init 14 = .ok (.sipush 6030, 3) := by decide +kernel
theorem dX3_init_17 : decode cX3_init 17 = .ok (.newarray .boolean, 2) := by decide +kernel
theorem dX3_init_19 : decode cX3_init 19 = .ok (.putfield 15, 3) := by decide +kernel
theorem dX3_init_22 : decode cX3_init 22 = .ok (.aload_n 0, 1) := by decide +kernel
theorem dX3_init_23 : decode cX3_init 23 = .ok (.sipush 6031, 3) := by decide +kernel
theorem dX3_init_26 : decode cX3_init 26 = .ok (.newarray .int, 2) := by decide +kernel
theorem dX3_init_28 : decode cX3_init 28 = .ok (.putfield 19, 3) := by decide +kernel
theorem dX3_init_31 : decode cX3_init 31 = .ok (.aload_n 0, 1) := by decide +kernel
theorem dX3_init_32 : decode cX3_init 32 = .ok (.sipush 6030, 3) := by decide +kernel
theorem dX3_init_35 : decode cX3_init 35 = .ok (.newarray .int, 2) := by decide +kernel
theorem dX3_init_37 : decode cX3_init 37 = .ok (.putfield 22, 3) := by decide +kernel
theorem dX3_init_40 : decode cX3_init 40 = .ok (.aload_n 0, 1) := by decide +kernel
theorem dX3_init_41 : decode cX3_init 41 = .ok (.sipush 6030, 3) := by decide +kernel
theorem dX3_init_44 : decode cX3_init 44 = .ok (.newarray .int, 2) := by decide +kernel
theorem dX3_init_46 : decode cX3_init 46 = .ok (.putfield 25, 3) := by decide +kernel
theorem dX3_init_49 : decode cX3_init 49 = .ok (.aload_n 0, 1) := by decide +kernel
theorem dX3_init_50 : decode cX3_init 50 = .ok (.new 28, 3) := by decide +kernel
theorem dX3_init_53 : decode cX3_init 53 = .ok (.dup, 1) := by decide +kernel
theorem dX3_init_54 : decode cX3_init 54 = .ok (.sipush 6031, 3) := by decide +kernel
theorem dX3_init_57 : decode cX3_init 57 = .ok (.invokespecial 30, 3) := by decide +kernel
theorem dX3_init_60 : decode cX3_init 60 = .ok (.putfield 33, 3) := by decide +kernel
theorem dX3_init_63 : decode cX3_init 63 = .ok (.aload_n 0, 1) := by decide +kernel
theorem dX3_init_64 : decode cX3_init 64 = .ok (.aload_n 1, 1) := by decide +kernel
theorem dX3_init_65 : decode cX3_init 65 = .ok (.putfield 37, 3) := by decide +kernel
theorem dX3_init_68 : decode cX3_init 68 = .ok (.aload_n 0, 1) := by decide +kernel
theorem dX3_init_69 : decode cX3_init 69 = .ok (.aload_n 2, 1) := by decide +kernel
theorem dX3_init_70 : decode cX3_init 70 = .ok (.putfield 41, 3) := by decide +kernel
theorem dX3_init_73 : decode cX3_init 73 = .ok (.return_, 1) := by decide +kernel
theorem dX3_findBreak_0 : decode cX3_findBreak 0 = .ok (.iconst 0, 1) := by decide +kernel
theorem dX3_findBreak_1 : decode cX3_findBreak 1 = .ok (.istore_n 1, 1) := by decide +kernel
theorem dX3_findBreak_2 : decode cX3_findBreak 2 = .ok (.iload_n 1, 1) := by decide +kernel
theorem dX3_findBreak_3 : decode cX3_findBreak 3 = .ok (.aload_n 0, 1) := by decide +kernel
theorem dX3_findBreak_4 : decode cX3_findBreak 4 = .ok (.getfield 37, 3) := by decide +kernel
theorem dX3_findBreak_7 : decode cX3_findBreak 7 = .ok (.getfield 45, 3) := by decide +kernel
theorem dX3_findBreak_10 : decode cX3_findBreak 10 = .ok (.iconst 1, 1) := by decide +kernel
theorem dX3_findBreak_11 : decode cX3_findBreak 11 = .ok (.iadd, 1) := by decide +kernel
theorem dX3_findBreak_12 : decode cX3_findBreak 12 = .ok (.bipush 30, 2) := by decide +kernel
theorem dX3_findBreak_14 : decode cX3_findBreak 14 = .ok (.imul, 1) := by decide +kernel
theorem dX3_findBreak_15 : decode cX3_findBreak 15 = .ok (.if_icmp .ge 23, 3) := by decide +kernel
theorem dX3_findBreak_18 : decode cX3_findBreak 18 = .ok (.iload_n 1, 1) := by decide +kernel
theorem dX3_findBreak_19 : decode cX3_findBreak 19 = .ok (.sipush 6030, 3) := by decide +kernel
theorem dX3_findBreak_22 : decode cX3_findBreak 22 = .ok (.if_icmp .ge 16, 3) := by decide +kernel
theorem dX3_findBreak_25 : decode cX3_findBreak 25 = .ok (.aload_n 0, 1) := by decide +kernel
theorem dX3_findBreak_26 : decode cX3_findBreak 26 = .ok (.getfield 15, 3) := by decide +kernel
theorem dX3_findBreak_29 : decode cX3_findBreak 29 = .ok (.iload_n 1, 1) := by decide +kernel
theorem dX3_findBreak_30 : decode cX3_findBreak 30 = .ok (.iconst 0, 1) := by decide +kernel
theorem dX3_findBreak_31 : decode cX3_findBreak 31 = .ok (.bastore, 1) := by decide +kernel
theorem dX3_findBreak_32 : decode cX3_findBreak 32 = .ok (.iinc 1 1, 3) := by decide +kernel
theorem dX3_findBreak_35 : decode cX3_findBreak 35 = .ok (.goto (-33), 3) := by decide +kernel
theorem dX3_findBreak_38 : decode cX3_findBreak 38 = .ok (.aload_n 0, 1) := by decide +kernel
theorem dX3_findBreak_39 : decode cX3_findBreak 39 = .ok (.iconst 0, 1) := by decide +kernel
theorem dX3_findBreak_40 : decode cX3_findBreak 40 = .ok (.putfield 51, 3) := by decide +kernel
theorem dX3_findBreak_43 : decode cX3_findBreak 43 = .ok (.aload_n 0, 1) := by decide +kernel
theorem dX3_findBreak_44 : decode cX3_findBreak 44 = .ok (.iconst 0, 1) := by decide +kernel
theorem dX3_findBreak_45 : decode cX3_findBreak 45 = .ok (.putfield 54, 3) := by decide +kernel
theorem dX3_findBreak_48 : decode cX3_findBreak 48 = .ok (.aload_n 0, 1) := by decide +kernel
theorem dX3_findBreak_49 : decode cX3_findBreak 49 = .ok (.getfield 33, 3) := by decide +kernel
theorem dX3_findBreak_52 : decode cX3_findBreak 52 = .ok (.iconst 0, 1) := by decide +kernel
theorem dX3_findBreak_53 : decode cX3_findBreak 53 = .ok (.putfield 57, 3) := by decide +kernel
theorem dX3_findBreak_56 : decode cX3_findBreak 56 = .ok (.aload_n 0, 1) := by decide +kernel
theorem dX3_findBreak_57 : decode cX3_findBreak 57 = .ok (.iconst 0, 1) := by decide +kernel
theorem dX3_findBreak_58 : decode cX3_findBreak 58 = .ok (.iconst 0, 1) := by decide +kernel
theorem dX3_findBreak_59 : decode cX3_findBreak 59 = .ok (.invokevirtual 58, 3) := by decide +kernel
theorem dX3_findBreak_62 : decode cX3_findBreak 62 = .ok (.aload_n 0, 1) := by decide +kernel
theorem dX3_findBreak_63 : decode cX3_findBreak 63 = .ok (.iconst (-1), 1) := by decide +kernel
theorem dX3_findBreak_64 : decode cX3_findBreak 64 = .ok (.iconst (-1), 1) := by decide +kernel
theorem dX3_findBreak_65 : decode cX3_findBreak 65 = .ok (.invokevirtual 62, 3) := by decide +kernel
theorem dX3_findBreak_68 : decode cX3_findBreak 68 = .ok (.iconst 0, 1) := by decide +kernel
theorem dX3_findBreak_69 : decode cX3_findBreak 69 = .ok (.istore_n 1, 1) := by decide +kernel
theorem dX3_findBreak_70 : decode cX3_findBreak 70 = .ok (.iload_n 1, 1) := by decide +kernel
theorem dX3_findBreak_71 : decode cX3_findBreak 71 = .ok (.aload_n 0, 1) := by decide +kernel
theorem dX3_findBreak_72 : decode cX3_findBreak 72 = .ok (.getfield 54, 3) := by decide +kernel
theorem dX3_findBreak_75 : decode cX3_findBreak 75 = .ok (.if_icmp .ge 52, 3) := by decide +kernel
theorem dX3_findBreak_78 : decode cX3_findBreak 78 = .ok (.iload_n 1, 1) := by decide +kernel
theorem dX3_findBreak_79 : decode cX3_findBreak 79 = .ok (.sipush 6030, 3) := by decide +kernel
theorem dX3_findBreak_82 : decode cX3_findBreak 82 = .ok (.if_icmp .ge 45, 3) := by decide +kernel
theorem dX3_findBreak_85 : decode cX3_findBreak 85 = .ok (.iconst 0, 1) := by decide +kernel
theorem dX3_findBreak_86 : decode cX3_findBreak 86 = .ok (.istore_n 2, 1) := by decide +kernel
theorem dX3_findBreak_87 : decode cX3_findBreak 87 = .ok (.iload_n 2, 1) := by decide +kernel
theorem dX3_findBreak_88 : decode cX3_findBreak 88 = .ok (.bipush 8, 2) := by decide +kernel
theorem dX3_findBreak_90 : decode cX3_findBreak 90 = .ok (.if_icmp .ge 31, 3) := by decide +kernel
theorem dX3_findBreak_93 : decode cX3_findBreak 93 = .ok (.aload_n 0, 1) := by decide +kernel
theorem dX3_findBreak_94 : decode cX3_findBreak 94 = .ok (.iload_n 1, 1) := by decide +kernel
theorem dX3_findBreak_95 : decode cX3_findBreak 95 = .ok (.iload_n 2, 1) := by decide +kernel
theorem dX3_findBreak_96 : decode cX3_findBreak 96 = .ok (.invokevirtual 65, 3) := by decide +kernel
theorem dX3_findBreak_99 : decode cX3_findBreak 99 = .ok (.ifCond .eq 10, 3) := by decide +kernel
theorem dX3_findBreak_102 : decode cX3_findBreak 102 = .ok (.aload_n 0, 1) := by decide +kernel
theorem dX3_findBreak_103 : decode cX3_findBreak 103 = .ok (.iload_n 1, 1) := by decide +kernel
theorem dX3_findBreak_104 : decode cX3_findBreak 104 = .ok (.iload_n 2, 1) := by decide +kernel
theorem dX3_findBreak_105 : decode cX3_findBreak 105 = .ok (.invokevirtual 69, 3) := by decide +kernel
theorem dX3_findBreak_108 : decode cX3_findBreak 108 = .ok (.return_, 1) := by decide +kernel
theorem dX3_findBreak_109 : decode cX3_findBreak 109 = .ok (.aload_n 0, 1) := by decide +kernel
theorem dX3_findBreak_110 : decode cX3_findBreak 110 = .ok (.iload_n 1, 1) := by decide +kernel
theorem dX3_findBreak_111 : decode cX3_findBreak 111 = .ok (.iload_n 2, 1) := by decide +kernel
theorem dX3_findBreak_112 : decode cX3_findBreak 112 = .ok (.invokevirtual 62, 3) := by decide +kernel
theorem dX3_findBreak_115 : decode cX3_findBreak 115 = .ok (.iinc 2 1, 3) := by decide +kernel
theorem dX3_findBreak_118 : decode cX3_findBreak 118 = .ok (.goto (-31), 3) := by decide +kernel
theorem dX3_findBreak_121 : decode cX3_findBreak 121 = .ok (.iinc 1 1, 3) := by decide +kernel
theorem dX3_findBreak_124 : decode cX3_findBreak 124 = .ok (.goto (-54), 3) := by decide +kernel
theorem dX3_findBreak_127 : decode cX3_findBreak 127 = .ok (.return_, 1) := by decide +kernel
theorem dX3_breaks_0 : decode cX3_breaks 0 = .ok (.aload_n 0, 1) := by decide +kernel
theorem dX3_breaks_1 : decode cX3_breaks 1 = .ok (.getfield 19, 3) := by decide +kernel
theorem dX3_breaks_4 : decode cX3_breaks 4 = .ok (.iload_n 1, 1) := by decide +kernel
theorem dX3_breaks_5 : decode cX3_breaks 5 = .ok (.iaload, 1) := by decide +kernel
theorem dX3_breaks_6 : decode cX3_breaks 6 = .ok (.istore_n 3, 1) := by decide +kernel
theorem dX3_breaks_7 : decode cX3_breaks 7 = .ok (.aload_n 0, 1) := by decide +kernel
theorem dX3_breaks_8 : decode cX3_breaks 8 = .ok (.getfield 19, 3) := by decide +kernel
theorem dX3_breaks_11 : decode cX3_breaks 11 = .ok (.iload_n 1, 1) := by decide +kernel
theorem dX3_breaks_12 : decode cX3_breaks 12 = .ok (.iconst 1, 1) := by decide +kernel
theorem dX3_breaks_13 : decode cX3_breaks 13 = .ok (.iadd, 1) := by decide +kernel
theorem dX3_breaks_14 : decode cX3_breaks 14 = .ok (.iaload, 1) := by decide +kernel
theorem dX3_breaks_15 : decode cX3_breaks 15 = .ok (.istore 4, 2) := by decide +kernel
theorem dX3_breaks_17 : decode cX3_breaks 17 = .ok (.iload_n 3, 1) := by decide +kernel
theorem dX3_breaks_18 : decode cX3_breaks 18 = .ok (.istore 5, 2) := by decide +kernel
theorem dX3_breaks_20 : decode cX3_breaks 20 = .ok (.iload 5, 2) := by decide +kernel
theorem dX3_breaks_22 : decode cX3_breaks 22 = .ok (.ifCond .lt 90, 3) := by decide +kernel
theorem dX3_breaks_25 : decode cX3_breaks 25 = .ok (.iload 5, 2) := by decide +kernel
theorem dX3_breaks_27 : decode cX3_breaks 27 = .ok (.iload 4, 2) := by decide +kernel
theorem dX3_breaks_29 : decode cX3_breaks 29 = .ok (.if_icmp .ge 83, 3) := by decide +kernel
theorem dX3_breaks_32 : decode cX3_breaks 32 = .ok (.iload 5, 2) := by decide +kernel
theorem dX3_breaks_34 : decode cX3_breaks 34 = .ok (.sipush 6030, 3) := by decide +kernel
theorem dX3_breaks_37 : decode cX3_breaks 37 = .ok (.if_icmp .ge 75, 3) := by decide +kernel
theorem dX3_breaks_40 : decode cX3_breaks 40 = .ok (.aload_n 0, 1) := by decide +kernel
theorem dX3_breaks_41 : decode cX3_breaks 41 = .ok (.getfield 9, 3) := by decide +kernel
theorem dX3_breaks_44 : decode cX3_breaks 44 = .ok (.iload 5, 2) := by decide +kernel
theorem dX3_breaks_46 : decode cX3_breaks 46 = .ok (.iaload, 1) := by decide +kernel
theorem dX3_breaks_47 : decode cX3_breaks 47 = .ok (.bipush 30, 2) := by decide +kernel
theorem dX3_breaks_49 : decode cX3_breaks 49 = .ok (.idiv, 1) := by decide +kernel
theorem dX3_breaks_50 : decode cX3_breaks 50 = .ok (.istore 6, 2) := by decide +kernel
theorem dX3_breaks_52 : decode cX3_breaks 52 = .ok (.aload_n 0, 1) := by decide +kernel
theorem dX3_breaks_53 : decode cX3_breaks 53 = .ok (.getfield 37, 3) := by decide +kernel
theorem dX3_breaks_56 : decode cX3_breaks 56 = .ok (.iload 6, 2) := by decide +kernel
theorem dX3_breaks_58 : decode cX3_breaks 58 = .ok (.invokevirtual 72, 3) := by decide +kernel
theorem dX3_breaks_61 : decode cX3_breaks 61 = .ok (.iload_n 2, 1) := by decide +kernel
theorem dX3_breaks_62 : decode cX3_breaks 62 = .ok (.if_icmp .eq 6, 3) := by decide +kernel
theorem dX3_breaks_65 : decode cX3_breaks 65 = .ok (.goto 41, 3) := by decide +kernel
theorem dX3_breaks_68 : decode cX3_breaks 68 = .ok (.aload_n 0, 1) := by decide +kernel
theorem dX3_breaks_69 : decode cX3_breaks 69 = .ok (.getfield 41, 3) := by decide +kernel
theorem dX3_breaks_72 : decode cX3_breaks 72 = .ok (.aload_n 0, 1) := by decide +kernel
theorem dX3_breaks_73 : decode cX3_breaks 73 = .ok (.getfield 9, 3) := by decide +kernel
theorem dX3_breaks_76 : decode cX3_breaks 76 = .ok (.iload 5, 2) := by decide +kernel
theorem dX3_breaks_78 : decode cX3_breaks 78 = .ok (.iaload, 1) := by decide +kernel
theorem dX3_breaks_79 : decode cX3_breaks 79 = .ok (.bipush 30, 2) := by decide +kernel
theorem dX3_breaks_81 : decode cX3_breaks 81 = .ok (.irem, 1) := by decide +kernel
theorem dX3_breaks_82 : decode cX3_breaks 82 = .ok (.iload_n 2, 1) := by decide +kernel
theorem dX3_breaks_83 : decode cX3_breaks 83 = .ok (.invokevirtual 76, 3) := by decide +kernel
theorem dX3_breaks_86 : decode cX3_breaks 86 = .ok (.istore 7, 2) := by decide +kernel
theorem dX3_breaks_88 : decode cX3_breaks 88 = .ok (.iload 7, 2) := by decide +kernel
theorem dX3_breaks_90 : decode cX3_breaks 90 = .ok (.iconst (-1), 1) := by decide +kernel
theorem dX3_breaks_91 : decode cX3_breaks 91 = .ok (.if_icmp .ne 5, 3) := by decide +kernel
theorem dX3_breaks_94 : decode cX3_breaks 94 = .ok (.iconst 1, 1) := by decide +kernel
theorem dX3_breaks_95 : decode cX3_breaks 95 = .ok (.ireturn, 1) := by decide +kernel
theorem dX3_breaks_96 : decode cX3_breaks 96 = .ok (.aload_n 0, 1) := by decide +kernel
theorem dX3_breaks_97 : decode cX3_breaks 97 = .ok (.iload 6, 2) := by decide +kernel
theorem dX3_breaks_99 : decode cX3_breaks 99 = .ok (.iconst 1, 1) := by decide +kernel
theorem dX3_breaks_100 : decode cX3_breaks 100 = .ok (.iadd, 1) := by decide +kernel
theorem dX3_breaks_101 : decode cX3_breaks 101 = .ok (.iload 7, 2) := by decide +kernel
theorem dX3_breaks_103 : decode cX3_breaks 103 = .ok (.invokevirtual 58, 3) := by decide +kernel
theorem dX3_breaks_106 : decode cX3_breaks 106 = .ok (.iinc 5 1, 3) := by decide +kernel
theorem dX3_breaks_109 : decode cX3_breaks 109 = .ok (.goto (-89), 3) := by decide +kernel
theorem dX3_breaks_112 : decode cX3_breaks 112 = .ok (.iconst 0, 1) := by decide +kernel
theorem dX3_breaks_113 : decode cX3_breaks 113 = .ok (.ireturn, 1) := by decide +kernel
theorem dX3_meet_0 : decode cX3_meet 0 = .ok (.iload_n 1, 1) := by decide +kernel
theorem dX3_meet_1 : decode cX3_meet 1 = .ok (.ifCond .lt 20, 3) := by decide +kernel
theorem dX3_meet_4 : decode cX3_meet 4 = .ok (.iload_n 1, 1) := by decide +kernel
theorem dX3_meet_5 : decode cX3_meet 5 = .ok (.sipush 200, 3) := by decide +kernel
theorem dX3_meet_8 : decode cX3_meet 8 = .ok (.if_icmp .gt 13, 3) := by decide +kernel
theorem dX3_meet_11 : decode cX3_meet 11 = .ok (.iload_n 2, 1) := by decide +kernel
theorem dX3_meet_12 : decode cX3_meet 12 = .ok (.ifCond .lt 9, 3) := by decide +kernel
theorem dX3_meet_15 : decode cX3_meet 15 = .ok (.iload_n 2, 1) := by decide +kernel
theorem dX3_meet_16 : decode cX3_meet 16 = .ok (.bipush 30, 2) := by decide +kernel
theorem dX3_meet_18 : decode cX3_meet 18 = .ok (.if_icmp .lt 4, 3) := by decide +kernel
theorem dX3_meet_21 : decode cX3_meet 21 = .ok (.return_, 1) := by decide +kernel
theorem dX3_meet_22 : decode cX3_meet 22 = .ok (.iload_n 1, 1) := by decide +kernel
theorem dX3_meet_23 : decode cX3_meet 23 = .ok (.bipush 30, 2) := by decide +kernel
theorem dX3_meet_25 : decode cX3_meet 25 = .ok (.imul, 1) := by decide +kernel
theorem dX3_meet_26 : decode cX3_meet 26 = .ok (.iload_n 2, 1) := by decide +kernel
theorem dX3_meet_27 : decode cX3_meet 27 = .ok (.iadd, 1) := by decide +kernel
theorem dX3_meet_28 : decode cX3_meet 28 = .ok (.istore_n 3, 1) := by decide +kernel
theorem dX3_meet_29 : decode cX3_meet 29 = .ok (.aload_n 0, 1) := by decide +kernel
theorem dX3_meet_30 : decode cX3_meet 30 = .ok (.getfield 15, 3) := by decide +kernel
theorem dX3_meet_33 : decode cX3_meet 33 = .ok (.iload_n 3, 1) := by decide +kernel
theorem dX3_meet_34 : decode cX3_meet 34 = .ok (.baload, 1) := by decide +kernel
theorem dX3_meet_35 : decode cX3_meet 35 = .ok (.ifCond .ne 40, 3) := by decide +kernel
theorem dX3_meet_38 : decode cX3_meet 38 = .ok (.aload_n 0, 1) := by decide +kernel
theorem dX3_meet_39 : decode cX3_meet 39 = .ok (.getfield 51, 3) := by decide +kernel
theorem dX3_meet_42 : decode cX3_meet 42 = .ok (.sipush 6030, 3) := by decide +kernel
theorem dX3_meet_45 : decode cX3_meet 45 = .ok (.if_icmp .ge 30, 3) := by decide +kernel
theorem dX3_meet_48 : decode cX3_meet 48 = .ok (.aload_n 0, 1) := by decide +kernel
theorem dX3_meet_49 : decode cX3_meet 49 = .ok (.getfield 15, 3) := by decide +kernel
theorem dX3_meet_52 : decode cX3_meet 52 = .ok (.iload_n 3, 1) := by decide +kernel
theorem dX3_meet_53 : decode cX3_meet 53 = .ok (.iconst 1, 1) := by decide +kernel
theorem dX3_meet_54 : decode cX3_meet 54 = .ok (.bastore, 1) := by decide +kernel
theorem dX3_meet_55 : decode cX3_meet 55 = .ok (.aload_n 0, 1) := by decide +kernel
theorem dX3_meet_56 : decode cX3_meet 56 = .ok (.getfield 9, 3) := by decide +kernel
theorem dX3_meet_59 : decode cX3_meet 59 = .ok (.aload_n 0, 1) := by decide +kernel
theorem dX3_meet_60 : decode cX3_meet 60 = .ok (.getfield 51, 3) := by decide +kernel
theorem dX3_meet_63 : decode cX3_meet 63 = .ok (.iload_n 3, 1) := by decide +kernel
theorem dX3_meet_64 : decode cX3_meet 64 = .ok (.iastore, 1) := by decide +kernel
theorem dX3_meet_65 : decode cX3_meet 65 = .ok (.aload_n 0, 1) := by decide +kernel
theorem dX3_meet_66 : decode cX3_meet 66 = .ok (.dup, 1) := by decide +kernel
theorem dX3_meet_67 : decode cX3_meet 67 = .ok (.getfield 51, 3) := by decide +kernel
theorem dX3_meet_70 : decode cX3_meet 70 = .ok (.iconst 1, 1) := by decide +kernel
theorem dX3_meet_71 : decode cX3_meet 71 = .ok (.iadd, 1) := by decide +kernel
theorem dX3_meet_72 : decode cX3_meet 72 = .ok (.putfield 51, 3) := by decide +kernel
theorem dX3_meet_75 : decode cX3_meet 75 = .ok (.return_, 1) := by decide +kernel
theorem dX3_closeGroup_0 : decode cX3_closeGroup 0 = .ok (.aload_n 0, 1) := by decide +kernel
theorem dX3_closeGroup_1 : decode cX3_closeGroup 1 = .ok (.getfield 54, 3) := by decide +kernel
theorem dX3_closeGroup_4 : decode cX3_closeGroup 4 = .ok (.ifCond .ne 7, 3) := by decide +kernel
theorem dX3_closeGroup_7 : decode cX3_closeGroup 7 = .ok (.iconst 0, 1) := by decide +kernel
theorem dX3_closeGroup_8 : decode cX3_closeGroup 8 = .ok (.goto 12, 3) := by decide +kernel
theorem dX3_closeGroup_11 : decode cX3_closeGroup 11 = .ok (.aload_n 0, 1) := by decide +kernel
theorem dX3_closeGroup_12 : decode cX3_closeGroup 12 = .ok (.getfield 19, 3) := by decide +kernel
theorem dX3_closeGroup_15 : decode cX3_closeGroup 15 = .ok (.aload_n 0, 1) := by decide +kernel
theorem dX3_closeGroup_16 : decode cX3_closeGroup 16 = .ok (.getfield 54, 3) := by decide +kernel
theorem dX3_closeGroup_19 : decode cX3_closeGroup 19 = .ok (.iaload, 1) := by decide +kernel
theorem dX3_closeGroup_20 : decode cX3_closeGroup 20 = .ok (.istore_n 3, 1) := by decide +kernel
theorem dX3_closeGroup_21 : decode cX3_closeGroup 21 = .ok (.iload_n 3, 1) := by decide +kernel
theorem dX3_closeGroup_22 : decode cX3_closeGroup 22 = .ok (.aload_n 0, 1) := by decide +kernel
theorem dX3_closeGroup_23 : decode cX3_closeGroup 23 = .ok (.getfield 51, 3) := by decide +kernel
theorem dX3_closeGroup_26 : decode cX3_closeGroup 26 = .ok (.if_icmp .eq 13, 3) := by decide +kernel
theorem dX3_closeGroup_29 : decode cX3_closeGroup 29 = .ok (.aload_n 0, 1) := by decide +kernel
theorem dX3_closeGroup_30 : decode cX3_closeGroup 30 = .ok (.getfield 54, 3) := by decide +kernel
theorem dX3_closeGroup_33 : decode cX3_closeGroup 33 = .ok (.sipush 6030, 3) := by decide +kernel
theorem dX3_closeGroup_36 : decode cX3_closeGroup 36 = .ok (.if_icmp .lt 4, 3) := by decide +kernel
theorem dX3_closeGroup_39 : decode cX3_closeGroup 39 = .ok (.return_, 1) := by decide +kernel
theorem dX3_closeGroup_40 : decode cX3_closeGroup 40 = .ok (.iload_n 3, 1) := by decide +kernel
theorem dX3_closeGroup_41 : decode cX3_closeGroup 41 = .ok (.istore 4, 2) := by decide +kernel
theorem dX3_closeGroup_43 : decode cX3_closeGroup 43 = .ok (.iload 4, 2) := by decide +kernel
theorem dX3_closeGroup_45 : decode cX3_closeGroup 45 = .ok (.aload_n 0, 1) := by decide +kernel
theorem dX3_closeGroup_46 : decode cX3_closeGroup 46 = .ok (.getfield 51, 3) := by decide +kernel
theorem dX3_closeGroup_49 : decode cX3_closeGroup 49 = .ok (.if_icmp .ge 41, 3) := by decide +kernel
theorem dX3_closeGroup_52 : decode cX3_closeGroup 52 = .ok (.iload 4, 2) := by decide +kernel
theorem dX3_closeGroup_54 : decode cX3_closeGroup 54 = .ok (.sipush 6030, 3) := by decide +kernel
theorem dX3_closeGroup_57 : decode cX3_closeGroup 57 = .ok (.if_icmp .ge 33, 3) := by decide +kernel
theorem dX3_closeGroup_60 : decode cX3_closeGroup 60 = .ok (.aload_n 0, 1) := by decide +kernel
theorem dX3_closeGroup_61 : decode cX3_closeGroup 61 = .ok (.aload_n 0, 1) := by decide +kernel
theorem dX3_closeGroup_62 : decode cX3_closeGroup 62 = .ok (.getfield 9, 3) := by decide +kernel
theorem dX3_closeGroup_65 : decode cX3_closeGroup 65 = .ok (.iload 4, 2) := by decide +kernel
theorem dX3_closeGroup_67 : decode cX3_closeGroup 67 = .ok (.iaload, 1) := by decide +kernel
theorem dX3_closeGroup_68 : decode cX3_closeGroup 68 = .ok (.bipush 30, 2) := by decide +kernel
theorem dX3_closeGroup_70 : decode cX3_closeGroup 70 = .ok (.idiv, 1) := by decide +kernel
theorem dX3_closeGroup_71 : decode cX3_closeGroup 71 = .ok (.aload_n 0, 1) := by decide +kernel
theorem dX3_closeGroup_72 : decode cX3_closeGroup 72 = .ok (.getfield 9, 3) := by decide +kernel
theorem dX3_closeGroup_75 : decode cX3_closeGroup 75 = .ok (.iload 4, 2) := by decide +kernel
theorem dX3_closeGroup_77 : decode cX3_closeGroup 77 = .ok (.iaload, 1) := by decide +kernel
theorem dX3_closeGroup_78 : decode cX3_closeGroup 78 = .ok (.bipush 30, 2) := by decide +kernel
theorem dX3_closeGroup_80 : decode cX3_closeGroup 80 = .ok (.irem, 1) := by decide +kernel
theorem dX3_closeGroup_81 : decode cX3_closeGroup 81 = .ok (.invokevirtual 82, 3) := by decide +kernel
theorem dX3_closeGroup_84 : decode cX3_closeGroup 84 = .ok (.iinc 4 1, 3) := by decide +kernel
theorem dX3_closeGroup_87 : decode cX3_closeGroup 87 = .ok (.goto (-44), 3) := by decide +kernel
theorem dX3_closeGroup_90 : decode cX3_closeGroup 90 = .ok (.aload_n 0, 1) := by decide +kernel
theorem dX3_closeGroup_91 : decode cX3_closeGroup 91 = .ok (.getfield 19, 3) := by decide +kernel
theorem dX3_closeGroup_94 : decode cX3_closeGroup 94 = .ok (.aload_n 0, 1) := by decide +kernel
theorem dX3_closeGroup_95 : decode cX3_closeGroup 95 = .ok (.getfield 54, 3) := by decide +kernel
theorem dX3_closeGroup_98 : decode cX3_closeGroup 98 = .ok (.iload_n 3, 1) := by decide +kernel
theorem dX3_closeGroup_99 : decode cX3_closeGroup 99 = .ok (.iastore, 1) := by decide +kernel
theorem dX3_closeGroup_100 : decode cX3_closeGroup 100 = .ok (.aload_n 0, 1) := by decide +kernel
theorem dX3_closeGroup_101 : decode cX3_closeGroup 101 = .ok (.getfield 22, 3) := by decide +kernel
theorem dX3_closeGroup_104 : decode cX3_closeGroup 104 = .ok (.aload_n 0, 1) := by decide +kernel
theorem dX3_closeGroup_105 : decode cX3_closeGroup 105 = .ok (.getfield 54, 3) := by decide +kernel
theorem dX3_closeGroup_108 : decode cX3_closeGroup 108 = .ok (.iload_n 1, 1) := by decide +kernel
theorem dX3_closeGroup_109 : decode cX3_closeGroup 109 = .ok (.iastore, 1) := by decide +kernel
theorem dX3_closeGroup_110 : decode cX3_closeGroup 110 = .ok (.aload_n 0, 1) := by decide +kernel
theorem dX3_closeGroup_111 : decode cX3_closeGroup 111 = .ok (.getfield 25, 3) := by decide +kernel
theorem dX3_closeGroup_114 : decode cX3_closeGroup 114 = .ok (.aload_n 0, 1) := by decide +kernel
theorem dX3_closeGroup_115 : decode cX3_closeGroup 115 = .ok (.getfield 54, 3) := by decide +kernel
theorem dX3_closeGroup_118 : decode cX3_closeGroup 118 = .ok (.iload_n 2, 1) := by decide +kernel
theorem dX3_closeGroup_119 : decode cX3_closeGroup 119 = .ok (.iastore, 1) := by decide +kernel
theorem dX3_closeGroup_120 : decode cX3_closeGroup 120 = .ok (.aload_n 0, 1) := by decide +kernel
theorem dX3_closeGroup_121 : decode cX3_closeGroup 121 = .ok (.dup, 1) := by decide +kernel
theorem dX3_closeGroup_122 : decode cX3_closeGroup 122 = .ok (.getfield 54, 3) := by decide +kernel
theorem dX3_closeGroup_125 : decode cX3_closeGroup 125 = .ok (.iconst 1, 1) := by decide +kernel
theorem dX3_closeGroup_126 : decode cX3_closeGroup 126 = .ok (.iadd, 1) := by decide +kernel
theorem dX3_closeGroup_127 : decode cX3_closeGroup 127 = .ok (.putfield 54, 3) := by decide +kernel
theorem dX3_closeGroup_130 : decode cX3_closeGroup 130 = .ok (.aload_n 0, 1) := by decide +kernel
theorem dX3_closeGroup_131 : decode cX3_closeGroup 131 = .ok (.getfield 19, 3) := by decide +kernel
theorem dX3_closeGroup_134 : decode cX3_closeGroup 134 = .ok (.aload_n 0, 1) := by decide +kernel
theorem dX3_closeGroup_135 : decode cX3_closeGroup 135 = .ok (.getfield 54, 3) := by decide +kernel
theorem dX3_closeGroup_138 : decode cX3_closeGroup 138 = .ok (.aload_n 0, 1) := by decide +kernel
theorem dX3_closeGroup_139 : decode cX3_closeGroup 139 = .ok (.getfield 51, 3) := by decide +kernel
theorem dX3_closeGroup_142 : decode cX3_closeGroup 142 = .ok (.iastore, 1) := by decide +kernel
theorem dX3_closeGroup_143 : decode cX3_closeGroup 143 = .ok (.return_, 1) := by decide +kernel
theorem dX3_spread_0 : decode cX3_spread 0 = .ok (.iload_n 1, 1) := by decide +kernel
theorem dX3_spread_1 : decode cX3_spread 1 = .ok (.ifCond .lt 21, 3) := by decide +kernel
theorem dX3_spread_4 : decode cX3_spread 4 = .ok (.iload_n 1, 1) := by decide +kernel
theorem dX3_spread_5 : decode cX3_spread 5 = .ok (.aload_n 0, 1) := by decide +kernel
theorem dX3_spread_6 : decode cX3_spread 6 = .ok (.getfield 37, 3) := by decide +kernel
theorem dX3_spread_9 : decode cX3_spread 9 = .ok (.getfield 45, 3) := by decide +kernel
theorem dX3_spread_12 : decode cX3_spread 12 = .ok (.if_icmp .ge 10, 3) := by decide +kernel
theorem dX3_spread_15 : decode cX3_spread 15 = .ok (.iload_n 1, 1) := by decide +kernel
theorem dX3_spread_16 : decode cX3_spread 16 = .ok (.sipush 200, 3) := by decide +kernel
theorem dX3_spread_19 : decode cX3_spread 19 = .ok (.if_icmp .lt 4, 3) := by decide +kernel
theorem dX3_spread_22 : decode cX3_spread 22 = .ok (.return_, 1) := by decide +kernel
theorem dX3_spread_23 : decode cX3_spread 23 = .ok (.aload_n 0, 1) := by decide +kernel
theorem dX3_spread_24 : decode cX3_spread 24 = .ok (.getfield 37, 3) := by decide +kernel
theorem dX3_spread_27 : decode cX3_spread 27 = .ok (.getfield 85, 3) := by decide +kernel
theorem dX3_spread_30 : decode cX3_spread 30 = .ok (.iload_n 1, 1) := by decide +kernel
theorem dX3_spread_31 : decode cX3_spread 31 = .ok (.iaload, 1) := by decide +kernel
theorem dX3_spread_32 : decode cX3_spread 32 = .ok (.lookupswitch 124 #[(32, 44), (40, 55), (41, 81), (124, 64)], 44) := by decide +kernel
theorem dX3_spread_76 : decode cX3_spread 76 = .ok (.aload_n 0, 1) := by decide +kernel
theorem dX3_spread_77 : decode cX3_spread 77 = .ok (.iload_n 1, 1) := by decide +kernel
theorem dX3_spread_78 : decode cX3_spread 78 = .ok (.iconst 1, 1) := by decide +kernel
theorem dX3_spread_79 : decode cX3_spread 79 = .ok (.iadd, 1) := by decide +kernel
theorem dX3_spread_80 : decode cX3_spread 80 = .ok (.iload_n 2, 1) := by decide +kernel
theorem dX3_spread_81 : decode cX3_spread 81 = .ok (.invokevirtual 58, 3) := by decide +kernel
theorem dX3_spread_84 : decode cX3_spread 84 = .ok (.goto 72, 3) := by decide +kernel
theorem dX3_spread_87 : decode cX3_spread 87 = .ok (.aload_n 0, 1) := by decide +kernel
theorem dX3_spread_88 : decode cX3_spread 88 = .ok (.iload_n 1, 1) := by decide +kernel
theorem dX3_spread_89 : decode cX3_spread 89 = .ok (.iload_n 2, 1) := by decide +kernel
theorem dX3_spread_90 : decode cX3_spread 90 = .ok (.invokevirtual 87, 3) := by decide +kernel
theorem dX3_spread_93 : decode cX3_spread 93 = .ok (.goto 63, 3) := by decide +kernel
theorem dX3_spread_96 : decode cX3_spread 96 = .ok (.aload_n 0, 1) := by decide +kernel
theorem dX3_spread_97 : decode cX3_spread 97 = .ok (.aload_n 0, 1) := by decide +kernel
theorem dX3_spread_98 : decode cX3_spread 98 = .ok (.getfield 37, 3) := by decide +kernel
theorem dX3_spread_101 : decode cX3_spread 101 = .ok (.getfield 90, 3) := by decide +kernel
theorem dX3_spread_104 : decode cX3_spread 104 = .ok (.iload_n 1, 1) := by decide +kernel
theorem dX3_spread_105 : decode cX3_spread 105 = .ok (.iaload, 1) := by decide +kernel
theorem dX3_spread_106 : decode cX3_spread 106 = .ok (.iload_n 2, 1) := by decide +kernel
theorem dX3_spread_107 : decode cX3_spread 107 = .ok (.invokevirtual 58, 3) := by decide +kernel
theorem dX3_spread_110 : decode cX3_spread 110 = .ok (.goto 46, 3) := by decide +kernel
theorem dX3_spread_113 : decode cX3_spread 113 = .ok (.aload_n 0, 1) := by decide +kernel
theorem dX3_spread_114 : decode cX3_spread 114 = .ok (.aload_n 0, 1) := by decide +kernel
theorem dX3_spread_115 : decode cX3_spread 115 = .ok (.getfield 37, 3) := by decide +kernel
theorem dX3_spread_118 : decode cX3_spread 118 = .ok (.getfield 93, 3) := by decide +kernel
theorem dX3_spread_121 : decode cX3_spread 121 = .ok (.iload_n 1, 1) := by decide +kernel
theorem dX3_spread_122 : decode cX3_spread 122 = .ok (.iaload, 1) := by decide +kernel
theorem dX3_spread_123 : decode cX3_spread 123 = .ok (.iload_n 2, 1) := by decide +kernel
theorem dX3_spread_124 : decode cX3_spread 124 = .ok (.invokevirtual 58, 3) := by decide +kernel
theorem dX3_spread_127 : decode cX3_spread 127 = .ok (.aload_n 0, 1) := by decide +kernel
theorem dX3_spread_128 : decode cX3_spread 128 = .ok (.getfield 37, 3) := by decide +kernel
theorem dX3_spread_131 : decode cX3_spread 131 = .ok (.getfield 96, 3) := by decide +kernel
theorem dX3_spread_134 : decode cX3_spread 134 = .ok (.iload_n 1, 1) := by decide +kernel
theorem dX3_spread_135 : decode cX3_spread 135 = .ok (.baload, 1) := by decide +kernel
theorem dX3_spread_136 : decode cX3_spread 136 = .ok (.ifCond .eq 20, 3) := by decide +kernel
theorem dX3_spread_139 : decode cX3_spread 139 = .ok (.aload_n 0, 1) := by decide +kernel
theorem dX3_spread_140 : decode cX3_spread 140 = .ok (.aload_n 0, 1) := by decide +kernel
theorem dX3_spread_141 : decode cX3_spread 141 = .ok (.getfield 37, 3) := by decide +kernel
theorem dX3_spread_144 : decode cX3_spread 144 = .ok (.getfield 90, 3) := by decide +kernel
theorem dX3_spread_147 : decode cX3_spread 147 = .ok (.iload_n 1, 1) := by decide +kernel
theorem dX3_spread_148 : decode cX3_spread 148 = .ok (.iaload, 1) := by decide +kernel
theorem dX3_spread_149 : decode cX3_spread 149 = .ok (.iload_n 2, 1) := by decide +kernel
theorem dX3_spread_150 : decode cX3_spread 150 = .ok (.invokevirtual 58, 3) := by decide +kernel
theorem dX3_spread_153 : decode cX3_spread 153 = .ok (.goto 3, 3) := by decide +kernel
theorem dX3_spread_156 : decode cX3_spread 156 = .ok (.return_, 1) := by decide +kernel
theorem dX3_enterBracket_0 : decode cX3_enterBracket 0 = .ok (.aload_n 0, 1) := by decide +kernel
theorem dX3_enterBracket_1 : decode cX3_enterBracket 1 = .ok (.getfield 37, 3) := by decide +kernel
theorem dX3_enterBracket_4 : decode cX3_enterBracket 4 = .ok (.getfield 90, 3) := by decide +kernel
theorem dX3_enterBracket_7 : decode cX3_enterBracket 7 = .ok (.iload_n 1, 1) := by decide +kernel
theorem dX3_enterBracket_8 : decode cX3_enterBracket 8 = .ok (.iaload, 1) := by decide +kernel
theorem dX3_enterBracket_9 : decode cX3_enterBracket 9 = .ok (.istore_n 3, 1) := by decide +kernel
theorem dX3_enterBracket_10 : decode cX3_enterBracket 10 = .ok (.iload_n 1, 1) := by decide +kernel
theorem dX3_enterBracket_11 : decode cX3_enterBracket 11 = .ok (.istore 4, 2) := by decide +kernel
theorem dX3_enterBracket_13 : decode cX3_enterBracket 13 = .ok (.iconst 0, 1) := by decide +kernel
theorem dX3_enterBracket_14 : decode cX3_enterBracket 14 = .ok (.istore 5, 2) := by decide +kernel
theorem dX3_enterBracket_16 : decode cX3_enterBracket 16 = .ok (.iload 5, 2) := by decide +kernel
theorem dX3_enterBracket_18 : decode cX3_enterBracket 18 = .ok (.sipush 200, 3) := by decide +kernel
theorem dX3_enterBracket_21 : decode cX3_enterBracket 21 = .ok (.if_icmp .ge 49, 3) := by decide +kernel
theorem dX3_enterBracket_24 : decode cX3_enterBracket 24 = .ok (.iload 4, 2) := by decide +kernel
theorem dX3_enterBracket_26 : decode cX3_enterBracket 26 = .ok (.ifCond .lt 44, 3) := by decide +kernel
theorem dX3_enterBracket_29 : decode cX3_enterBracket 29 = .ok (.iload 4, 2) := by decide +kernel
theorem dX3_enterBracket_31 : decode cX3_enterBracket 31 = .ok (.iload_n 3, 1) := by decide +kernel
theorem dX3_enterBracket_32 : decode cX3_enterBracket 32 = .ok (.if_icmp .ge 38, 3) := by decide +kernel
theorem dX3_enterBracket_35 : decode cX3_enterBracket 35 = .ok (.iload 4, 2) := by decide +kernel
theorem dX3_enterBracket_37 : decode cX3_enterBracket 37 = .ok (.sipush 200, 3) := by decide +kernel
theorem dX3_enterBracket_40 : decode cX3_enterBracket 40 = .ok (.if_icmp .ge 30, 3) := by decide +kernel
theorem dX3_enterBracket_43 : decode cX3_enterBracket 43 = .ok (.aload_n 0, 1) := by decide +kernel
theorem dX3_enterBracket_44 : decode cX3_enterBracket 44 = .ok (.iload 4, 2) := by decide +kernel
theorem dX3_enterBracket_46 : decode cX3_enterBracket 46 = .ok (.iconst 1, 1) := by decide +kernel
theorem dX3_enterBracket_47 : decode cX3_enterBracket 47 = .ok (.iadd, 1) := by decide +kernel
theorem dX3_enterBracket_48 : decode cX3_enterBracket 48 = .ok (.iload_n 2, 1) := by decide +kernel
theorem dX3_enterBracket_49 : decode cX3_enterBracket 49 = .ok (.invokevirtual 58, 3) := by decide +kernel
theorem dX3_enterBracket_52 : decode cX3_enterBracket 52 = .ok (.aload_n 0, 1) := by decide +kernel
theorem dX3_enterBracket_53 : decode cX3_enterBracket 53 = .ok (.getfield 37, 3) := by decide +kernel
theorem dX3_enterBracket_56 : decode cX3_enterBracket 56 = .ok (.getfield 99, 3) := by decide +kernel
theorem dX3_enterBracket_59 : decode cX3_enterBracket 59 = .ok (.iload 4, 2) := by decide +kernel
theorem dX3_enterBracket_61 : decode cX3_enterBracket 61 = .ok (.iaload, 1) := by decide +kernel
theorem dX3_enterBracket_62 : decode cX3_enterBracket 62 = .ok (.istore 4, 2) := by decide +kernel
theorem dX3_enterBracket_64 : decode cX3_enterBracket 64 = .ok (.iinc 5 1, 3) := by decide +kernel
theorem dX3_enterBracket_67 : decode cX3_enterBracket 67 = .ok (.goto (-51), 3) := by decide +kernel
theorem dX3_enterBracket_70 : decode cX3_enterBracket 70 = .ok (.iload_n 3, 1) := by decide +kernel
theorem dX3_enterBracket_71 : decode cX3_enterBracket 71 = .ok (.ifCond .lt 36, 3) := by decide +kernel
theorem dX3_enterBracket_74 : decode cX3_enterBracket 74 = .ok (.iload_n 3, 1) := by decide +kernel
theorem dX3_enterBracket_75 : decode cX3_enterBracket 75 = .ok (.sipush 200, 3) := by decide +kernel
theorem dX3_enterBracket_78 : decode cX3_enterBracket 78 = .ok (.if_icmp .ge 29, 3) := by decide +kernel
theorem dX3_enterBracket_81 : decode cX3_enterBracket 81 = .ok (.aload_n 0, 1) := by decide +kernel
theorem dX3_enterBracket_82 : decode cX3_enterBracket 82 = .ok (.getfield 37, 3) := by decide +kernel
theorem dX3_enterBracket_85 : decode cX3_enterBracket 85 = .ok (.getfield 96, 3) := by decide +kernel
theorem dX3_enterBracket_88 : decode cX3_enterBracket 88 = .ok (.iload_n 3, 1) := by decide +kernel
theorem dX3_enterBracket_89 : decode cX3_enterBracket 89 = .ok (.baload, 1) := by decide +kernel
theorem dX3_enterBracket_90 : decode cX3_enterBracket 90 = .ok (.ifCond .eq 17, 3) := by decide +kernel
theorem dX3_enterBracket_93 : decode cX3_enterBracket 93 = .ok (.aload_n 0, 1) := by decide +kernel
theorem dX3_enterBracket_94 : decode cX3_enterBracket 94 = .ok (.aload_n 0, 1) := by decide +kernel
theorem dX3_enterBracket_95 : decode cX3_enterBracket 95 = .ok (.getfield 37, 3) := by decide +kernel
theorem dX3_enterBracket_98 : decode cX3_enterBracket 98 = .ok (.getfield 93, 3) := by decide +kernel
theorem dX3_enterBracket_101 : decode cX3_enterBracket 101 = .ok (.iload_n 3, 1) := by decide +kernel
theorem dX3_enterBracket_102 : decode cX3_enterBracket 102 = .ok (.iaload, 1) := by decide +kernel
theorem dX3_enterBracket_103 : decode cX3_enterBracket 103 = .ok (.iload_n 2, 1) := by decide +kernel
theorem dX3_enterBracket_104 : decode cX3_enterBracket 104 = .ok (.invokevirtual 58, 3) := by decide +kernel
theorem dX3_enterBracket_107 : decode cX3_enterBracket 107 = .ok (.return_, 1) := by decide +kernel
theorem dX3_writeBreak_0 : decode cX3_writeBreak 0 = .ok (.aload_n 0, 1) := by decide +kernel
theorem dX3_writeBreak_1 : decode cX3_writeBreak 1 = .ok (.getfield 33, 3) := by decide +kernel
theorem dX3_writeBreak_4 : decode cX3_writeBreak 4 = .ok (.iload_n 2, 1) := by decide +kernel
theorem dX3_writeBreak_5 : decode cX3_writeBreak 5 = .ok (.invokevirtual 102, 3) := by decide +kernel
theorem dX3_writeBreak_8 : decode cX3_writeBreak 8 = .ok (.pop, 1) := by decide +kernel
theorem dX3_writeBreak_9 : decode cX3_writeBreak 9 = .ok (.iload_n 1, 1) := by decide +kernel
theorem dX3_writeBreak_10 : decode cX3_writeBreak 10 = .ok (.istore_n 3, 1) := by decide +kernel
theorem dX3_writeBreak_11 : decode cX3_writeBreak 11 = .ok (.iconst 0, 1) := by decide +kernel
theorem dX3_writeBreak_12 : decode cX3_writeBreak 12 = .ok (.istore 4, 2) := by decide +kernel
theorem dX3_writeBreak_14 : decode cX3_writeBreak 14 = .ok (.iload 4, 2) := by decide +kernel
theorem dX3_writeBreak_16 : decode cX3_writeBreak 16 = .ok (.sipush 6030, 3) := by decide +kernel
theorem dX3_writeBreak_19 : decode cX3_writeBreak 19 = .ok (.if_icmp .ge 41, 3) := by decide +kernel
theorem dX3_writeBreak_22 : decode cX3_writeBreak 22 = .ok (.iload_n 3, 1) := by decide +kernel
theorem dX3_writeBreak_23 : decode cX3_writeBreak 23 = .ok (.ifCond .le 37, 3) := by decide +kernel
theorem dX3_writeBreak_26 : decode cX3_writeBreak 26 = .ok (.iload_n 3, 1) := by decide +kernel
theorem dX3_writeBreak_27 : decode cX3_writeBreak 27 = .ok (.sipush 6030, 3) := by decide +kernel
theorem dX3_writeBreak_30 : decode cX3_writeBreak 30 = .ok (.if_icmp .ge 30, 3) := by decide +kernel
theorem dX3_writeBreak_33 : decode cX3_writeBreak 33 = .ok (.aload_n 0, 1) := by decide +kernel
theorem dX3_writeBreak_34 : decode cX3_writeBreak 34 = .ok (.getfield 33, 3) := by decide +kernel
theorem dX3_writeBreak_37 : decode cX3_writeBreak 37 = .ok (.aload_n 0, 1) := by decide +kernel
theorem dX3_writeBreak_38 : decode cX3_writeBreak 38 = .ok (.getfield 25, 3) := by decide +kernel
theorem dX3_writeBreak_41 : decode cX3_writeBreak 41 = .ok (.iload_n 3, 1) := by decide +kernel
theorem dX3_writeBreak_42 : decode cX3_writeBreak 42 = .ok (.iaload, 1) := by decide +kernel
theorem dX3_writeBreak_43 : decode cX3_writeBreak 43 = .ok (.invokevirtual 102, 3) := by decide +kernel
theorem dX3_writeBreak_46 : decode cX3_writeBreak 46 = .ok (.pop, 1) := by decide +kernel
theorem dX3_writeBreak_47 : decode cX3_writeBreak 47 = .ok (.aload_n 0, 1) := by decide +kernel
theorem dX3_writeBreak_48 : decode cX3_writeBreak 48 = .ok (.getfield 22, 3) := by decide +kernel
theorem dX3_writeBreak_51 : decode cX3_writeBreak 51 = .ok (.iload_n 3, 1) := by decide +kernel
theorem dX3_writeBreak_52 : decode cX3_writeBreak 52 = .ok (.iaload, 1) := by decide +kernel
theorem dX3_writeBreak_53 : decode cX3_writeBreak 53 = .ok (.istore_n 3, 1) := by decide +kernel
theorem dX3_writeBreak_54 : decode cX3_writeBreak 54 = .ok (.iinc 4 1, 3) := by decide +kernel
theorem dX3_writeBreak_57 : decode cX3_writeBreak 57 = .ok (.goto (-43), 3) := by decide +kernel
theorem dX3_writeBreak_60 : decode cX3_writeBreak 60 = .ok (.aload_n 0, 1) := by decide +kernel
theorem dX3_writeBreak_61 : decode cX3_writeBreak 61 = .ok (.getfield 33, 3) := by decide +kernel
theorem dX3_writeBreak_64 : decode cX3_writeBreak 64 = .ok (.invokevirtual 106, 3) := by decide +kernel
theorem dX3_writeBreak_67 : decode cX3_writeBreak 67 = .ok (.return_, 1) := by decide +kernel
theorem dX4_init_0 : decode cX4_init 0 = .ok (.aload_n 0, 1) := by decide +kernel
theorem dX4_init_1 : decode cX4_init 1 = .ok (.invokespecial 3, 3) := by decide +kernel
theorem dX4_init_4 : decode cX4_init 4 = .ok (.aload_n 0, 1) := by decide +kernel
theorem dX4_init_5 : decode cX4_init 5 = .ok (.sipush 240, 3) := by decide +kernel
theorem dX4_init_8 : decode cX4_init 8 = .ok (.newarray .int, 2) := by decide +kernel
theorem dX4_init_10 : decode cX4_init 10 = .ok (.putfield 9, 3) := by decide +kernel
theorem dX4_init_13 : decode cX4_init 13 = .ok (.aload_n 0, 1) := by decide +kernel
theorem dX4_init_14 : decode cX4_init 14 = .ok (.sipush 240, 3) := by decide +kernel
theorem dX4_init_17 : decode cX4_init 17 = .ok (.newarray .int, 2) := by decide +kernel
theorem dX4_init_19 : decode cX4_init 19 = .ok (.putfield 15, 3) := by decide +kernel
theorem dX4_init_22 : decode cX4_init 22 = .ok (.aload_n 0, 1) := by decide +kernel
theorem dX4_init_23 : decode cX4_init 23 = .ok (.getfield 9, 3) := by decide +kernel
theorem dX4_init_26 : decode cX4_init 26 = .ok (.iconst (-1), 1) := by decide +kernel
theorem dX4_init_27 : decode cX4_init 27 = .ok (.invokestatic 18, 3) := by decide +kernel
theorem dX4_init_30 : decode cX4_init 30 = .ok (.aload_n 0, 1) := by decide +kernel
theorem dX4_init_31 : decode cX4_init 31 = .ok (.iconst 1, 1) := by decide +kernel
theorem dX4_init_32 : decode cX4_init 32 = .ok (.putfield 24, 3) := by decide +kernel
theorem dX4_init_35 : decode cX4_init 35 = .ok (.return_, 1) := by decide +kernel
theorem dX4_clear_0 : decode cX4_clear 0 = .ok (.aload_n 0, 1) := by decide +kernel
theorem dX4_clear_1 : decode cX4_clear 1 = .ok (.getfield 9, 3) := by decide +kernel
theorem dX4_clear_4 : decode cX4_clear 4 = .ok (.iconst (-1), 1) := by decide +kernel
theorem dX4_clear_5 : decode cX4_clear 5 = .ok (.invokestatic 18, 3) := by decide +kernel
theorem dX4_clear_8 : decode cX4_clear 8 = .ok (.aload_n 0, 1) := by decide +kernel
theorem dX4_clear_9 : decode cX4_clear 9 = .ok (.getfield 15, 3) := by decide +kernel
theorem dX4_clear_12 : decode cX4_clear 12 = .ok (.iconst 0, 1) := by decide +kernel
theorem dX4_clear_13 : decode cX4_clear 13 = .ok (.invokestatic 18, 3) := by decide +kernel
theorem dX4_clear_16 : decode cX4_clear 16 = .ok (.aload_n 0, 1) := by decide +kernel
theorem dX4_clear_17 : decode cX4_clear 17 = .ok (.iload_n 1, 1) := by decide +kernel
theorem dX4_clear_18 : decode cX4_clear 18 = .ok (.putfield 24, 3) := by decide +kernel
theorem dX4_clear_21 : decode cX4_clear 21 = .ok (.return_, 1) := by decide +kernel
theorem dX4_hasState_0 : decode cX4_hasState 0 = .ok (.iload_n 1, 1) := by decide +kernel
theorem dX4_hasState_1 : decode cX4_hasState 1 = .ok (.ifCond .lt 21, 3) := by decide +kernel
theorem dX4_hasState_4 : decode cX4_hasState 4 = .ok (.iload_n 1, 1) := by decide +kernel
theorem dX4_hasState_5 : decode cX4_hasState 5 = .ok (.aload_n 0, 1) := by decide +kernel
theorem dX4_hasState_6 : decode cX4_hasState 6 = .ok (.getfield 24, 3) := by decide +kernel
theorem dX4_hasState_9 : decode cX4_hasState 9 = .ok (.if_icmp .ge 13, 3) := by decide +kernel
theorem dX4_hasState_12 : decode cX4_hasState 12 = .ok (.iload_n 1, 1) := by decide +kernel
theorem dX4_hasState_13 : decode cX4_hasState 13 = .ok (.bipush 30, 2) := by decide +kernel
theorem dX4_hasState_15 : decode cX4_hasState 15 = .ok (.if_icmp .ge 7, 3) := by decide +kernel
theorem dX4_hasState_18 : decode cX4_hasState 18 = .ok (.iconst 1, 1) := by decide +kernel
theorem dX4_hasState_19 : decode cX4_hasState 19 = .ok (.goto 4, 3) := by decide +kernel
theorem dX4_hasState_22 : decode cX4_hasState 22 = .ok (.iconst 0, 1) := by decide +kernel
theorem dX4_hasState_23 : decode cX4_hasState 23 = .ok (.ireturn, 1) := by decide +kernel
theorem dX4_setStep_0 : decode cX4_setStep 0 = .ok (.aload_n 0, 1) := by decide +kernel
theorem dX4_setStep_1 : decode cX4_setStep 1 = .ok (.iload_n 1, 1) := by decide +kernel
theorem dX4_setStep_2 : decode cX4_setStep 2 = .ok (.invokevirtual 28, 3) := by decide +kernel
theorem dX4_setStep_5 : decode cX4_setStep 5 = .ok (.ifCond .eq 22, 3) := by decide +kernel
theorem dX4_setStep_8 : decode cX4_setStep 8 = .ok (.iload_n 2, 1) := by decide +kernel
theorem dX4_setStep_9 : decode cX4_setStep 9 = .ok (.invokestatic 32, 3) := by decide +kernel
theorem dX4_setStep_12 : decode cX4_setStep 12 = .ok (.ifCond .eq 15, 3) := by decide +kernel
theorem dX4_setStep_15 : decode cX4_setStep 15 = .ok (.aload_n 0, 1) := by decide +kernel
theorem dX4_setStep_16 : decode cX4_setStep 16 = .ok (.getfield 9, 3) := by decide +kernel
theorem dX4_setStep_19 : decode cX4_setStep 19 = .ok (.iload_n 1, 1) := by decide +kernel
theorem dX4_setStep_20 : decode cX4_setStep 20 = .ok (.bipush 8, 2) := by decide +kernel
theorem dX4_setStep_22 : decode cX4_setStep 22 = .ok (.imul, 1) := by decide +kernel
theorem dX4_setStep_23 : decode cX4_setStep 23 = .ok (.iload_n 2, 1) := by decide +kernel
theorem dX4_setStep_24 : decode cX4_setStep 24 = .ok (.iadd, 1) := by decide +kernel
theorem dX4_setStep_25 : decode cX4_setStep 25 = .ok (.iload_n 3, 1) := by decide +kernel
theorem dX4_setStep_26 : decode cX4_setStep 26 = .ok (.iastore, 1) := by decide +kernel
theorem dX4_setStep_27 : decode cX4_setStep 27 = .ok (.return_, 1) := by decide +kernel
theorem dX4_after_0 : decode cX4_after 0 = .ok (.aload_n 0, 1) := by decide +kernel
theorem dX4_after_1 : decode cX4_after 1 = .ok (.iload_n 1, 1) := by decide +kernel
theorem dX4_after_2 : decode cX4_after 2 = .ok (.invokevirtual 28, 3) := by decide +kernel
theorem dX4_after_5 : decode cX4_after 5 = .ok (.ifCond .eq 24, 3) := by decide +kernel
theorem dX4_after_8 : decode cX4_after 8 = .ok (.iload_n 2, 1) := by decide +kernel
theorem dX4_after_9 : decode cX4_after 9 = .ok (.invokestatic 32, 3) := by decide +kernel
theorem dX4_after_12 : decode cX4_after 12 = .ok (.ifCond .eq 17, 3) := by decide +kernel
theorem dX4_after_15 : decode cX4_after 15 = .ok (.aload_n 0, 1) := by decide +kernel
theorem dX4_after_16 : decode cX4_after 16 = .ok (.getfield 9, 3) := by decide +kernel
theorem dX4_after_19 : decode cX4_after 19 = .ok (.iload_n 1, 1) := by decide +kernel
theorem dX4_after_20 : decode cX4_after 20 = .ok (.bipush 8, 2) := by decide +kernel
theorem dX4_after_22 : decode cX4_after 22 = .ok (.imul, 1) := by decide +kernel
theorem dX4_after_23 : decode cX4_after 23 = .ok (.iload_n 2, 1) := by decide +kernel
theorem dX4_after_24 : decode cX4_after 24 = .ok (.iadd, 1) := by decide +kernel
theorem dX4_after_25 : decode cX4_after 25 = .ok (.iaload, 1) := by decide +kernel
theorem dX4_after_26 : decode cX4_after 26 = .ok (.goto 4, 3) := by decide +kernel
theorem dX4_after_29 : decode cX4_after 29 = .ok (.iconst (-1), 1) := by decide +kernel
theorem dX4_after_30 : decode cX4_after 30 = .ok (.ireturn, 1) := by decide +kernel
theorem dX4_timesOver_0 : decode cX4_timesOver 0 = .ok (.aload_n 0, 1) := by decide +kernel
theorem dX4_timesOver_1 : decode cX4_timesOver 1 = .ok (.iload_n 1, 1) := by decide +kernel
theorem dX4_timesOver_2 : decode cX4_timesOver 2 = .ok (.invokevirtual 28, 3) := by decide +kernel
theorem dX4_timesOver_5 : decode cX4_timesOver 5 = .ok (.ifCond .eq 24, 3) := by decide +kernel
theorem dX4_timesOver_8 : decode cX4_timesOver 8 = .ok (.iload_n 2, 1) := by decide +kernel
theorem dX4_timesOver_9 : decode cX4_timesOver 9 = .ok (.invokestatic 32, 3) := by decide +kernel
theorem dX4_timesOver_12 : decode cX4_timesOver 12 = .ok (.ifCond .eq 17, 3) := by decide +kernel
theorem dX4_timesOver_15 : decode cX4_timesOver 15 = .ok (.aload_n 0, 1) := by decide +kernel
theorem dX4_timesOver_16 : decode cX4_timesOver 16 = .ok (.getfield 15, 3) := by decide +kernel
theorem dX4_timesOver_19 : decode cX4_timesOver 19 = .ok (.iload_n 1, 1) := by decide +kernel
theorem dX4_timesOver_20 : decode cX4_timesOver 20 = .ok (.bipush 8, 2) := by decide +kernel
theorem dX4_timesOver_22 : decode cX4_timesOver 22 = .ok (.imul, 1) := by decide +kernel
theorem dX4_timesOver_23 : decode cX4_timesOver 23 = .ok (.iload_n 2, 1) := by decide +kernel
theorem dX4_timesOver_24 : decode cX4_timesOver 24 = .ok (.iadd, 1) := by decide +kernel
theorem dX4_timesOver_25 : decode cX4_timesOver 25 = .ok (.iaload, 1) := by decide +kernel
theorem dX4_timesOver_26 : decode cX4_timesOver 26 = .ok (.goto 4, 3) := by decide +kernel
theorem dX4_timesOver_29 : decode cX4_timesOver 29 = .ok (.iconst 0, 1) := by decide +kernel
theorem dX4_timesOver_30 : decode cX4_timesOver 30 = .ok (.ireturn, 1) := by decide +kernel
theorem dX4_countOver_0 : decode cX4_countOver 0 = .ok (.iconst 0, 1) := by decide +kernel
theorem dX4_countOver_1 : decode cX4_countOver 1 = .ok (.istore_n 3, 1) := by decide +kernel
theorem dX4_countOver_2 : decode cX4_countOver 2 = .ok (.iload_n 3, 1) := by decide +kernel
theorem dX4_countOver_3 : decode cX4_countOver 3 = .ok (.aload_n 1, 1) := by decide +kernel
theorem dX4_countOver_4 : decode cX4_countOver 4 = .ok (.getfield 35, 3) := by decide +kernel
theorem dX4_countOver_7 : decode cX4_countOver 7 = .ok (.if_icmp .ge 27, 3) := by decide +kernel
theorem dX4_countOver_10 : decode cX4_countOver 10 = .ok (.iload_n 3, 1) := by decide +kernel
theorem dX4_countOver_11 : decode cX4_countOver 11 = .ok (.bipush 60, 2) := by decide +kernel
theorem dX4_countOver_13 : decode cX4_countOver 13 = .ok (.if_icmp .ge 21, 3) := by decide +kernel
theorem dX4_countOver_16 : decode cX4_countOver 16 = .ok (.aload_n 0, 1) := by decide +kernel
theorem dX4_countOver_17 : decode cX4_countOver 17 = .ok (.aload_n 1, 1) := by decide +kernel
theorem dX4_countOver_18 : decode cX4_countOver 18 = .ok (.iload_n 3, 1) := by decide +kernel
theorem dX4_countOver_19 : decode cX4_countOver 19 = .ok (.aload_n 2, 1) := by decide +kernel
theorem dX4_countOver_20 : decode cX4_countOver 20 = .ok (.getfield 40, 3) := by decide +kernel
theorem dX4_countOver_23 : decode cX4_countOver 23 = .ok (.iload_n 3, 1) := by decide +kernel
theorem dX4_countOver_24 : decode cX4_countOver 24 = .ok (.iaload, 1) := by decide +kernel
theorem dX4_countOver_25 : decode cX4_countOver 25 = .ok (.invokevirtual 45, 3) := by decide +kernel
theorem dX4_countOver_28 : decode cX4_countOver 28 = .ok (.iinc 3 1, 3) := by decide +kernel
theorem dX4_countOver_31 : decode cX4_countOver 31 = .ok (.goto (-29), 3) := by decide +kernel
theorem dX4_countOver_34 : decode cX4_countOver 34 = .ok (.return_, 1) := by decide +kernel
theorem dX4_countRow_0 : decode cX4_countRow 0 = .ok (.iconst 0, 1) := by decide +kernel
theorem dX4_countRow_1 : decode cX4_countRow 1 = .ok (.istore 4, 2) := by decide +kernel
theorem dX4_countRow_3 : decode cX4_countRow 3 = .ok (.iconst 0, 1) := by decide +kernel
theorem dX4_countRow_4 : decode cX4_countRow 4 = .ok (.istore 5, 2) := by decide +kernel
theorem dX4_countRow_6 : decode cX4_countRow 6 = .ok (.iload 5, 2) := by decide +kernel
theorem dX4_countRow_8 : decode cX4_countRow 8 = .ok (.iload_n 3, 1) := by decide +kernel
theorem dX4_countRow_9 : decode cX4_countRow 9 = .ok (.if_icmp .ge 63, 3) := by decide +kernel
theorem dX4_countRow_12 : decode cX4_countRow 12 = .ok (.iload 5, 2) := by decide +kernel
theorem dX4_countRow_14 : decode cX4_countRow 14 = .ok (.bipush 12, 2) := by decide +kernel
theorem dX4_countRow_16 : decode cX4_countRow 16 = .ok (.if_icmp .ge 56, 3) := by decide +kernel
theorem dX4_countRow_19 : decode cX4_countRow 19 = .ok (.aload_n 1, 1) := by decide +kernel
theorem dX4_countRow_20 : decode cX4_countRow 20 = .ok (.iload_n 2, 1) := by decide +kernel
theorem dX4_countRow_21 : decode cX4_countRow 21 = .ok (.iload 5, 2) := by decide +kernel
theorem dX4_countRow_23 : decode cX4_countRow 23 = .ok (.invokevirtual 49, 3) := by decide +kernel
theorem dX4_countRow_26 : decode cX4_countRow 26 = .ok (.istore 6, 2) := by decide +kernel
theorem dX4_countRow_28 : decode cX4_countRow 28 = .ok (.aload_n 0, 1) := by decide +kernel
theorem dX4_countRow_29 : decode cX4_countRow 29 = .ok (.iload 4, 2) := by decide +kernel
theorem dX4_countRow_31 : decode cX4_countRow 31 = .ok (.iload 6, 2) := by decide +kernel
theorem dX4_countRow_33 : decode cX4_countRow 33 = .ok (.invokevirtual 53, 3) := by decide +kernel
theorem dX4_countRow_36 : decode cX4_countRow 36 = .ok (.istore 7, 2) := by decide +kernel
theorem dX4_countRow_38 : decode cX4_countRow 38 = .ok (.iload 7, 2) := by decide +kernel
theorem dX4_countRow_40 : decode cX4_countRow 40 = .ok (.iconst (-1), 1) := by decide +kernel
theorem dX4_countRow_41 : decode cX4_countRow 41 = .ok (.if_icmp .ne 4, 3) := by decide +kernel
theorem dX4_countRow_44 : decode cX4_countRow 44 = .ok (.return_, 1) := by decide +kernel
theorem dX4_countRow_45 : decode cX4_countRow 45 = .ok (.aload_n 0, 1) := by decide +kernel
theorem dX4_countRow_46 : decode cX4_countRow 46 = .ok (.getfield 15, 3) := by decide +kernel
theorem dX4_countRow_49 : decode cX4_countRow 49 = .ok (.iload 4, 2) := by decide +kernel
theorem dX4_countRow_51 : decode cX4_countRow 51 = .ok (.bipush 8, 2) := by decide +kernel
theorem dX4_countRow_53 : decode cX4_countRow 53 = .ok (.imul, 1) := by decide +kernel
theorem dX4_countRow_54 : decode cX4_countRow 54 = .ok (.iload 6, 2) := by decide +kernel
theorem dX4_countRow_56 : decode cX4_countRow 56 = .ok (.iadd, 1) := by decide +kernel
theorem dX4_countRow_57 : decode cX4_countRow 57 = .ok (.dup2, 1) := by decide +kernel
theorem dX4_countRow_58 : decode cX4_countRow 58 = .ok (.iaload, 1) := by decide +kernel
theorem dX4_countRow_59 : decode cX4_countRow 59 = .ok (.iconst 1, 1) := by decide +kernel
theorem dX4_countRow_60 : decode cX4_countRow 60 = .ok (.iadd, 1) := by decide +kernel
theorem dX4_countRow_61 : decode cX4_countRow 61 = .ok (.iastore, 1) := by decide +kernel
theorem dX4_countRow_62 : decode cX4_countRow 62 = .ok (.iload 7, 2) := by decide +kernel
theorem dX4_countRow_64 : decode cX4_countRow 64 = .ok (.istore 4, 2) := by decide +kernel
theorem dX4_countRow_66 : decode cX4_countRow 66 = .ok (.iinc 5 1, 3) := by decide +kernel
theorem dX4_countRow_69 : decode cX4_countRow 69 = .ok (.goto (-63), 3) := by decide +kernel
theorem dX4_countRow_72 : decode cX4_countRow 72 = .ok (.return_, 1) := by decide +kernel
theorem dX4_countSteps_0 : decode cX4_countSteps 0 = .ok (.iconst 0, 1) := by decide +kernel
theorem dX4_countSteps_1 : decode cX4_countSteps 1 = .ok (.istore_n 1, 1) := by decide +kernel
theorem dX4_countSteps_2 : decode cX4_countSteps 2 = .ok (.iconst 0, 1) := by decide +kernel
theorem dX4_countSteps_3 : decode cX4_countSteps 3 = .ok (.istore_n 2, 1) := by decide +kernel
theorem dX4_countSteps_4 : decode cX4_countSteps 4 = .ok (.iload_n 2, 1) := by decide +kernel
theorem dX4_countSteps_5 : decode cX4_countSteps 5 = .ok (.sipush 240, 3) := by decide +kernel
theorem dX4_countSteps_8 : decode cX4_countSteps 8 = .ok (.if_icmp .ge 27, 3) := by decide +kernel
theorem dX4_countSteps_11 : decode cX4_countSteps 11 = .ok (.iload_n 1, 1) := by decide +kernel
theorem dX4_countSteps_12 : decode cX4_countSteps 12 = .ok (.aload_n 0, 1) := by decide +kernel
theorem dX4_countSteps_13 : decode cX4_countSteps 13 = .ok (.getfield 9, 3) := by decide +kernel
theorem dX4_countSteps_16 : decode cX4_countSteps 16 = .ok (.iload_n 2, 1) := by decide +kernel
theorem dX4_countSteps_17 : decode cX4_countSteps 17 = .ok (.iaload, 1) := by decide +kernel
theorem dX4_countSteps_18 : decode cX4_countSteps 18 = .ok (.iconst (-1), 1) := by decide +kernel
theorem dX4_countSteps_19 : decode cX4_countSteps 19 = .ok (.if_icmp .eq 7, 3) := by decide +kernel
theorem dX4_countSteps_22 : decode cX4_countSteps 22 = .ok (.iconst 1, 1) := by decide +kernel
theorem dX4_countSteps_23 : decode cX4_countSteps 23 = .ok (.goto 4, 3) := by decide +kernel
theorem dX4_countSteps_26 : decode cX4_countSteps 26 = .ok (.iconst 0, 1) := by decide +kernel
theorem dX4_countSteps_27 : decode cX4_countSteps 27 = .ok (.iadd, 1) := by decide +kernel
theorem dX4_countSteps_28 : decode cX4_countSteps 28 = .ok (.istore_n 1, 1) := by decide +kernel
theorem dX4_countSteps_29 : decode cX4_countSteps 29 = .ok (.iinc 2 1, 3) := by decide +kernel
theorem dX4_countSteps_32 : decode cX4_countSteps 32 = .ok (.goto (-28), 3) := by decide +kernel
theorem dX4_countSteps_35 : decode cX4_countSteps 35 = .ok (.iload_n 1, 1) := by decide +kernel
theorem dX4_countSteps_36 : decode cX4_countSteps 36 = .ok (.ireturn, 1) := by decide +kernel
theorem dX4_stepsBelow_0 : decode cX4_stepsBelow 0 = .ok (.iconst 0, 1) := by decide +kernel
theorem dX4_stepsBelow_1 : decode cX4_stepsBelow 1 = .ok (.istore_n 2, 1) := by decide +kernel
theorem dX4_stepsBelow_2 : decode cX4_stepsBelow 2 = .ok (.iconst 0, 1) := by decide +kernel
theorem dX4_stepsBelow_3 : decode cX4_stepsBelow 3 = .ok (.istore_n 3, 1) := by decide +kernel
theorem dX4_stepsBelow_4 : decode cX4_stepsBelow 4 = .ok (.iload_n 3, 1) := by decide +kernel
theorem dX4_stepsBelow_5 : decode cX4_stepsBelow 5 = .ok (.sipush 240, 3) := by decide +kernel
theorem dX4_stepsBelow_8 : decode cX4_stepsBelow 8 = .ok (.if_icmp .ge 37, 3) := by decide +kernel
theorem dX4_stepsBelow_11 : decode cX4_stepsBelow 11 = .ok (.iload_n 2, 1) := by decide +kernel
theorem dX4_stepsBelow_12 : decode cX4_stepsBelow 12 = .ok (.aload_n 0, 1) := by decide +kernel
theorem dX4_stepsBelow_13 : decode cX4_stepsBelow 13 = .ok (.getfield 9, 3) := by decide +kernel
theorem dX4_stepsBelow_16 : decode cX4_stepsBelow 16 = .ok (.iload_n 3, 1) := by decide +kernel
theorem dX4_stepsBelow_17 : decode cX4_stepsBelow 17 = .ok (.iaload, 1) := by decide +kernel
theorem dX4_stepsBelow_18 : decode cX4_stepsBelow 18 = .ok (.iconst (-1), 1) := by decide +kernel
theorem dX4_stepsBelow_19 : decode cX4_stepsBelow 19 = .ok (.if_icmp .eq 17, 3) := by decide +kernel
theorem dX4_stepsBelow_22 : decode cX4_stepsBelow 22 = .ok (.aload_n 0, 1) := by decide +kernel
theorem dX4_stepsBelow_23 : decode cX4_stepsBelow 23 = .ok (.getfield 15, 3) := by decide +kernel
theorem dX4_stepsBelow_26 : decode cX4_stepsBelow 26 = .ok (.iload_n 3, 1) := by decide +kernel
theorem dX4_stepsBelow_27 : decode cX4_stepsBelow 27 = .ok (.iaload, 1) := by decide +kernel
theorem dX4_stepsBelow_28 : decode cX4_stepsBelow 28 = .ok (.iload_n 1, 1) := by decide +kernel
theorem dX4_stepsBelow_29 : decode cX4_stepsBelow 29 = .ok (.if_icmp .ge 7, 3) := by decide +kernel
theorem dX4_stepsBelow_32 : decode cX4_stepsBelow 32 = .ok (.iconst 1, 1) := by decide +kernel
theorem dX4_stepsBelow_33 : decode cX4_stepsBelow 33 = .ok (.goto 4, 3) := by decide +kernel
theorem dX4_stepsBelow_36 : decode cX4_stepsBelow 36 = .ok (.iconst 0, 1) := by decide +kernel
theorem dX4_stepsBelow_37 : decode cX4_stepsBelow 37 = .ok (.iadd, 1) := by decide +kernel
theorem dX4_stepsBelow_38 : decode cX4_stepsBelow 38 = .ok (.istore_n 2, 1) := by decide +kernel
theorem dX4_stepsBelow_39 : decode cX4_stepsBelow 39 = .ok (.iinc 3 1, 3) := by decide +kernel
theorem dX4_stepsBelow_42 : decode cX4_stepsBelow 42 = .ok (.goto (-38), 3) := by decide +kernel
theorem dX4_stepsBelow_45 : decode cX4_stepsBelow 45 = .ok (.iload_n 2, 1) := by decide +kernel
theorem dX4_stepsBelow_46 : decode cX4_stepsBelow 46 = .ok (.ireturn, 1) := by decide +kernel
theorem dX5_init_0 : decode cX5_init 0 = .ok (.aload_n 0, 1) := by decide +kernel
theorem dX5_init_1 : decode cX5_init 1 = .ok (.invokespecial 3, 3) := by decide +kernel
theorem dX5_init_4 : decode cX5_init 4 = .ok (.aload_n 0, 1) := by decide +kernel
theorem dX5_init_5 : decode cX5_init 5 = .ok (.iload_n 1, 1) := by decide +kernel
theorem dX5_init_6 : decode cX5_init 6 = .ok (.iconst 0, 1) := by decide +kernel
theorem dX5_init_7 : decode cX5_init 7 = .ok (.invokestatic 9, 3) := by decide +kernel
theorem dX5_init_10 : decode cX5_init 10 = .ok (.newarray .int, 2) := by decide +kernel
theorem dX5_init_12 : decode cX5_init 12 = .ok (.putfield 15, 3) := by decide +kernel
theorem dX5_init_15 : decode cX5_init 15 = .ok (.return_, 1) := by decide +kernel
theorem dX5_append_0 : decode cX5_append 0 = .ok (.aload_n 0, 1) := by decide +kernel
theorem dX5_append_1 : decode cX5_append 1 = .ok (.getfield 21, 3) := by decide +kernel
theorem dX5_append_4 : decode cX5_append 4 = .ok (.ifCond .lt 15, 3) := by decide +kernel
theorem dX5_append_7 : decode cX5_append 7 = .ok (.aload_n 0, 1) := by decide +kernel
theorem dX5_append_8 : decode cX5_append 8 = .ok (.getfield 21, 3) := by decide +kernel
theorem dX5_append_11 : decode cX5_append 11 = .ok (.aload_n 0, 1) := by decide +kernel
theorem dX5_append_12 : decode cX5_append 12 = .ok (.getfield 15, 3) := by decide +kernel
theorem dX5_append_15 : decode cX5_append 15 = .ok (.arraylength, 1) := by decide +kernel
theorem dX5_append_16 : decode cX5_append 16 = .ok (.if_icmp .lt 5, 3) := by decide +kernel
theorem dX5_append_19 : decode cX5_append 19 = .ok (.iconst 0, 1) := by decide +kernel
theorem dX5_append_20 : decode cX5_append 20 = .ok (.ireturn, 1) := by decide +kernel
theorem dX5_append_21 : decode cX5_append 21 = .ok (.aload_n 0, 1) := by decide +kernel
theorem dX5_append_22 : decode cX5_append 22 = .ok (.getfield 15, 3) := by decide +kernel
theorem dX5_append_25 : decode cX5_append 25 = .ok (.aload_n 0, 1) := by decide +kernel
theorem dX5_append_26 : decode cX5_append 26 = .ok (.getfield 21, 3) := by decide +kernel
theorem dX5_append_29 : decode cX5_append 29 = .ok (.iload_n 1, 1) := by decide +kernel
theorem dX5_append_30 : decode cX5_append 30 = .ok (.iastore, 1) := by decide +kernel
theorem dX5_append_31 : decode cX5_append 31 = .ok (.aload_n 0, 1) := by decide +kernel
theorem dX5_append_32 : decode cX5_append 32 = .ok (.dup, 1) := by decide +kernel
theorem dX5_append_33 : decode cX5_append 33 = .ok (.getfield 21, 3) := by decide +kernel
theorem dX5_append_36 : decode cX5_append 36 = .ok (.iconst 1, 1) := by decide +kernel
theorem dX5_append_37 : decode cX5_append 37 = .ok (.iadd, 1) := by decide +kernel
theorem dX5_append_38 : decode cX5_append 38 = .ok (.putfield 21, 3) := by decide +kernel
theorem dX5_append_41 : decode cX5_append 41 = .ok (.iconst 1, 1) := by decide +kernel
theorem dX5_append_42 : decode cX5_append 42 = .ok (.ireturn, 1) := by decide +kernel
theorem dX5_at_0 : decode cX5_at 0 = .ok (.iload_n 1, 1) := by decide +kernel
theorem dX5_at_1 : decode cX5_at 1 = .ok (.ifCond .lt 29, 3) := by decide +kernel
theorem dX5_at_4 : decode cX5_at 4 = .ok (.iload_n 1, 1) := by decide +kernel
theorem dX5_at_5 : decode cX5_at 5 = .ok (.aload_n 0, 1) := by decide +kernel
theorem dX5_at_6 : decode cX5_at 6 = .ok (.getfield 21, 3) := by decide +kernel
theorem dX5_at_9 : decode cX5_at 9 = .ok (.if_icmp .ge 21, 3) := by decide +kernel
theorem dX5_at_12 : decode cX5_at 12 = .ok (.iload_n 1, 1) := by decide +kernel
theorem dX5_at_13 : decode cX5_at 13 = .ok (.aload_n 0, 1) := by decide +kernel
theorem dX5_at_14 : decode cX5_at 14 = .ok (.getfield 15, 3) := by decide +kernel
theorem dX5_at_17 : decode cX5_at 17 = .ok (.arraylength, 1) := by decide +kernel
theorem dX5_at_18 : decode cX5_at 18 = .ok (.if_icmp .ge 12, 3) := by decide +kernel
theorem dX5_at_21 : decode cX5_at 21 = .ok (.aload_n 0, 1) := by decide +kernel
theorem dX5_at_22 : decode cX5_at 22 = .ok (.getfield 15, 3) := by decide +kernel
theorem dX5_at_25 : decode cX5_at 25 = .ok (.iload_n 1, 1) := by decide +kernel
theorem dX5_at_26 : decode cX5_at 26 = .ok (.iaload, 1) := by decide +kernel
theorem dX5_at_27 : decode cX5_at 27 = .ok (.goto 4, 3) := by decide +kernel
theorem dX5_at_30 : decode cX5_at 30 = .ok (.iconst (-1), 1) := by decide +kernel
theorem dX5_at_31 : decode cX5_at 31 = .ok (.ireturn, 1) := by decide +kernel
theorem dX5_turnRound_0 : decode cX5_turnRound 0 = .ok (.iconst 0, 1) := by decide +kernel
theorem dX5_turnRound_1 : decode cX5_turnRound 1 = .ok (.istore_n 1, 1) := by decide +kernel
theorem dX5_turnRound_2 : decode cX5_turnRound 2 = .ok (.aload_n 0, 1) := by decide +kernel
theorem dX5_turnRound_3 : decode cX5_turnRound 3 = .ok (.getfield 21, 3) := by decide +kernel
theorem dX5_turnRound_6 : decode cX5_turnRound 6 = .ok (.iconst 1, 1) := by decide +kernel
theorem dX5_turnRound_7 : decode cX5_turnRound 7 = .ok (.isub, 1) := by decide +kernel
theorem dX5_turnRound_8 : decode cX5_turnRound 8 = .ok (.istore_n 2, 1) := by decide +kernel
theorem dX5_turnRound_9 : decode cX5_turnRound 9 = .ok (.iload_n 1, 1) := by decide +kernel
theorem dX5_turnRound_10 : decode cX5_turnRound 10 = .ok (.iload_n 2, 1) := by decide +kernel
theorem dX5_turnRound_11 : decode cX5_turnRound 11 = .ok (.if_icmp .ge 47, 3) := by decide +kernel
theorem dX5_turnRound_14 : decode cX5_turnRound 14 = .ok (.iload_n 2, 1) := by decide +kernel
theorem dX5_turnRound_15 : decode cX5_turnRound 15 = .ok (.aload_n 0, 1) := by decide +kernel
theorem dX5_turnRound_16 : decode cX5_turnRound 16 = .ok (.getfield 15, 3) := by decide +kernel
theorem dX5_turnRound_19 : decode cX5_turnRound 19 = .ok (.arraylength, 1) := by decide +kernel
theorem dX5_turnRound_20 : decode cX5_turnRound 20 = .ok (.if_icmp .ge 38, 3) := by decide +kernel
theorem dX5_turnRound_23 : decode cX5_turnRound 23 = .ok (.aload_n 0, 1) := by decide +kernel
theorem dX5_turnRound_24 : decode cX5_turnRound 24 = .ok (.getfield 15, 3) := by decide +kernel
theorem dX5_turnRound_27 : decode cX5_turnRound 27 = .ok (.iload_n 1, 1) := by decide +kernel
theorem dX5_turnRound_28 : decode cX5_turnRound 28 = .ok (.iaload, 1) := by decide +kernel
theorem dX5_turnRound_29 : decode cX5_turnRound 29 = .ok (.istore_n 3, 1) := by decide +kernel
theorem dX5_turnRound_30 : decode cX5_turnRound 30 = .ok (.aload_n 0, 1) := by decide +kernel
theorem dX5_turnRound_31 : decode cX5_turnRound 31 = .ok (.getfield 15, 3) := by decide +kernel
theorem dX5_turnRound_34 : decode cX5_turnRound 34 = .ok (.iload_n 1, 1) := by decide +kernel
theorem dX5_turnRound_35 : decode cX5_turnRound 35 = .ok (.aload_n 0, 1) := by decide +kernel
theorem dX5_turnRound_36 : decode cX5_turnRound 36 = .ok (.getfield 15, 3) := by decide +kernel
theorem dX5_turnRound_39 : decode cX5_turnRound 39 = .ok (.iload_n 2, 1) := by decide +kernel
theorem dX5_turnRound_40 : decode cX5_turnRound 40 = .ok (.iaload, 1) := by decide +kernel
theorem dX5_turnRound_41 : decode cX5_turnRound 41 = .ok (.iastore, 1) := by decide +kernel
theorem dX5_turnRound_42 : decode cX5_turnRound 42 = .ok (.aload_n 0, 1) := by decide +kernel
theorem dX5_turnRound_43 : decode cX5_turnRound 43 = .ok (.getfield 15, 3) := by decide +kernel
theorem dX5_turnRound_46 : decode cX5_turnRound 46 = .ok (.iload_n 2, 1) := by decide +kernel
theorem dX5_turnRound_47 : decode cX5_turnRound 47 = .ok (.iload_n 3, 1) := by decide +kernel
theorem dX5_turnRound_48 : decode cX5_turnRound 48 = .ok (.iastore, 1) := by decide +kernel
theorem dX5_turnRound_49 : decode cX5_turnRound 49 = .ok (.iinc 1 1, 3) := by decide +kernel
theorem dX5_turnRound_52 : decode cX5_turnRound 52 = .ok (.iinc 2 (-1), 3) := by decide +kernel
theorem dX5_turnRound_55 : decode cX5_turnRound 55 = .ok (.goto (-46), 3) := by decide +kernel
theorem dX5_turnRound_58 : decode cX5_turnRound 58 = .ok (.return_, 1) := by decide +kernel
theorem dX6_init_0 : decode cX6_init 0 = .ok (.aload_n 0, 1) := by decide +kernel
theorem dX6_init_1 : decode cX6_init 1 = .ok (.invokespecial 3, 3) := by decide +kernel
theorem dX6_init_4 : decode cX6_init 4 = .ok (.aload_n 0, 1) := by decide +kernel
theorem dX6_init_5 : decode cX6_init 5 = .ok (.sipush 721, 3) := by decide +kernel
theorem dX6_init_8 : decode cX6_init 8 = .ok (.newarray .int, 2) := by decide +kernel
theorem dX6_init_10 : decode cX6_init 10 = .ok (.putfield 9, 3) := by decide +kernel
theorem dX6_init_13 : decode cX6_init 13 = .ok (.aload_n 0, 1) := by decide +kernel
theorem dX6_init_14 : decode cX6_init 14 = .ok (.bipush 30, 2) := by decide +kernel
theorem dX6_init_16 : decode cX6_init 16 = .ok (.newarray .int, 2) := by decide +kernel
theorem dX6_init_18 : decode cX6_init 18 = .ok (.putfield 15, 3) := by decide +kernel
theorem dX6_init_21 : decode cX6_init 21 = .ok (.aload_n 0, 1) := by decide +kernel
theorem dX6_init_22 : decode cX6_init 22 = .ok (.sipush 721, 3) := by decide +kernel
theorem dX6_init_25 : decode cX6_init 25 = .ok (.newarray .int, 2) := by decide +kernel
theorem dX6_init_27 : decode cX6_init 27 = .ok (.putfield 18, 3) := by decide +kernel
theorem dX6_init_30 : decode cX6_init 30 = .ok (.aload_n 0, 1) := by decide +kernel
theorem dX6_init_31 : decode cX6_init 31 = .ok (.sipush 721, 3) := by decide +kernel
theorem dX6_init_34 : decode cX6_init 34 = .ok (.newarray .int, 2) := by decide +kernel
theorem dX6_init_36 : decode cX6_init 36 = .ok (.putfield 21, 3) := by decide +kernel
theorem dX6_init_39 : decode cX6_init 39 = .ok (.aload_n 0, 1) := by decide +kernel
theorem dX6_init_40 : decode cX6_init 40 = .ok (.sipush 721, 3) := by decide +kernel
theorem dX6_init_43 : decode cX6_init 43 = .ok (.newarray .int, 2) := by decide +kernel
theorem dX6_init_45 : decode cX6_init 45 = .ok (.putfield 24, 3) := by decide +kernel
theorem dX6_init_48 : decode cX6_init 48 = .ok (.aload_n 0, 1) := by decide +kernel
theorem dX6_init_49 : decode cX6_init 49 = .ok (.sipush 721, 3) := by decide +kernel
theorem dX6_init_52 : decode cX6_init 52 = .ok (.newarray .int, 2) := by decide +kernel
theorem dX6_init_54 : decode cX6_init 54 = .ok (.putfield 27, 3) := by decide +kernel
theorem dX6_init_57 : decode cX6_init 57 = .ok (.aload_n 0, 1) := by decide +kernel
theorem dX6_init_58 : decode cX6_init 58 = .ok (.sipush 5768, 3) := by decide +kernel
theorem dX6_init_61 : decode cX6_init 61 = .ok (.newarray .int, 2) := by decide +kernel
theorem dX6_init_63 : decode cX6_init 63 = .ok (.putfield 30, 3) := by decide +kernel
theorem dX6_init_66 : decode cX6_init 66 = .ok (.aload_n 0, 1) := by decide +kernel
theorem dX6_init_67 : decode cX6_init 67 = .ok (.aload_n 1, 1) := by decide +kernel
theorem dX6_init_68 : decode cX6_init 68 = .ok (.putfield 33, 3) := by decide +kernel
theorem dX6_init_71 : decode cX6_init 71 = .ok (.aload_n 0, 1) := by decide +kernel
theorem dX6_init_72 : decode cX6_init 72 = .ok (.aload_n 2, 1) := by decide +kernel
theorem dX6_init_73 : decode cX6_init 73 = .ok (.putfield 37, 3) := by decide +kernel
theorem dX6_init_76 : decode cX6_init 76 = .ok (.return_, 1) := by decide +kernel
theorem dX6_meltAll_0 : decode cX6_meltAll 0 = .ok (.aload_n 0, 1) := by decide +kernel
theorem dX6_meltAll_1 : decode cX6_meltAll 1 = .ok (.getfield 33, 3) := by decide +kernel
theorem dX6_meltAll_4 : decode cX6_meltAll 4 = .ok (.invokevirtual 41, 3) := by decide +kernel
theorem dX6_meltAll_7 : decode cX6_meltAll 7 = .ok (.iconst 0, 1) := by decide +kernel
theorem dX6_meltAll_8 : decode cX6_meltAll 8 = .ok (.istore_n 1, 1) := by decide +kernel
theorem dX6_meltAll_9 : decode cX6_meltAll 9 = .ok (.iload_n 1, 1) := by decide +kernel
theorem dX6_meltAll_10 : decode cX6_meltAll 10 = .ok (.aload_n 0, 1) := by decide +kernel
theorem dX6_meltAll_11 : decode cX6_meltAll 11 = .ok (.getfield 37, 3) := by decide +kernel
theorem dX6_meltAll_14 : decode cX6_meltAll 14 = .ok (.getfield 46, 3) := by decide +kernel
theorem dX6_meltAll_17 : decode cX6_meltAll 17 = .ok (.if_icmp .ge 30, 3) := by decide +kernel
theorem dX6_meltAll_20 : decode cX6_meltAll 20 = .ok (.iload_n 1, 1) := by decide +kernel
theorem dX6_meltAll_21 : decode cX6_meltAll 21 = .ok (.sipush 721, 3) := by decide +kernel
theorem dX6_meltAll_24 : decode cX6_meltAll 24 = .ok (.if_icmp .ge 23, 3) := by decide +kernel
theorem dX6_meltAll_27 : decode cX6_meltAll 27 = .ok (.aload_n 0, 1) := by decide +kernel
theorem dX6_meltAll_28 : decode cX6_meltAll 28 = .ok (.getfield 9, 3) := by decide +kernel
theorem dX6_meltAll_31 : decode cX6_meltAll 31 = .ok (.iload_n 1, 1) := by decide +kernel
theorem dX6_meltAll_32 : decode cX6_meltAll 32 = .ok (.iload_n 1, 1) := by decide +kernel
theorem dX6_meltAll_33 : decode cX6_meltAll 33 = .ok (.iastore, 1) := by decide +kernel
theorem dX6_meltAll_34 : decode cX6_meltAll 34 = .ok (.aload_n 0, 1) := by decide +kernel
theorem dX6_meltAll_35 : decode cX6_meltAll 35 = .ok (.getfield 18, 3) := by decide +kernel
theorem dX6_meltAll_38 : decode cX6_meltAll 38 = .ok (.iload_n 1, 1) := by decide +kernel
theorem dX6_meltAll_39 : decode cX6_meltAll 39 = .ok (.iconst (-1), 1) := by decide +kernel
theorem dX6_meltAll_40 : decode cX6_meltAll 40 = .ok (.iastore, 1) := by decide +kernel
theorem dX6_meltAll_41 : decode cX6_meltAll 41 = .ok (.iinc 1 1, 3) := by decide +kernel
theorem dX6_meltAll_44 : decode cX6_meltAll 44 = .ok (.goto (-35), 3) := by decide +kernel
theorem dX6_meltAll_47 : decode cX6_meltAll 47 = .ok (.aload_n 0, 1) := by decide +kernel
theorem dX6_meltAll_48 : decode cX6_meltAll 48 = .ok (.getfield 15, 3) := by decide +kernel
theorem dX6_meltAll_51 : decode cX6_meltAll 51 = .ok (.iconst 0, 1) := by decide +kernel
theorem dX6_meltAll_52 : decode cX6_meltAll 52 = .ok (.iconst 0, 1) := by decide +kernel
theorem dX6_meltAll_53 : decode cX6_meltAll 53 = .ok (.iastore, 1) := by decide +kernel
theorem dX6_meltAll_54 : decode cX6_meltAll 54 = .ok (.aload_n 0, 1) := by decide +kernel
theorem dX6_meltAll_55 : decode cX6_meltAll 55 = .ok (.iconst 1, 1) := by decide +kernel
theorem dX6_meltAll_56 : decode cX6_meltAll 56 = .ok (.putfield 52, 3) := by decide +kernel
theorem dX6_meltAll_59 : decode cX6_meltAll 59 = .ok (.iconst 1, 1) := by decide +kernel
theorem dX6_meltAll_60 : decode cX6_meltAll 60 = .ok (.istore_n 1, 1) := by decide +kernel
theorem dX6_meltAll_61 : decode cX6_meltAll 61 = .ok (.iload_n 1, 1) := by decide +kernel
theorem dX6_meltAll_62 : decode cX6_meltAll 62 = .ok (.aload_n 0, 1) := by decide +kernel
theorem dX6_meltAll_63 : decode cX6_meltAll 63 = .ok (.getfield 37, 3) := by decide +kernel
theorem dX6_meltAll_66 : decode cX6_meltAll 66 = .ok (.getfield 46, 3) := by decide +kernel
theorem dX6_meltAll_69 : decode cX6_meltAll 69 = .ok (.if_icmp .ge 68, 3) := by decide +kernel
theorem dX6_meltAll_72 : decode cX6_meltAll 72 = .ok (.iload_n 1, 1) := by decide +kernel
theorem dX6_meltAll_73 : decode cX6_meltAll 73 = .ok (.sipush 721, 3) := by decide +kernel
theorem dX6_meltAll_76 : decode cX6_meltAll 76 = .ok (.if_icmp .ge 61, 3) := by decide +kernel
theorem dX6_meltAll_79 : decode cX6_meltAll 79 = .ok (.aload_n 0, 1) := by decide +kernel
theorem dX6_meltAll_80 : decode cX6_meltAll 80 = .ok (.getfield 9, 3) := by decide +kernel
theorem dX6_meltAll_83 : decode cX6_meltAll 83 = .ok (.iload_n 1, 1) := by decide +kernel
theorem dX6_meltAll_84 : decode cX6_meltAll 84 = .ok (.iaload, 1) := by decide +kernel
theorem dX6_meltAll_85 : decode cX6_meltAll 85 = .ok (.iload_n 1, 1) := by decide +kernel
theorem dX6_meltAll_86 : decode cX6_meltAll 86 = .ok (.if_icmp .ne 45, 3) := by decide +kernel
theorem dX6_meltAll_89 : decode cX6_meltAll 89 = .ok (.aload_n 0, 1) := by decide +kernel
theorem dX6_meltAll_90 : decode cX6_meltAll 90 = .ok (.iload_n 1, 1) := by decide +kernel
theorem dX6_meltAll_91 : decode cX6_meltAll 91 = .ok (.invokevirtual 55, 3) := by decide +kernel
theorem dX6_meltAll_94 : decode cX6_meltAll 94 = .ok (.ifCond .eq 6, 3) := by decide +kernel
theorem dX6_meltAll_97 : decode cX6_meltAll 97 = .ok (.goto 34, 3) := by decide +kernel
theorem dX6_meltAll_100 : decode cX6_meltAll 100 = .ok (.aload_n 0, 1) := by decide +kernel
theorem dX6_meltAll_101 : decode cX6_meltAll 101 = .ok (.getfield 52, 3) := by decide +kernel
theorem dX6_meltAll_104 : decode cX6_meltAll 104 = .ok (.bipush 30, 2) := by decide +kernel
theorem dX6_meltAll_106 : decode cX6_meltAll 106 = .ok (.if_icmp .lt 5, 3) := by decide +kernel
theorem dX6_meltAll_109 : decode cX6_meltAll 109 = .ok (.iconst 0, 1) := by decide +kernel
theorem dX6_meltAll_110 : decode cX6_meltAll 110 = .ok (.ireturn, 1) := by decide +kernel
theorem dX6_meltAll_111 : decode cX6_meltAll 111 = .ok (.aload_n 0, 1) := by decide +kernel
theorem dX6_meltAll_112 : decode cX6_meltAll 112 = .ok (.getfield 15, 3) := by decide +kernel
theorem dX6_meltAll_115 : decode cX6_meltAll 115 = .ok (.aload_n 0, 1) := by decide +kernel
theorem dX6_meltAll_116 : decode cX6_meltAll 116 = .ok (.getfield 52, 3) := by decide +kernel
theorem dX6_meltAll_119 : decode cX6_meltAll 119 = .ok (.iload_n 1, 1) := by decide +kernel
theorem dX6_meltAll_120 : decode cX6_meltAll 120 = .ok (.iastore, 1) := by decide +kernel
theorem dX6_meltAll_121 : decode cX6_meltAll 121 = .ok (.aload_n 0, 1) := by decide +kernel
theorem dX6_meltAll_122 : decode cX6_meltAll 122 = .ok (.dup, 1) := by decide +kernel
theorem dX6_meltAll_123 : decode cX6_meltAll 123 = .ok (.getfield 52, 3) := by decide +kernel
theorem dX6_meltAll_126 : decode cX6_meltAll 126 = .ok (.iconst 1, 1) := by decide +kernel
theorem dX6_meltAll_127 : decode cX6_meltAll 127 = .ok (.iadd, 1) := by decide +kernel
theorem dX6_meltAll_128 : decode cX6_meltAll 128 = .ok (.putfield 52, 3) := by decide +kernel
theorem dX6_meltAll_131 : decode cX6_meltAll 131 = .ok (.iinc 1 1, 3) := by decide +kernel
theorem dX6_meltAll_134 : decode cX6_meltAll 134 = .ok (.goto (-73), 3) := by decide +kernel
theorem dX6_meltAll_137 : decode cX6_meltAll 137 = .ok (.iconst 1, 1) := by decide +kernel
theorem dX6_meltAll_138 : decode cX6_meltAll 138 = .ok (.ireturn, 1) := by decide +kernel
theorem dX6_writeInto_0 : decode cX6_writeInto 0 = .ok (.iconst 0, 1) := by decide +kernel
theorem dX6_writeInto_1 : decode cX6_writeInto 1 = .ok (.istore_n 2, 1) := by decide +kernel
theorem dX6_writeInto_2 : decode cX6_writeInto 2 = .ok (.iload_n 2, 1) := by decide +kernel
theorem dX6_writeInto_3 : decode cX6_writeInto 3 = .ok (.aload_n 0, 1) := by decide +kernel
theorem dX6_writeInto_4 : decode cX6_writeInto 4 = .ok (.getfield 52, 3) := by decide +kernel
theorem dX6_writeInto_7 : decode cX6_writeInto 7 = .ok (.if_icmp .ge 40, 3) := by decide +kernel
theorem dX6_writeInto_10 : decode cX6_writeInto 10 = .ok (.iload_n 2, 1) := by decide +kernel
theorem dX6_writeInto_11 : decode cX6_writeInto 11 = .ok (.bipush 30, 2) := by decide +kernel
theorem dX6_writeInto_13 : decode cX6_writeInto 13 = .ok (.if_icmp .ge 34, 3) := by decide +kernel
theorem dX6_writeInto_16 : decode cX6_writeInto 16 = .ok (.aload_n 0, 1) := by decide +kernel
theorem dX6_writeInto_17 : decode cX6_writeInto 17 = .ok (.getfield 15, 3) := by decide +kernel
theorem dX6_writeInto_20 : decode cX6_writeInto 20 = .ok (.iload_n 2, 1) := by decide +kernel
theorem dX6_writeInto_21 : decode cX6_writeInto 21 = .ok (.iaload, 1) := by decide +kernel
theorem dX6_writeInto_22 : decode cX6_writeInto 22 = .ok (.istore_n 3, 1) := by decide +kernel
theorem dX6_writeInto_23 : decode cX6_writeInto 23 = .ok (.iload_n 3, 1) := by decide +kernel
theorem dX6_writeInto_24 : decode cX6_writeInto 24 = .ok (.ifCond .lt 17, 3) := by decide +kernel
theorem dX6_writeInto_27 : decode cX6_writeInto 27 = .ok (.iload_n 3, 1) := by decide +kernel
theorem dX6_writeInto_28 : decode cX6_writeInto 28 = .ok (.sipush 721, 3) := by decide +kernel
theorem dX6_writeInto_31 : decode cX6_writeInto 31 = .ok (.if_icmp .ge 10, 3) := by decide +kernel
theorem dX6_writeInto_34 : decode cX6_writeInto 34 = .ok (.aload_n 0, 1) := by decide +kernel
theorem dX6_writeInto_35 : decode cX6_writeInto 35 = .ok (.getfield 18, 3) := by decide +kernel
theorem dX6_writeInto_38 : decode cX6_writeInto 38 = .ok (.iload_n 3, 1) := by decide +kernel
theorem dX6_writeInto_39 : decode cX6_writeInto 39 = .ok (.iload_n 2, 1) := by decide +kernel
theorem dX6_writeInto_40 : decode cX6_writeInto 40 = .ok (.iastore, 1) := by decide +kernel
theorem dX6_writeInto_41 : decode cX6_writeInto 41 = .ok (.iinc 2 1, 3) := by decide +kernel
theorem dX6_writeInto_44 : decode cX6_writeInto 44 = .ok (.goto (-42), 3) := by decide +kernel
theorem dX6_writeInto_47 : decode cX6_writeInto 47 = .ok (.aload_n 1, 1) := by decide +kernel
theorem dX6_writeInto_48 : decode cX6_writeInto 48 = .ok (.aload_n 0, 1) := by decide +kernel
theorem dX6_writeInto_49 : decode cX6_writeInto 49 = .ok (.getfield 52, 3) := by decide +kernel
theorem dX6_writeInto_52 : decode cX6_writeInto 52 = .ok (.invokevirtual 59, 3) := by decide +kernel
theorem dX6_writeInto_55 : decode cX6_writeInto 55 = .ok (.iconst 0, 1) := by decide +kernel
theorem dX6_writeInto_56 : decode cX6_writeInto 56 = .ok (.istore_n 2, 1) := by decide +kernel
theorem dX6_writeInto_57 : decode cX6_writeInto 57 = .ok (.iload_n 2, 1) := by decide +kernel
theorem dX6_writeInto_58 : decode cX6_writeInto 58 = .ok (.aload_n 0, 1) := by decide +kernel
theorem dX6_writeInto_59 : decode cX6_writeInto 59 = .ok (.getfield 52, 3) := by decide +kernel
theorem dX6_writeInto_62 : decode cX6_writeInto 62 = .ok (.if_icmp .ge 75, 3) := by decide +kernel
theorem dX6_writeInto_65 : decode cX6_writeInto 65 = .ok (.iload_n 2, 1) := by decide +kernel
theorem dX6_writeInto_66 : decode cX6_writeInto 66 = .ok (.bipush 30, 2) := by decide +kernel
theorem dX6_writeInto_68 : decode cX6_writeInto 68 = .ok (.if_icmp .ge 69, 3) := by decide +kernel
theorem dX6_writeInto_71 : decode cX6_writeInto 71 = .ok (.iconst 0, 1) := by decide +kernel
theorem dX6_writeInto_72 : decode cX6_writeInto 72 = .ok (.istore_n 3, 1) := by decide +kernel
theorem dX6_writeInto_73 : decode cX6_writeInto 73 = .ok (.iload_n 3, 1) := by decide +kernel
theorem dX6_writeInto_74 : decode cX6_writeInto 74 = .ok (.bipush 8, 2) := by decide +kernel
theorem dX6_writeInto_76 : decode cX6_writeInto 76 = .ok (.if_icmp .ge 55, 3) := by decide +kernel
theorem dX6_writeInto_79 : decode cX6_writeInto 79 = .ok (.aload_n 0, 1) := by decide +kernel
theorem dX6_writeInto_80 : decode cX6_writeInto 80 = .ok (.aload_n 0, 1) := by decide +kernel
theorem dX6_writeInto_81 : decode cX6_writeInto 81 = .ok (.getfield 37, 3) := by decide +kernel
theorem dX6_writeInto_84 : decode cX6_writeInto 84 = .ok (.aload_n 0, 1) := by decide +kernel
theorem dX6_writeInto_85 : decode cX6_writeInto 85 = .ok (.getfield 15, 3) := by decide +kernel
theorem dX6_writeInto_88 : decode cX6_writeInto 88 = .ok (.iload_n 2, 1) := by decide +kernel
theorem dX6_writeInto_89 : decode cX6_writeInto 89 = .ok (.iaload, 1) := by decide +kernel
theorem dX6_writeInto_90 : decode cX6_writeInto 90 = .ok (.iload_n 3, 1) := by decide +kernel
theorem dX6_writeInto_91 : decode cX6_writeInto 91 = .ok (.invokevirtual 65, 3) := by decide +kernel
theorem dX6_writeInto_94 : decode cX6_writeInto 94 = .ok (.invokevirtual 69, 3) := by decide +kernel
theorem dX6_writeInto_97 : decode cX6_writeInto 97 = .ok (.istore 4, 2) := by decide +kernel
theorem dX6_writeInto_99 : decode cX6_writeInto 99 = .ok (.iload 4, 2) := by decide +kernel
theorem dX6_writeInto_101 : decode cX6_writeInto 101 = .ok (.ifCond .lt 24, 3) := by decide +kernel
theorem dX6_writeInto_104 : decode cX6_writeInto 104 = .ok (.iload 4, 2) := by decide +kernel
theorem dX6_writeInto_106 : decode cX6_writeInto 106 = .ok (.sipush 721, 3) := by decide +kernel
theorem dX6_writeInto_109 : decode cX6_writeInto 109 = .ok (.if_icmp .ge 16, 3) := by decide +kernel
theorem dX6_writeInto_112 : decode cX6_writeInto 112 = .ok (.aload_n 1, 1) := by decide +kernel
theorem dX6_writeInto_113 : decode cX6_writeInto 113 = .ok (.iload_n 2, 1) := by decide +kernel
theorem dX6_writeInto_114 : decode cX6_writeInto 114 = .ok (.iload_n 3, 1) := by decide +kernel
theorem dX6_writeInto_115 : decode cX6_writeInto 115 = .ok (.aload_n 0, 1) := by decide +kernel
theorem dX6_writeInto_116 : decode cX6_writeInto 116 = .ok (.getfield 18, 3) := by decide +kernel
theorem dX6_writeInto_119 : decode cX6_writeInto 119 = .ok (.iload 4, 2) := by decide +kernel
theorem dX6_writeInto_121 : decode cX6_writeInto 121 = .ok (.iaload, 1) := by decide +kernel
theorem dX6_writeInto_122 : decode cX6_writeInto 122 = .ok (.invokevirtual 73, 3) := by decide +kernel
theorem dX6_writeInto_125 : decode cX6_writeInto 125 = .ok (.iinc 3 1, 3) := by decide +kernel
theorem dX6_writeInto_128 : decode cX6_writeInto 128 = .ok (.goto (-55), 3) := by decide +kernel
theorem dX6_writeInto_131 : decode cX6_writeInto 131 = .ok (.iinc 2 1, 3) := by decide +kernel
theorem dX6_writeInto_134 : decode cX6_writeInto 134 = .ok (.goto (-77), 3) := by decide +kernel
theorem dX6_writeInto_137 : decode cX6_writeInto 137 = .ok (.return_, 1) := by decide +kernel
theorem dX6_meltsWithKept_0 : decode cX6_meltsWithKept 0 = .ok (.iconst 0, 1) := by decide +kernel
theorem dX6_meltsWithKept_1 : decode cX6_meltsWithKept 1 = .ok (.istore_n 2, 1) := by decide +kernel
theorem dX6_meltsWithKept_2 : decode cX6_meltsWithKept 2 = .ok (.iload_n 2, 1) := by decide +kernel
theorem dX6_meltsWithKept_3 : decode cX6_meltsWithKept 3 = .ok (.aload_n 0, 1) := by decide +kernel
theorem dX6_meltsWithKept_4 : decode cX6_meltsWithKept 4 = .ok (.getfield 52, 3) := by decide +kernel
theorem dX6_meltsWithKept_7 : decode cX6_meltsWithKept 7 = .ok (.if_icmp .ge 43, 3) := by decide +kernel
theorem dX6_meltsWithKept_10 : decode cX6_meltsWithKept 10 = .ok (.iload_n 2, 1) := by decide +kernel
theorem dX6_meltsWithKept_11 : decode cX6_meltsWithKept 11 = .ok (.bipush 30, 2) := by decide +kernel
theorem dX6_meltsWithKept_13 : decode cX6_meltsWithKept 13 = .ok (.if_icmp .ge 37, 3) := by decide +kernel
theorem dX6_meltsWithKept_16 : decode cX6_meltsWithKept 16 = .ok (.aload_n 0, 1) := by decide +kernel
theorem dX6_meltsWithKept_17 : decode cX6_meltsWithKept 17 = .ok (.aload_n 0, 1) := by decide +kernel
theorem dX6_meltsWithKept_18 : decode cX6_meltsWithKept 18 = .ok (.getfield 15, 3) := by decide +kernel
theorem dX6_meltsWithKept_21 : decode cX6_meltsWithKept 21 = .ok (.iload_n 2, 1) := by decide +kernel
theorem dX6_meltsWithKept_22 : decode cX6_meltsWithKept 22 = .ok (.iaload, 1) := by decide +kernel
theorem dX6_meltsWithKept_23 : decode cX6_meltsWithKept 23 = .ok (.iload_n 1, 1) := by decide +kernel
theorem dX6_meltsWithKept_24 : decode cX6_meltsWithKept 24 = .ok (.invokevirtual 77, 3) := by decide +kernel
theorem dX6_meltsWithKept_27 : decode cX6_meltsWithKept 27 = .ok (.aload_n 0, 1) := by decide +kernel
theorem dX6_meltsWithKept_28 : decode cX6_meltsWithKept 28 = .ok (.invokevirtual 81, 3) := by decide +kernel
theorem dX6_meltsWithKept_31 : decode cX6_meltsWithKept 31 = .ok (.ifCond .ne 9, 3) := by decide +kernel
theorem dX6_meltsWithKept_34 : decode cX6_meltsWithKept 34 = .ok (.aload_n 0, 1) := by decide +kernel
theorem dX6_meltsWithKept_35 : decode cX6_meltsWithKept 35 = .ok (.invokevirtual 85, 3) := by decide +kernel
theorem dX6_meltsWithKept_38 : decode cX6_meltsWithKept 38 = .ok (.iconst 1, 1) := by decide +kernel
theorem dX6_meltsWithKept_39 : decode cX6_meltsWithKept 39 = .ok (.ireturn, 1) := by decide +kernel
theorem dX6_meltsWithKept_40 : decode cX6_meltsWithKept 40 = .ok (.aload_n 0, 1) := by decide +kernel
theorem dX6_meltsWithKept_41 : decode cX6_meltsWithKept 41 = .ok (.invokevirtual 88, 3) := by decide +kernel
theorem dX6_meltsWithKept_44 : decode cX6_meltsWithKept 44 = .ok (.iinc 2 1, 3) := by decide +kernel
theorem dX6_meltsWithKept_47 : decode cX6_meltsWithKept 47 = .ok (.goto (-45), 3) := by decide +kernel
theorem dX6_meltsWithKept_50 : decode cX6_meltsWithKept 50 = .ok (.iconst 0, 1) := by decide +kernel
theorem dX6_meltsWithKept_51 : decode cX6_meltsWithKept 51 = .ok (.ireturn, 1) := by decide +kernel
theorem dX6_melt_0 : decode cX6_melt 0 = .ok (.aload_n 0, 1) := by decide +kernel
theorem dX6_melt_1 : decode cX6_melt 1 = .ok (.iconst 0, 1) := by decide +kernel
theorem dX6_melt_2 : decode cX6_melt 2 = .ok (.putfield 91, 3) := by decide +kernel
theorem dX6_melt_5 : decode cX6_melt 5 = .ok (.aload_n 0, 1) := by decide +kernel
theorem dX6_melt_6 : decode cX6_melt 6 = .ok (.iconst 0, 1) := by decide +kernel
theorem dX6_melt_7 : decode cX6_melt 7 = .ok (.putfield 94, 3) := by decide +kernel
theorem dX6_melt_10 : decode cX6_melt 10 = .ok (.aload_n 0, 1) := by decide +kernel
theorem dX6_melt_11 : decode cX6_melt 11 = .ok (.iconst 0, 1) := by decide +kernel
theorem dX6_melt_12 : decode cX6_melt 12 = .ok (.putfield 97, 3) := by decide +kernel
theorem dX6_melt_15 : decode cX6_melt 15 = .ok (.aload_n 0, 1) := by decide +kernel
theorem dX6_melt_16 : decode cX6_melt 16 = .ok (.iload_n 1, 1) := by decide +kernel
theorem dX6_melt_17 : decode cX6_melt 17 = .ok (.iload_n 2, 1) := by decide +kernel
theorem dX6_melt_18 : decode cX6_melt 18 = .ok (.invokevirtual 100, 3) := by decide +kernel
theorem dX6_melt_21 : decode cX6_melt 21 = .ok (.iconst 0, 1) := by decide +kernel
theorem dX6_melt_22 : decode cX6_melt 22 = .ok (.istore_n 3, 1) := by decide +kernel
theorem dX6_melt_23 : decode cX6_melt 23 = .ok (.iload_n 3, 1) := by decide +kernel
theorem dX6_melt_24 : decode cX6_melt 24 = .ok (.sipush 721, 3) := by decide +kernel
theorem dX6_melt_27 : decode cX6_melt 27 = .ok (.if_icmp .ge 93, 3) := by decide +kernel
theorem dX6_melt_30 : decode cX6_melt 30 = .ok (.aload_n 0, 1) := by decide +kernel
theorem dX6_melt_31 : decode cX6_melt 31 = .ok (.getfield 97, 3) := by decide +kernel
theorem dX6_melt_34 : decode cX6_melt 34 = .ok (.ifCond .le 86, 3) := by decide +kernel
theorem dX6_melt_37 : decode cX6_melt 37 = .ok (.aload_n 0, 1) := by decide +kernel
theorem dX6_melt_38 : decode cX6_melt 38 = .ok (.dup, 1) := by decide +kernel
theorem dX6_melt_39 : decode cX6_melt 39 = .ok (.getfield 97, 3) := by decide +kernel
theorem dX6_melt_42 : decode cX6_melt 42 = .ok (.iconst 1, 1) := by decide +kernel
theorem dX6_melt_43 : decode cX6_melt 43 = .ok (.isub, 1) := by decide +kernel
theorem dX6_melt_44 : decode cX6_melt 44 = .ok (.putfield 97, 3) := by decide +kernel
theorem dX6_melt_47 : decode cX6_melt 47 = .ok (.aload_n 0, 1) := by decide +kernel
theorem dX6_melt_48 : decode cX6_melt 48 = .ok (.aload_n 0, 1) := by decide +kernel
theorem dX6_melt_49 : decode cX6_melt 49 = .ok (.getfield 21, 3) := by decide +kernel
theorem dX6_melt_52 : decode cX6_melt 52 = .ok (.aload_n 0, 1) := by decide +kernel
theorem dX6_melt_53 : decode cX6_melt 53 = .ok (.getfield 97, 3) := by decide +kernel
theorem dX6_melt_56 : decode cX6_melt 56 = .ok (.iaload, 1) := by decide +kernel
theorem dX6_melt_57 : decode cX6_melt 57 = .ok (.invokevirtual 69, 3) := by decide +kernel
theorem dX6_melt_60 : decode cX6_melt 60 = .ok (.istore 4, 2) := by decide +kernel
theorem dX6_melt_62 : decode cX6_melt 62 = .ok (.aload_n 0, 1) := by decide +kernel
theorem dX6_melt_63 : decode cX6_melt 63 = .ok (.aload_n 0, 1) := by decide +kernel
theorem dX6_melt_64 : decode cX6_melt 64 = .ok (.getfield 24, 3) := by decide +kernel
theorem dX6_melt_67 : decode cX6_melt 67 = .ok (.aload_n 0, 1) := by decide +kernel
theorem dX6_melt_68 : decode cX6_melt 68 = .ok (.getfield 97, 3) := by decide +kernel
theorem dX6_melt_71 : decode cX6_melt 71 = .ok (.iaload, 1) := by decide +kernel
theorem dX6_melt_72 : decode cX6_melt 72 = .ok (.invokevirtual 69, 3) := by decide +kernel
theorem dX6_melt_75 : decode cX6_melt 75 = .ok (.istore 5, 2) := by decide +kernel
theorem dX6_melt_77 : decode cX6_melt 77 = .ok (.iload 4, 2) := by decide +kernel
theorem dX6_melt_79 : decode cX6_melt 79 = .ok (.iload 5, 2) := by decide +kernel
theorem dX6_melt_81 : decode cX6_melt 81 = .ok (.if_icmp .eq 33, 3) := by decide +kernel
theorem dX6_melt_84 : decode cX6_melt 84 = .ok (.iload 4, 2) := by decide +kernel
theorem dX6_melt_86 : decode cX6_melt 86 = .ok (.iconst (-1), 1) := by decide +kernel
theorem dX6_melt_87 : decode cX6_melt 87 = .ok (.if_icmp .eq 27, 3) := by decide +kernel
theorem dX6_melt_90 : decode cX6_melt 90 = .ok (.iload 5, 2) := by decide +kernel
theorem dX6_melt_92 : decode cX6_melt 92 = .ok (.iconst (-1), 1) := by decide +kernel
theorem dX6_melt_93 : decode cX6_melt 93 = .ok (.if_icmp .eq 21, 3) := by decide +kernel
theorem dX6_melt_96 : decode cX6_melt 96 = .ok (.aload_n 0, 1) := by decide +kernel
theorem dX6_melt_97 : decode cX6_melt 97 = .ok (.iload 4, 2) := by decide +kernel
theorem dX6_melt_99 : decode cX6_melt 99 = .ok (.iload 5, 2) := by decide +kernel
theorem dX6_melt_101 : decode cX6_melt 101 = .ok (.invokestatic 103, 3) := by decide +kernel
theorem dX6_melt_104 : decode cX6_melt 104 = .ok (.iload 4, 2) := by decide +kernel
theorem dX6_melt_106 : decode cX6_melt 106 = .ok (.iload 5, 2) := by decide +kernel
theorem dX6_melt_108 : decode cX6_melt 108 = .ok (.invokestatic 108, 3) := by decide +kernel
theorem dX6_melt_111 : decode cX6_melt 111 = .ok (.invokevirtual 111, 3) := by decide +kernel
theorem dX6_melt_114 : decode cX6_melt 114 = .ok (.iinc 3 1, 3) := by decide +kernel
theorem dX6_melt_117 : decode cX6_melt 117 = .ok (.goto (-94), 3) := by decide +kernel
theorem dX6_melt_120 : decode cX6_melt 120 = .ok (.return_, 1) := by decide +kernel
theorem dX6_addPair_0 : decode cX6_addPair 0 = .ok (.aload_n 0, 1) := by decide +kernel
theorem dX6_addPair_1 : decode cX6_addPair 1 = .ok (.getfield 97, 3) := by decide +kernel
theorem dX6_addPair_4 : decode cX6_addPair 4 = .ok (.ifCond .lt 43, 3) := by decide +kernel
theorem dX6_addPair_7 : decode cX6_addPair 7 = .ok (.aload_n 0, 1) := by decide +kernel
theorem dX6_addPair_8 : decode cX6_addPair 8 = .ok (.getfield 97, 3) := by decide +kernel
theorem dX6_addPair_11 : decode cX6_addPair 11 = .ok (.sipush 721, 3) := by decide +kernel
theorem dX6_addPair_14 : decode cX6_addPair 14 = .ok (.if_icmp .ge 33, 3) := by decide +kernel
theorem dX6_addPair_17 : decode cX6_addPair 17 = .ok (.aload_n 0, 1) := by decide +kernel
theorem dX6_addPair_18 : decode cX6_addPair 18 = .ok (.getfield 21, 3) := by decide +kernel
theorem dX6_addPair_21 : decode cX6_addPair 21 = .ok (.aload_n 0, 1) := by decide +kernel
theorem dX6_addPair_22 : decode cX6_addPair 22 = .ok (.getfield 97, 3) := by decide +kernel
theorem dX6_addPair_25 : decode cX6_addPair 25 = .ok (.iload_n 1, 1) := by decide +kernel
theorem dX6_addPair_26 : decode cX6_addPair 26 = .ok (.iastore, 1) := by decide +kernel
theorem dX6_addPair_27 : decode cX6_addPair 27 = .ok (.aload_n 0, 1) := by decide +kernel
theorem dX6_addPair_28 : decode cX6_addPair 28 = .ok (.getfield 24, 3) := by decide +kernel
theorem dX6_addPair_31 : decode cX6_addPair 31 = .ok (.aload_n 0, 1) := by decide +kernel
theorem dX6_addPair_32 : decode cX6_addPair 32 = .ok (.getfield 97, 3) := by decide +kernel
theorem dX6_addPair_35 : decode cX6_addPair 35 = .ok (.iload_n 2, 1) := by decide +kernel
theorem dX6_addPair_36 : decode cX6_addPair 36 = .ok (.iastore, 1) := by decide +kernel
theorem dX6_addPair_37 : decode cX6_addPair 37 = .ok (.aload_n 0, 1) := by decide +kernel
theorem dX6_addPair_38 : decode cX6_addPair 38 = .ok (.dup, 1) := by decide +kernel
theorem dX6_addPair_39 : decode cX6_addPair 39 = .ok (.getfield 97, 3) := by decide +kernel
theorem dX6_addPair_42 : decode cX6_addPair 42 = .ok (.iconst 1, 1) := by decide +kernel
theorem dX6_addPair_43 : decode cX6_addPair 43 = .ok (.iadd, 1) := by decide +kernel
theorem dX6_addPair_44 : decode cX6_addPair 44 = .ok (.putfield 97, 3) := by decide +kernel
theorem dX6_addPair_47 : decode cX6_addPair 47 = .ok (.return_, 1) := by decide +kernel
theorem dX6_join_0 : decode cX6_join 0 = .ok (.iload_n 1, 1) := by decide +kernel
theorem dX6_join_1 : decode cX6_join 1 = .ok (.ifCond .lt 20, 3) := by decide +kernel
theorem dX6_join_4 : decode cX6_join 4 = .ok (.iload_n 2, 1) := by decide +kernel
theorem dX6_join_5 : decode cX6_join 5 = .ok (.sipush 721, 3) := by decide +kernel
theorem dX6_join_8 : decode cX6_join 8 = .ok (.if_icmp .ge 13, 3) := by decide +kernel
theorem dX6_join_11 : decode cX6_join 11 = .ok (.aload_n 0, 1) := by decide +kernel
theorem dX6_join_12 : decode cX6_join 12 = .ok (.getfield 91, 3) := by decide +kernel
theorem dX6_join_15 : decode cX6_join 15 = .ok (.sipush 721, 3) := by decide +kernel
theorem dX6_join_18 : decode cX6_join 18 = .ok (.if_icmp .lt 4, 3) := by decide +kernel
theorem dX6_join_21 : decode cX6_join 21 = .ok (.return_, 1) := by decide +kernel
theorem dX6_join_22 : decode cX6_join 22 = .ok (.aload_n 0, 1) := by decide +kernel
theorem dX6_join_23 : decode cX6_join 23 = .ok (.getfield 9, 3) := by decide +kernel
theorem dX6_join_26 : decode cX6_join 26 = .ok (.iload_n 2, 1) := by decide +kernel
theorem dX6_join_27 : decode cX6_join 27 = .ok (.iload_n 1, 1) := by decide +kernel
theorem dX6_join_28 : decode cX6_join 28 = .ok (.iastore, 1) := by decide +kernel
theorem dX6_join_29 : decode cX6_join 29 = .ok (.aload_n 0, 1) := by decide +kernel
theorem dX6_join_30 : decode cX6_join 30 = .ok (.getfield 27, 3) := by decide +kernel
theorem dX6_join_33 : decode cX6_join 33 = .ok (.aload_n 0, 1) := by decide +kernel
theorem dX6_join_34 : decode cX6_join 34 = .ok (.getfield 91, 3) := by decide +kernel
theorem dX6_join_37 : decode cX6_join 37 = .ok (.iload_n 2, 1) := by decide +kernel
theorem dX6_join_38 : decode cX6_join 38 = .ok (.iastore, 1) := by decide +kernel
theorem dX6_join_39 : decode cX6_join 39 = .ok (.aload_n 0, 1) := by decide +kernel
theorem dX6_join_40 : decode cX6_join 40 = .ok (.dup, 1) := by decide +kernel
theorem dX6_join_41 : decode cX6_join 41 = .ok (.getfield 91, 3) := by decide +kernel
theorem dX6_join_44 : decode cX6_join 44 = .ok (.iconst 1, 1) := by decide +kernel
theorem dX6_join_45 : decode cX6_join 45 = .ok (.iadd, 1) := by decide +kernel
theorem dX6_join_46 : decode cX6_join 46 = .ok (.putfield 91, 3) := by decide +kernel
theorem dX6_join_49 : decode cX6_join 49 = .ok (.iconst 0, 1) := by decide +kernel
theorem dX6_join_50 : decode cX6_join 50 = .ok (.istore_n 3, 1) := by decide +kernel
theorem dX6_join_51 : decode cX6_join 51 = .ok (.iload_n 3, 1) := by decide +kernel
theorem dX6_join_52 : decode cX6_join 52 = .ok (.bipush 8, 2) := by decide +kernel
theorem dX6_join_54 : decode cX6_join 54 = .ok (.if_icmp .ge 118, 3) := by decide +kernel
theorem dX6_join_57 : decode cX6_join 57 = .ok (.aload_n 0, 1) := by decide +kernel
theorem dX6_join_58 : decode cX6_join 58 = .ok (.getfield 37, 3) := by decide +kernel
theorem dX6_join_61 : decode cX6_join 61 = .ok (.getfield 114, 3) := by decide +kernel
theorem dX6_join_64 : decode cX6_join 64 = .ok (.iload_n 2, 1) := by decide +kernel
theorem dX6_join_65 : decode cX6_join 65 = .ok (.bipush 8, 2) := by decide +kernel
theorem dX6_join_67 : decode cX6_join 67 = .ok (.imul, 1) := by decide +kernel
theorem dX6_join_68 : decode cX6_join 68 = .ok (.iload_n 3, 1) := by decide +kernel
theorem dX6_join_69 : decode cX6_join 69 = .ok (.iadd, 1) := by decide +kernel
theorem dX6_join_70 : decode cX6_join 70 = .ok (.iaload, 1) := by decide +kernel
theorem dX6_join_71 : decode cX6_join 71 = .ok (.istore 4, 2) := by decide +kernel
theorem dX6_join_73 : decode cX6_join 73 = .ok (.iload_n 1, 1) := by decide +kernel
theorem dX6_join_74 : decode cX6_join 74 = .ok (.bipush 8, 2) := by decide +kernel
theorem dX6_join_76 : decode cX6_join 76 = .ok (.imul, 1) := by decide +kernel
theorem dX6_join_77 : decode cX6_join 77 = .ok (.iload_n 3, 1) := by decide +kernel
theorem dX6_join_78 : decode cX6_join 78 = .ok (.iadd, 1) := by decide +kernel
theorem dX6_join_79 : decode cX6_join 79 = .ok (.istore 5, 2) := by decide +kernel
theorem dX6_join_81 : decode cX6_join 81 = .ok (.iload 4, 2) := by decide +kernel
theorem dX6_join_83 : decode cX6_join 83 = .ok (.iconst (-1), 1) := by decide +kernel
theorem dX6_join_84 : decode cX6_join 84 = .ok (.if_icmp .ne 6, 3) := by decide +kernel
theorem dX6_join_87 : decode cX6_join 87 = .ok (.goto 79, 3) := by decide +kernel
theorem dX6_join_90 : decode cX6_join 90 = .ok (.aload_n 0, 1) := by decide +kernel
theorem dX6_join_91 : decode cX6_join 91 = .ok (.getfield 37, 3) := by decide +kernel
theorem dX6_join_94 : decode cX6_join 94 = .ok (.getfield 114, 3) := by decide +kernel
theorem dX6_join_97 : decode cX6_join 97 = .ok (.iload 5, 2) := by decide +kernel
theorem dX6_join_99 : decode cX6_join 99 = .ok (.iaload, 1) := by decide +kernel
theorem dX6_join_100 : decode cX6_join 100 = .ok (.iconst (-1), 1) := by decide +kernel
theorem dX6_join_101 : decode cX6_join 101 = .ok (.if_icmp .eq 22, 3) := by decide +kernel
theorem dX6_join_104 : decode cX6_join 104 = .ok (.aload_n 0, 1) := by decide +kernel
theorem dX6_join_105 : decode cX6_join 105 = .ok (.iload 4, 2) := by decide +kernel
theorem dX6_join_107 : decode cX6_join 107 = .ok (.aload_n 0, 1) := by decide +kernel
theorem dX6_join_108 : decode cX6_join 108 = .ok (.getfield 37, 3) := by decide +kernel
theorem dX6_join_111 : decode cX6_join 111 = .ok (.getfield 114, 3) := by decide +kernel
theorem dX6_join_114 : decode cX6_join 114 = .ok (.iload 5, 2) := by decide +kernel
theorem dX6_join_116 : decode cX6_join 116 = .ok (.iaload, 1) := by decide +kernel
theorem dX6_join_117 : decode cX6_join 117 = .ok (.invokevirtual 100, 3) := by decide +kernel
theorem dX6_join_120 : decode cX6_join 120 = .ok (.goto 46, 3) := by decide +kernel
theorem dX6_join_123 : decode cX6_join 123 = .ok (.aload_n 0, 1) := by decide +kernel
theorem dX6_join_124 : decode cX6_join 124 = .ok (.getfield 94, 3) := by decide +kernel
theorem dX6_join_127 : decode cX6_join 127 = .ok (.sipush 5768, 3) := by decide +kernel
theorem dX6_join_130 : decode cX6_join 130 = .ok (.if_icmp .ge 36, 3) := by decide +kernel
theorem dX6_join_133 : decode cX6_join 133 = .ok (.aload_n 0, 1) := by decide +kernel
theorem dX6_join_134 : decode cX6_join 134 = .ok (.getfield 37, 3) := by decide +kernel
theorem dX6_join_137 : decode cX6_join 137 = .ok (.getfield 114, 3) := by decide +kernel
theorem dX6_join_140 : decode cX6_join 140 = .ok (.iload 5, 2) := by decide +kernel
theorem dX6_join_142 : decode cX6_join 142 = .ok (.iload 4, 2) := by decide +kernel
theorem dX6_join_144 : decode cX6_join 144 = .ok (.iastore, 1) := by decide +kernel
theorem dX6_join_145 : decode cX6_join 145 = .ok (.aload_n 0, 1) := by decide +kernel
theorem dX6_join_146 : decode cX6_join 146 = .ok (.getfield 30, 3) := by decide +kernel
theorem dX6_join_149 : decode cX6_join 149 = .ok (.aload_n 0, 1) := by decide +kernel
theorem dX6_join_150 : decode cX6_join 150 = .ok (.getfield 94, 3) := by decide +kernel
theorem dX6_join_153 : decode cX6_join 153 = .ok (.iload 5, 2) := by decide +kernel
theorem dX6_join_155 : decode cX6_join 155 = .ok (.iastore, 1) := by decide +kernel
theorem dX6_join_156 : decode cX6_join 156 = .ok (.aload_n 0, 1) := by decide +kernel
theorem dX6_join_157 : decode cX6_join 157 = .ok (.dup, 1) := by decide +kernel
theorem dX6_join_158 : decode cX6_join 158 = .ok (.getfield 94, 3) := by decide +kernel
theorem dX6_join_161 : decode cX6_join 161 = .ok (.iconst 1, 1) := by decide +kernel
theorem dX6_join_162 : decode cX6_join 162 = .ok (.iadd, 1) := by decide +kernel
theorem dX6_join_163 : decode cX6_join 163 = .ok (.putfield 94, 3) := by decide +kernel
theorem dX6_join_166 : decode cX6_join 166 = .ok (.iinc 3 1, 3) := by decide +kernel
theorem dX6_join_169 : decode cX6_join 169 = .ok (.goto (-118), 3) := by decide +kernel
theorem dX6_join_172 : decode cX6_join 172 = .ok (.return_, 1) := by decide +kernel
theorem dX6_takeBack_0 : decode cX6_takeBack 0 = .ok (.iconst 0, 1) := by decide +kernel
theorem dX6_takeBack_1 : decode cX6_takeBack 1 = .ok (.istore_n 1, 1) := by decide +kernel
theorem dX6_takeBack_2 : decode cX6_takeBack 2 = .ok (.iload_n 1, 1) := by decide +kernel
theorem dX6_takeBack_3 : decode cX6_takeBack 3 = .ok (.aload_n 0, 1) := by decide +kernel
theorem dX6_takeBack_4 : decode cX6_takeBack 4 = .ok (.getfield 94, 3) := by decide +kernel
theorem dX6_takeBack_7 : decode cX6_takeBack 7 = .ok (.if_icmp .ge 37, 3) := by decide +kernel
theorem dX6_takeBack_10 : decode cX6_takeBack 10 = .ok (.aload_n 0, 1) := by decide +kernel
theorem dX6_takeBack_11 : decode cX6_takeBack 11 = .ok (.getfield 30, 3) := by decide +kernel
theorem dX6_takeBack_14 : decode cX6_takeBack 14 = .ok (.iload_n 1, 1) := by decide +kernel
theorem dX6_takeBack_15 : decode cX6_takeBack 15 = .ok (.iaload, 1) := by decide +kernel
theorem dX6_takeBack_16 : decode cX6_takeBack 16 = .ok (.istore_n 2, 1) := by decide +kernel
theorem dX6_takeBack_17 : decode cX6_takeBack 17 = .ok (.iload_n 2, 1) := by decide +kernel
theorem dX6_takeBack_18 : decode cX6_takeBack 18 = .ok (.ifCond .lt 20, 3) := by decide +kernel
theorem dX6_takeBack_21 : decode cX6_takeBack 21 = .ok (.iload_n 2, 1) := by decide +kernel
theorem dX6_takeBack_22 : decode cX6_takeBack 22 = .ok (.sipush 5768, 3) := by decide +kernel
theorem dX6_takeBack_25 : decode cX6_takeBack 25 = .ok (.if_icmp .ge 13, 3) := by decide +kernel
theorem dX6_takeBack_28 : decode cX6_takeBack 28 = .ok (.aload_n 0, 1) := by decide +kernel
theorem dX6_takeBack_29 : decode cX6_takeBack 29 = .ok (.getfield 37, 3) := by decide +kernel
theorem dX6_takeBack_32 : decode cX6_takeBack 32 = .ok (.getfield 114, 3) := by decide +kernel
theorem dX6_takeBack_35 : decode cX6_takeBack 35 = .ok (.iload_n 2, 1) := by decide +kernel
theorem dX6_takeBack_36 : decode cX6_takeBack 36 = .ok (.iconst (-1), 1) := by decide +kernel
theorem dX6_takeBack_37 : decode cX6_takeBack 37 = .ok (.iastore, 1) := by decide +kernel
theorem dX6_takeBack_38 : decode cX6_takeBack 38 = .ok (.iinc 1 1, 3) := by decide +kernel
theorem dX6_takeBack_41 : decode cX6_takeBack 41 = .ok (.goto (-39), 3) := by decide +kernel
theorem dX6_takeBack_44 : decode cX6_takeBack 44 = .ok (.iconst 0, 1) := by decide +kernel
theorem dX6_takeBack_45 : decode cX6_takeBack 45 = .ok (.istore_n 1, 1) := by decide +kernel
theorem dX6_takeBack_46 : decode cX6_takeBack 46 = .ok (.iload_n 1, 1) := by decide +kernel
theorem dX6_takeBack_47 : decode cX6_takeBack 47 = .ok (.aload_n 0, 1) := by decide +kernel
theorem dX6_takeBack_48 : decode cX6_takeBack 48 = .ok (.getfield 91, 3) := by decide +kernel
theorem dX6_takeBack_51 : decode cX6_takeBack 51 = .ok (.if_icmp .ge 34, 3) := by decide +kernel
theorem dX6_takeBack_54 : decode cX6_takeBack 54 = .ok (.aload_n 0, 1) := by decide +kernel
theorem dX6_takeBack_55 : decode cX6_takeBack 55 = .ok (.getfield 27, 3) := by decide +kernel
theorem dX6_takeBack_58 : decode cX6_takeBack 58 = .ok (.iload_n 1, 1) := by decide +kernel
theorem dX6_takeBack_59 : decode cX6_takeBack 59 = .ok (.iaload, 1) := by decide +kernel
theorem dX6_takeBack_60 : decode cX6_takeBack 60 = .ok (.istore_n 2, 1) := by decide +kernel
theorem dX6_takeBack_61 : decode cX6_takeBack 61 = .ok (.iload_n 2, 1) := by decide +kernel
theorem dX6_takeBack_62 : decode cX6_takeBack 62 = .ok (.ifCond .lt 17, 3) := by decide +kernel
theorem dX6_takeBack_65 : decode cX6_takeBack 65 = .ok (.iload_n 2, 1) := by decide +kernel
theorem dX6_takeBack_66 : decode cX6_takeBack 66 = .ok (.sipush 721, 3) := by decide +kernel
theorem dX6_takeBack_69 : decode cX6_takeBack 69 = .ok (.if_icmp .ge 10, 3) := by decide +kernel
theorem dX6_takeBack_72 : decode cX6_takeBack 72 = .ok (.aload_n 0, 1) := by decide +kernel
theorem dX6_takeBack_73 : decode cX6_takeBack 73 = .ok (.getfield 9, 3) := by decide +kernel
theorem dX6_takeBack_76 : decode cX6_takeBack 76 = .ok (.iload_n 2, 1) := by decide +kernel
theorem dX6_takeBack_77 : decode cX6_takeBack 77 = .ok (.iload_n 2, 1) := by decide +kernel
theorem dX6_takeBack_78 : decode cX6_takeBack 78 = .ok (.iastore, 1) := by decide +kernel
theorem dX6_takeBack_79 : decode cX6_takeBack 79 = .ok (.iinc 1 1, 3) := by decide +kernel
theorem dX6_takeBack_82 : decode cX6_takeBack 82 = .ok (.goto (-36), 3) := by decide +kernel
theorem dX6_takeBack_85 : decode cX6_takeBack 85 = .ok (.return_, 1) := by decide +kernel
theorem dX6_shortenWays_0 : decode cX6_shortenWays 0 = .ok (.iconst 0, 1) := by decide +kernel
theorem dX6_shortenWays_1 : decode cX6_shortenWays 1 = .ok (.istore_n 1, 1) := by decide +kernel
theorem dX6_shortenWays_2 : decode cX6_shortenWays 2 = .ok (.iload_n 1, 1) := by decide +kernel
theorem dX6_shortenWays_3 : decode cX6_shortenWays 3 = .ok (.aload_n 0, 1) := by decide +kernel
theorem dX6_shortenWays_4 : decode cX6_shortenWays 4 = .ok (.getfield 37, 3) := by decide +kernel
theorem dX6_shortenWays_7 : decode cX6_shortenWays 7 = .ok (.getfield 46, 3) := by decide +kernel
theorem dX6_shortenWays_10 : decode cX6_shortenWays 10 = .ok (.if_icmp .ge 27, 3) := by decide +kernel
theorem dX6_shortenWays_13 : decode cX6_shortenWays 13 = .ok (.iload_n 1, 1) := by decide +kernel
theorem dX6_shortenWays_14 : decode cX6_shortenWays 14 = .ok (.sipush 721, 3) := by decide +kernel
theorem dX6_shortenWays_17 : decode cX6_shortenWays 17 = .ok (.if_icmp .ge 20, 3) := by decide +kernel
theorem dX6_shortenWays_20 : decode cX6_shortenWays 20 = .ok (.aload_n 0, 1) := by decide +kernel
theorem dX6_shortenWays_21 : decode cX6_shortenWays 21 = .ok (.getfield 9, 3) := by decide +kernel
theorem dX6_shortenWays_24 : decode cX6_shortenWays 24 = .ok (.iload_n 1, 1) := by decide +kernel
theorem dX6_shortenWays_25 : decode cX6_shortenWays 25 = .ok (.aload_n 0, 1) := by decide +kernel
theorem dX6_shortenWays_26 : decode cX6_shortenWays 26 = .ok (.iload_n 1, 1) := by decide +kernel
theorem dX6_shortenWays_27 : decode cX6_shortenWays 27 = .ok (.invokevirtual 69, 3) := by decide +kernel
theorem dX6_shortenWays_30 : decode cX6_shortenWays 30 = .ok (.iastore, 1) := by decide +kernel
theorem dX6_shortenWays_31 : decode cX6_shortenWays 31 = .ok (.iinc 1 1, 3) := by decide +kernel
theorem dX6_shortenWays_34 : decode cX6_shortenWays 34 = .ok (.goto (-32), 3) := by decide +kernel
theorem dX6_shortenWays_37 : decode cX6_shortenWays 37 = .ok (.return_, 1) := by decide +kernel
theorem dX6_standing_0 : decode cX6_standing 0 = .ok (.iload_n 1, 1) := by decide +kernel
theorem dX6_standing_1 : decode cX6_standing 1 = .ok (.istore_n 2, 1) := by decide +kernel
theorem dX6_standing_2 : decode cX6_standing 2 = .ok (.iconst 0, 1) := by decide +kernel
theorem dX6_standing_3 : decode cX6_standing 3 = .ok (.istore_n 3, 1) := by decide +kernel
theorem dX6_standing_4 : decode cX6_standing 4 = .ok (.iload_n 3, 1) := by decide +kernel
theorem dX6_standing_5 : decode cX6_standing 5 = .ok (.sipush 721, 3) := by decide +kernel
theorem dX6_standing_8 : decode cX6_standing 8 = .ok (.if_icmp .ge 40, 3) := by decide +kernel
theorem dX6_standing_11 : decode cX6_standing 11 = .ok (.iload_n 2, 1) := by decide +kernel
theorem dX6_standing_12 : decode cX6_standing 12 = .ok (.ifCond .lt 36, 3) := by decide +kernel
theorem dX6_standing_15 : decode cX6_standing 15 = .ok (.iload_n 2, 1) := by decide +kernel
theorem dX6_standing_16 : decode cX6_standing 16 = .ok (.sipush 721, 3) := by decide +kernel
theorem dX6_standing_19 : decode cX6_standing 19 = .ok (.if_icmp .ge 29, 3) := by decide +kernel
theorem dX6_standing_22 : decode cX6_standing 22 = .ok (.aload_n 0, 1) := by decide +kernel
theorem dX6_standing_23 : decode cX6_standing 23 = .ok (.getfield 9, 3) := by decide +kernel
theorem dX6_standing_26 : decode cX6_standing 26 = .ok (.iload_n 2, 1) := by decide +kernel
theorem dX6_standing_27 : decode cX6_standing 27 = .ok (.iaload, 1) := by decide +kernel
theorem dX6_standing_28 : decode cX6_standing 28 = .ok (.iload_n 2, 1) := by decide +kernel
theorem dX6_standing_29 : decode cX6_standing 29 = .ok (.if_icmp .ne 6, 3) := by decide +kernel
theorem dX6_standing_32 : decode cX6_standing 32 = .ok (.goto 16, 3) := by decide +kernel
theorem dX6_standing_35 : decode cX6_standing 35 = .ok (.aload_n 0, 1) := by decide +kernel
theorem dX6_standing_36 : decode cX6_standing 36 = .ok (.getfield 9, 3) := by decide +kernel
theorem dX6_standing_39 : decode cX6_standing 39 = .ok (.iload_n 2, 1) := by decide +kernel
theorem dX6_standing_40 : decode cX6_standing 40 = .ok (.iaload, 1) := by decide +kernel
theorem dX6_standing_41 : decode cX6_standing 41 = .ok (.istore_n 2, 1) := by decide +kernel
theorem dX6_standing_42 : decode cX6_standing 42 = .ok (.iinc 3 1, 3) := by decide +kernel
theorem dX6_standing_45 : decode cX6_standing 45 = .ok (.goto (-41), 3) := by decide +kernel
theorem dX6_standing_48 : decode cX6_standing 48 = .ok (.iload_n 2, 1) := by decide +kernel
theorem dX6_standing_49 : decode cX6_standing 49 = .ok (.ifCond .lt 14, 3) := by decide +kernel
theorem dX6_standing_52 : decode cX6_standing 52 = .ok (.iload_n 2, 1) := by decide +kernel
theorem dX6_standing_53 : decode cX6_standing 53 = .ok (.sipush 721, 3) := by decide +kernel
theorem dX6_standing_56 : decode cX6_standing 56 = .ok (.if_icmp .ge 7, 3) := by decide +kernel
theorem dX6_standing_59 : decode cX6_standing 59 = .ok (.iload_n 2, 1) := by decide +kernel
theorem dX6_standing_60 : decode cX6_standing 60 = .ok (.goto 4, 3) := by decide +kernel
theorem dX6_standing_63 : decode cX6_standing 63 = .ok (.iconst (-1), 1) := by decide +kernel
theorem dX6_standing_64 : decode cX6_standing 64 = .ok (.ireturn, 1) := by decide +kernel
theorem dX6_takesBindingRow_0 : decode cX6_takesBindingRow 0 = .ok (.iconst 0, 1) := by decide +kernel
theorem dX6_takesBindingRow_1 : decode cX6_takesBindingRow 1 = .ok (.istore_n 1, 1) := by decide +kernel
theorem dX6_takesBindingRow_2 : decode cX6_takesBindingRow 2 = .ok (.iload_n 1, 1) := by decide +kernel
theorem dX6_takesBindingRow_3 : decode cX6_takesBindingRow 3 = .ok (.aload_n 0, 1) := by decide +kernel
theorem dX6_takesBindingRow_4 : decode cX6_takesBindingRow 4 = .ok (.getfield 33, 3) := by decide +kernel
theorem dX6_takesBindingRow_7 : decode cX6_takesBindingRow 7 = .ok (.getfield 117, 3) := by decide +kernel
theorem dX6_takesBindingRow_10 : decode cX6_takesBindingRow 10 = .ok (.if_icmp .ge 33, 3) := by decide +kernel
theorem dX6_takesBindingRow_13 : decode cX6_takesBindingRow 13 = .ok (.iload_n 1, 1) := by decide +kernel
theorem dX6_takesBindingRow_14 : decode cX6_takesBindingRow 14 = .ok (.bipush 60, 2) := by decide +kernel
theorem dX6_takesBindingRow_16 : decode cX6_takesBindingRow 16 = .ok (.if_icmp .ge 27, 3) := by decide +kernel
theorem dX6_takesBindingRow_19 : decode cX6_takesBindingRow 19 = .ok (.aload_n 0, 1) := by decide +kernel
theorem dX6_takesBindingRow_20 : decode cX6_takesBindingRow 20 = .ok (.aload_n 0, 1) := by decide +kernel
theorem dX6_takesBindingRow_21 : decode cX6_takesBindingRow 21 = .ok (.getfield 33, 3) := by decide +kernel
theorem dX6_takesBindingRow_24 : decode cX6_takesBindingRow 24 = .ok (.getfield 120, 3) := by decide +kernel
theorem dX6_takesBindingRow_27 : decode cX6_takesBindingRow 27 = .ok (.iload_n 1, 1) := by decide +kernel
theorem dX6_takesBindingRow_28 : decode cX6_takesBindingRow 28 = .ok (.iaload, 1) := by decide +kernel
theorem dX6_takesBindingRow_29 : decode cX6_takesBindingRow 29 = .ok (.invokevirtual 123, 3) := by decide +kernel
theorem dX6_takesBindingRow_32 : decode cX6_takesBindingRow 32 = .ok (.ifCond .eq 5, 3) := by decide +kernel
theorem dX6_takesBindingRow_35 : decode cX6_takesBindingRow 35 = .ok (.iconst 1, 1) := by decide +kernel
theorem dX6_takesBindingRow_36 : decode cX6_takesBindingRow 36 = .ok (.ireturn, 1) := by decide +kernel
theorem dX6_takesBindingRow_37 : decode cX6_takesBindingRow 37 = .ok (.iinc 1 1, 3) := by decide +kernel
theorem dX6_takesBindingRow_40 : decode cX6_takesBindingRow 40 = .ok (.goto (-38), 3) := by decide +kernel
theorem dX6_takesBindingRow_43 : decode cX6_takesBindingRow 43 = .ok (.iconst 0, 1) := by decide +kernel
theorem dX6_takesBindingRow_44 : decode cX6_takesBindingRow 44 = .ok (.ireturn, 1) := by decide +kernel
theorem dX6_takesRow_0 : decode cX6_takesRow 0 = .ok (.iconst 0, 1) := by decide +kernel
theorem dX6_takesRow_1 : decode cX6_takesRow 1 = .ok (.istore_n 2, 1) := by decide +kernel
theorem dX6_takesRow_2 : decode cX6_takesRow 2 = .ok (.aload_n 0, 1) := by decide +kernel
theorem dX6_takesRow_3 : decode cX6_takesRow 3 = .ok (.getfield 33, 3) := by decide +kernel
theorem dX6_takesRow_6 : decode cX6_takesRow 6 = .ok (.iload_n 1, 1) := by decide +kernel
theorem dX6_takesRow_7 : decode cX6_takesRow 7 = .ok (.invokevirtual 126, 3) := by decide +kernel
theorem dX6_takesRow_10 : decode cX6_takesRow 10 = .ok (.istore_n 3, 1) := by decide +kernel
theorem dX6_takesRow_11 : decode cX6_takesRow 11 = .ok (.iconst 0, 1) := by decide +kernel
theorem dX6_takesRow_12 : decode cX6_takesRow 12 = .ok (.istore 4, 2) := by decide +kernel
theorem dX6_takesRow_14 : decode cX6_takesRow 14 = .ok (.iload 4, 2) := by decide +kernel
theorem dX6_takesRow_16 : decode cX6_takesRow 16 = .ok (.iload_n 3, 1) := by decide +kernel
theorem dX6_takesRow_17 : decode cX6_takesRow 17 = .ok (.if_icmp .ge 39, 3) := by decide +kernel
theorem dX6_takesRow_20 : decode cX6_takesRow 20 = .ok (.aload_n 0, 1) := by decide +kernel
theorem dX6_takesRow_21 : decode cX6_takesRow 21 = .ok (.aload_n 0, 1) := by decide +kernel
theorem dX6_takesRow_22 : decode cX6_takesRow 22 = .ok (.getfield 37, 3) := by decide +kernel
theorem dX6_takesRow_25 : decode cX6_takesRow 25 = .ok (.iload_n 2, 1) := by decide +kernel
theorem dX6_takesRow_26 : decode cX6_takesRow 26 = .ok (.aload_n 0, 1) := by decide +kernel
theorem dX6_takesRow_27 : decode cX6_takesRow 27 = .ok (.getfield 33, 3) := by decide +kernel
theorem dX6_takesRow_30 : decode cX6_takesRow 30 = .ok (.iload_n 1, 1) := by decide +kernel
theorem dX6_takesRow_31 : decode cX6_takesRow 31 = .ok (.iload 4, 2) := by decide +kernel
theorem dX6_takesRow_33 : decode cX6_takesRow 33 = .ok (.invokevirtual 129, 3) := by decide +kernel
theorem dX6_takesRow_36 : decode cX6_takesRow 36 = .ok (.invokevirtual 65, 3) := by decide +kernel
theorem dX6_takesRow_39 : decode cX6_takesRow 39 = .ok (.invokevirtual 69, 3) := by decide +kernel
theorem dX6_takesRow_42 : decode cX6_takesRow 42 = .ok (.istore_n 2, 1) := by decide +kernel
theorem dX6_takesRow_43 : decode cX6_takesRow 43 = .ok (.iload_n 2, 1) := by decide +kernel
theorem dX6_takesRow_44 : decode cX6_takesRow 44 = .ok (.iconst (-1), 1) := by decide +kernel
theorem dX6_takesRow_45 : decode cX6_takesRow 45 = .ok (.if_icmp .ne 5, 3) := by decide +kernel
theorem dX6_takesRow_48 : decode cX6_takesRow 48 = .ok (.iconst 0, 1) := by decide +kernel
theorem dX6_takesRow_49 : decode cX6_takesRow 49 = .ok (.ireturn, 1) := by decide +kernel
theorem dX6_takesRow_50 : decode cX6_takesRow 50 = .ok (.iinc 4 1, 3) := by decide +kernel
theorem dX6_takesRow_53 : decode cX6_takesRow 53 = .ok (.goto (-39), 3) := by decide +kernel
theorem dX6_takesRow_56 : decode cX6_takesRow 56 = .ok (.iconst 1, 1) := by decide +kernel
theorem dX6_takesRow_57 : decode cX6_takesRow 57 = .ok (.ireturn, 1) := by decide +kernel
theorem dX7_init_0 : decode cX7_init 0 = .ok (.aload_n 0, 1) := by decide +kernel
theorem dX7_init_1 : decode cX7_init 1 = .ok (.invokespecial 3, 3) := by decide +kernel
theorem dX7_init_4 : decode cX7_init 4 = .ok (.aload_n 0, 1) := by decide +kernel
theorem dX7_init_5 : decode cX7_init 5 = .ok (.sipush 390, 3) := by decide +kernel
theorem dX7_init_8 : decode cX7_init 8 = .ok (.newarray .int, 2) := by decide +kernel
theorem dX7_init_10 : decode cX7_init 10 = .ok (.putfield 9, 3) := by decide +kernel
theorem dX7_init_13 : decode cX7_init 13 = .ok (.aload_n 0, 1) := by decide +kernel
theorem dX7_init_14 : decode cX7_init 14 = .ok (.new 15, 3) := by decide +kernel
theorem dX7_init_17 : decode cX7_init 17 = .ok (.dup, 1) := by decide +kernel
theorem dX7_init_18 : decode cX7_init 18 = .ok (.bipush 24, 2) := by decide +kernel
theorem dX7_init_20 : decode cX7_init 20 = .ok (.invokespecial 17, 3) := by decide +kernel
theorem dX7_init_23 : decode cX7_init 23 = .ok (.putfield 20, 3) := by decide +kernel
theorem dX7_init_26 : decode cX7_init 26 = .ok (.aload_n 0, 1) := by decide +kernel
theorem dX7_init_27 : decode cX7_init 27 = .ok (.aload_n 1, 1) := by decide +kernel
theorem dX7_init_28 : decode cX7_init 28 = .ok (.putfield 24, 3) := by decide +kernel
theorem dX7_init_31 : decode cX7_init 31 = .ok (.aload_n 0, 1) := by decide +kernel
theorem dX7_init_32 : decode cX7_init 32 = .ok (.aload_n 2, 1) := by decide +kernel
theorem dX7_init_33 : decode cX7_init 33 = .ok (.putfield 27, 3) := by decide +kernel
theorem dX7_init_36 : decode cX7_init 36 = .ok (.return_, 1) := by decide +kernel
theorem dX7_mendHand_0 : decode cX7_mendHand 0 = .ok (.aload_n 0, 1) := by decide +kernel
theorem dX7_mendHand_1 : decode cX7_mendHand 1 = .ok (.invokevirtual 31, 3) := by decide +kernel
theorem dX7_mendHand_4 : decode cX7_mendHand 4 = .ok (.aload_n 0, 1) := by decide +kernel
theorem dX7_mendHand_5 : decode cX7_mendHand 5 = .ok (.invokevirtual 34, 3) := by decide +kernel
theorem dX7_mendHand_8 : decode cX7_mendHand 8 = .ok (.aload_n 0, 1) := by decide +kernel
theorem dX7_mendHand_9 : decode cX7_mendHand 9 = .ok (.getfield 20, 3) := by decide +kernel
theorem dX7_mendHand_12 : decode cX7_mendHand 12 = .ok (.getfield 37, 3) := by decide +kernel
theorem dX7_mendHand_15 : decode cX7_mendHand 15 = .ok (.bipush 12, 2) := by decide +kernel
theorem dX7_mendHand_17 : decode cX7_mendHand 17 = .ok (.if_icmp .le 5, 3) := by decide +kernel
theorem dX7_mendHand_20 : decode cX7_mendHand 20 = .ok (.iconst (-1), 1) := by decide +kernel
theorem dX7_mendHand_21 : decode cX7_mendHand 21 = .ok (.ireturn, 1) := by decide +kernel
theorem dX7_mendHand_22 : decode cX7_mendHand 22 = .ok (.aload_n 0, 1) := by decide +kernel
theorem dX7_mendHand_23 : decode cX7_mendHand 23 = .ok (.iconst 0, 1) := by decide +kernel
theorem dX7_mendHand_24 : decode cX7_mendHand 24 = .ok (.iconst 0, 1) := by decide +kernel
theorem dX7_mendHand_25 : decode cX7_mendHand 25 = .ok (.invokevirtual 41, 3) := by decide +kernel
theorem dX7_mendHand_28 : decode cX7_mendHand 28 = .ok (.istore_n 1, 1) := by decide +kernel
theorem dX7_mendHand_29 : decode cX7_mendHand 29 = .ok (.aload_n 0, 1) := by decide +kernel
theorem dX7_mendHand_30 : decode cX7_mendHand 30 = .ok (.getfield 24, 3) := by decide +kernel
theorem dX7_mendHand_33 : decode cX7_mendHand 33 = .ok (.iconst 0, 1) := by decide +kernel
theorem dX7_mendHand_34 : decode cX7_mendHand 34 = .ok (.putfield 37, 3) := by decide +kernel
theorem dX7_mendHand_37 : decode cX7_mendHand 37 = .ok (.iconst 0, 1) := by decide +kernel
theorem dX7_mendHand_38 : decode cX7_mendHand 38 = .ok (.istore_n 2, 1) := by decide +kernel
theorem dX7_mendHand_39 : decode cX7_mendHand 39 = .ok (.iload_n 2, 1) := by decide +kernel
theorem dX7_mendHand_40 : decode cX7_mendHand 40 = .ok (.aload_n 0, 1) := by decide +kernel
theorem dX7_mendHand_41 : decode cX7_mendHand 41 = .ok (.getfield 20, 3) := by decide +kernel
theorem dX7_mendHand_44 : decode cX7_mendHand 44 = .ok (.getfield 37, 3) := by decide +kernel
theorem dX7_mendHand_47 : decode cX7_mendHand 47 = .ok (.if_icmp .ge 25, 3) := by decide +kernel
theorem dX7_mendHand_50 : decode cX7_mendHand 50 = .ok (.aload_n 0, 1) := by decide +kernel
theorem dX7_mendHand_51 : decode cX7_mendHand 51 = .ok (.getfield 24, 3) := by decide +kernel
theorem dX7_mendHand_54 : decode cX7_mendHand 54 = .ok (.aload_n 0, 1) := by decide +kernel
theorem dX7_mendHand_55 : decode cX7_mendHand 55 = .ok (.getfield 20, 3) := by decide +kernel
theorem dX7_mendHand_58 : decode cX7_mendHand 58 = .ok (.iload_n 2, 1) := by decide +kernel
theorem dX7_mendHand_59 : decode cX7_mendHand 59 = .ok (.invokevirtual 45, 3) := by decide +kernel
theorem dX7_mendHand_62 : decode cX7_mendHand 62 = .ok (.invokevirtual 49, 3) := by decide +kernel
theorem dX7_mendHand_65 : decode cX7_mendHand 65 = .ok (.pop, 1) := by decide +kernel
theorem dX7_mendHand_66 : decode cX7_mendHand 66 = .ok (.iinc 2 1, 3) := by decide +kernel
theorem dX7_mendHand_69 : decode cX7_mendHand 69 = .ok (.goto (-30), 3) := by decide +kernel
theorem dX7_mendHand_72 : decode cX7_mendHand 72 = .ok (.iload_n 1, 1) := by decide +kernel
theorem dX7_mendHand_73 : decode cX7_mendHand 73 = .ok (.ireturn, 1) := by decide +kernel
theorem dX7_costFrom_0 : decode cX7_costFrom 0 = .ok (.iload_n 1, 1) := by decide +kernel
theorem dX7_costFrom_1 : decode cX7_costFrom 1 = .ok (.ifCond .lt 19, 3) := by decide +kernel
theorem dX7_costFrom_4 : decode cX7_costFrom 4 = .ok (.iload_n 1, 1) := by decide +kernel
theorem dX7_costFrom_5 : decode cX7_costFrom 5 = .ok (.bipush 12, 2) := by decide +kernel
theorem dX7_costFrom_7 : decode cX7_costFrom 7 = .ok (.if_icmp .gt 13, 3) := by decide +kernel
theorem dX7_costFrom_10 : decode cX7_costFrom 10 = .ok (.iload_n 2, 1) := by decide +kernel
theorem dX7_costFrom_11 : decode cX7_costFrom 11 = .ok (.ifCond .lt 9, 3) := by decide +kernel
theorem dX7_costFrom_14 : decode cX7_costFrom 14 = .ok (.iload_n 2, 1) := by decide +kernel
theorem dX7_costFrom_15 : decode cX7_costFrom 15 = .ok (.bipush 30, 2) := by decide +kernel
theorem dX7_costFrom_17 : decode cX7_costFrom 17 = .ok (.if_icmp .lt 6, 3) := by decide +kernel
theorem dX7_costFrom_20 : decode cX7_costFrom 20 = .ok (.bipush 13, 2) := by decide +kernel
theorem dX7_costFrom_22 : decode cX7_costFrom 22 = .ok (.ireturn, 1) := by decide +kernel
theorem dX7_costFrom_23 : decode cX7_costFrom 23 = .ok (.aload_n 0, 1) := by decide +kernel
theorem dX7_costFrom_24 : decode cX7_costFrom 24 = .ok (.getfield 9, 3) := by decide +kernel
theorem dX7_costFrom_27 : decode cX7_costFrom 27 = .ok (.iload_n 1, 1) := by decide +kernel
theorem dX7_costFrom_28 : decode cX7_costFrom 28 = .ok (.bipush 30, 2) := by decide +kernel
theorem dX7_costFrom_30 : decode cX7_costFrom 30 = .ok (.imul, 1) := by decide +kernel
theorem dX7_costFrom_31 : decode cX7_costFrom 31 = .ok (.iload_n 2, 1) := by decide +kernel
theorem dX7_costFrom_32 : decode cX7_costFrom 32 = .ok (.iadd, 1) := by decide +kernel
theorem dX7_costFrom_33 : decode cX7_costFrom 33 = .ok (.iaload, 1) := by decide +kernel
theorem dX7_costFrom_34 : decode cX7_costFrom 34 = .ok (.ireturn, 1) := by decide +kernel
theorem dX7_reckonCosts_0 : decode cX7_reckonCosts 0 = .ok (.aload_n 0, 1) := by decide +kernel
theorem dX7_reckonCosts_1 : decode cX7_reckonCosts 1 = .ok (.getfield 9, 3) := by decide +kernel
theorem dX7_reckonCosts_4 : decode cX7_reckonCosts 4 = .ok (.iconst 0, 1) := by decide +kernel
theorem dX7_reckonCosts_5 : decode cX7_reckonCosts 5 = .ok (.invokestatic 53, 3) := by decide +kernel
theorem dX7_reckonCosts_8 : decode cX7_reckonCosts 8 = .ok (.aload_n 0, 1) := by decide +kernel
theorem dX7_reckonCosts_9 : decode cX7_reckonCosts 9 = .ok (.getfield 24, 3) := by decide +kernel
theorem dX7_reckonCosts_12 : decode cX7_reckonCosts 12 = .ok (.getfield 37, 3) := by decide +kernel
theorem dX7_reckonCosts_15 : decode cX7_reckonCosts 15 = .ok (.iconst 1, 1) := by decide +kernel
theorem dX7_reckonCosts_16 : decode cX7_reckonCosts 16 = .ok (.isub, 1) := by decide +kernel
theorem dX7_reckonCosts_17 : decode cX7_reckonCosts 17 = .ok (.istore_n 1, 1) := by decide +kernel
theorem dX7_reckonCosts_18 : decode cX7_reckonCosts 18 = .ok (.iload_n 1, 1) := by decide +kernel
theorem dX7_reckonCosts_19 : decode cX7_reckonCosts 19 = .ok (.ifCond .lt 102, 3) := by decide +kernel
theorem dX7_reckonCosts_22 : decode cX7_reckonCosts 22 = .ok (.iload_n 1, 1) := by decide +kernel
theorem dX7_reckonCosts_23 : decode cX7_reckonCosts 23 = .ok (.bipush 12, 2) := by decide +kernel
theorem dX7_reckonCosts_25 : decode cX7_reckonCosts 25 = .ok (.if_icmp .ge 96, 3) := by decide +kernel
theorem dX7_reckonCosts_28 : decode cX7_reckonCosts 28 = .ok (.iconst 0, 1) := by decide +kernel
theorem dX7_reckonCosts_29 : decode cX7_reckonCosts 29 = .ok (.istore_n 2, 1) := by decide +kernel
theorem dX7_reckonCosts_30 : decode cX7_reckonCosts 30 = .ok (.iload_n 2, 1) := by decide +kernel
theorem dX7_reckonCosts_31 : decode cX7_reckonCosts 31 = .ok (.aload_n 0, 1) := by decide +kernel
theorem dX7_reckonCosts_32 : decode cX7_reckonCosts 32 = .ok (.getfield 27, 3) := by decide +kernel
theorem dX7_reckonCosts_35 : decode cX7_reckonCosts 35 = .ok (.getfield 59, 3) := by decide +kernel
theorem dX7_reckonCosts_38 : decode cX7_reckonCosts 38 = .ok (.if_icmp .ge 51, 3) := by decide +kernel
theorem dX7_reckonCosts_41 : decode cX7_reckonCosts 41 = .ok (.iload_n 2, 1) := by decide +kernel
theorem dX7_reckonCosts_42 : decode cX7_reckonCosts 42 = .ok (.bipush 30, 2) := by decide +kernel
theorem dX7_reckonCosts_44 : decode cX7_reckonCosts 44 = .ok (.if_icmp .ge 45, 3) := by decide +kernel
theorem dX7_reckonCosts_47 : decode cX7_reckonCosts 47 = .ok (.iconst 1, 1) := by decide +kernel
theorem dX7_reckonCosts_48 : decode cX7_reckonCosts 48 = .ok (.aload_n 0, 1) := by decide +kernel
theorem dX7_reckonCosts_49 : decode cX7_reckonCosts 49 = .ok (.iload_n 1, 1) := by decide +kernel
theorem dX7_reckonCosts_50 : decode cX7_reckonCosts 50 = .ok (.iconst 1, 1) := by decide +kernel
theorem dX7_reckonCosts_51 : decode cX7_reckonCosts 51 = .ok (.iadd, 1) := by decide +kernel
theorem dX7_reckonCosts_52 : decode cX7_reckonCosts 52 = .ok (.iload_n 2, 1) := by decide +kernel
theorem dX7_reckonCosts_53 : decode cX7_reckonCosts 53 = .ok (.invokevirtual 41, 3) := by decide +kernel
theorem dX7_reckonCosts_56 : decode cX7_reckonCosts 56 = .ok (.iadd, 1) := by decide +kernel
theorem dX7_reckonCosts_57 : decode cX7_reckonCosts 57 = .ok (.istore_n 3, 1) := by decide +kernel
theorem dX7_reckonCosts_58 : decode cX7_reckonCosts 58 = .ok (.aload_n 0, 1) := by decide +kernel
theorem dX7_reckonCosts_59 : decode cX7_reckonCosts 59 = .ok (.iload_n 1, 1) := by decide +kernel
theorem dX7_reckonCosts_60 : decode cX7_reckonCosts 60 = .ok (.iload_n 2, 1) := by decide +kernel
theorem dX7_reckonCosts_61 : decode cX7_reckonCosts 61 = .ok (.invokevirtual 64, 3) := by decide +kernel
theorem dX7_reckonCosts_64 : decode cX7_reckonCosts 64 = .ok (.istore 4, 2) := by decide +kernel
theorem dX7_reckonCosts_66 : decode cX7_reckonCosts 66 = .ok (.aload_n 0, 1) := by decide +kernel
theorem dX7_reckonCosts_67 : decode cX7_reckonCosts 67 = .ok (.getfield 9, 3) := by decide +kernel
theorem dX7_reckonCosts_70 : decode cX7_reckonCosts 70 = .ok (.iload_n 1, 1) := by decide +kernel
theorem dX7_reckonCosts_71 : decode cX7_reckonCosts 71 = .ok (.bipush 30, 2) := by decide +kernel
theorem dX7_reckonCosts_73 : decode cX7_reckonCosts 73 = .ok (.imul, 1) := by decide +kernel
theorem dX7_reckonCosts_74 : decode cX7_reckonCosts 74 = .ok (.iload_n 2, 1) := by decide +kernel
theorem dX7_reckonCosts_75 : decode cX7_reckonCosts 75 = .ok (.iadd, 1) := by decide +kernel
theorem dX7_reckonCosts_76 : decode cX7_reckonCosts 76 = .ok (.iload_n 3, 1) := by decide +kernel
theorem dX7_reckonCosts_77 : decode cX7_reckonCosts 77 = .ok (.iload 4, 2) := by decide +kernel
theorem dX7_reckonCosts_79 : decode cX7_reckonCosts 79 = .ok (.invokestatic 67, 3) := by decide +kernel
theorem dX7_reckonCosts_82 : decode cX7_reckonCosts 82 = .ok (.iastore, 1) := by decide +kernel
theorem dX7_reckonCosts_83 : decode cX7_reckonCosts 83 = .ok (.iinc 2 1, 3) := by decide +kernel
theorem dX7_reckonCosts_86 : decode cX7_reckonCosts 86 = .ok (.goto (-56), 3) := by decide +kernel
theorem dX7_reckonCosts_89 : decode cX7_reckonCosts 89 = .ok (.iconst 1, 1) := by decide +kernel
theorem dX7_reckonCosts_90 : decode cX7_reckonCosts 90 = .ok (.istore_n 2, 1) := by decide +kernel
theorem dX7_reckonCosts_91 : decode cX7_reckonCosts 91 = .ok (.iconst 0, 1) := by decide +kernel
theorem dX7_reckonCosts_92 : decode cX7_reckonCosts 92 = .ok (.istore_n 3, 1) := by decide +kernel
theorem dX7_reckonCosts_93 : decode cX7_reckonCosts 93 = .ok (.iload_n 3, 1) := by decide +kernel
theorem dX7_reckonCosts_94 : decode cX7_reckonCosts 94 = .ok (.bipush 12, 2) := by decide +kernel
theorem dX7_reckonCosts_96 : decode cX7_reckonCosts 96 = .ok (.if_icmp .gt 19, 3) := by decide +kernel
theorem dX7_reckonCosts_99 : decode cX7_reckonCosts 99 = .ok (.iload_n 2, 1) := by decide +kernel
theorem dX7_reckonCosts_100 : decode cX7_reckonCosts 100 = .ok (.ifCond .eq 15, 3) := by decide +kernel
theorem dX7_reckonCosts_103 : decode cX7_reckonCosts 103 = .ok (.aload_n 0, 1) := by decide +kernel
theorem dX7_reckonCosts_104 : decode cX7_reckonCosts 104 = .ok (.iload_n 1, 1) := by decide +kernel
theorem dX7_reckonCosts_105 : decode cX7_reckonCosts 105 = .ok (.invokevirtual 72, 3) := by decide +kernel
theorem dX7_reckonCosts_108 : decode cX7_reckonCosts 108 = .ok (.istore_n 2, 1) := by decide +kernel
theorem dX7_reckonCosts_109 : decode cX7_reckonCosts 109 = .ok (.iinc 3 1, 3) := by decide +kernel
theorem dX7_reckonCosts_112 : decode cX7_reckonCosts 112 = .ok (.goto (-19), 3) := by decide +kernel
theorem dX7_reckonCosts_115 : decode cX7_reckonCosts 115 = .ok (.iinc 1 (-1), 3) := by decide +kernel
theorem dX7_reckonCosts_118 : decode cX7_reckonCosts 118 = .ok (.goto (-100), 3) := by decide +kernel
theorem dX7_reckonCosts_121 : decode cX7_reckonCosts 121 = .ok (.return_, 1) := by decide +kernel
theorem dX7_costKeeping_0 : decode cX7_costKeeping 0 = .ok (.aload_n 0, 1) := by decide +kernel
theorem dX7_costKeeping_1 : decode cX7_costKeeping 1 = .ok (.getfield 27, 3) := by decide +kernel
theorem dX7_costKeeping_4 : decode cX7_costKeeping 4 = .ok (.iload_n 2, 1) := by decide +kernel
theorem dX7_costKeeping_5 : decode cX7_costKeeping 5 = .ok (.aload_n 0, 1) := by decide +kernel
theorem dX7_costKeeping_6 : decode cX7_costKeeping 6 = .ok (.getfield 24, 3) := by decide +kernel
theorem dX7_costKeeping_9 : decode cX7_costKeeping 9 = .ok (.iload_n 1, 1) := by decide +kernel
theorem dX7_costKeeping_10 : decode cX7_costKeeping 10 = .ok (.invokevirtual 45, 3) := by decide +kernel
theorem dX7_costKeeping_13 : decode cX7_costKeeping 13 = .ok (.invokevirtual 75, 3) := by decide +kernel
theorem dX7_costKeeping_16 : decode cX7_costKeeping 16 = .ok (.istore_n 3, 1) := by decide +kernel
theorem dX7_costKeeping_17 : decode cX7_costKeeping 17 = .ok (.iload_n 3, 1) := by decide +kernel
theorem dX7_costKeeping_18 : decode cX7_costKeeping 18 = .ok (.iconst (-1), 1) := by decide +kernel
theorem dX7_costKeeping_19 : decode cX7_costKeeping 19 = .ok (.if_icmp .ne 8, 3) := by decide +kernel
theorem dX7_costKeeping_22 : decode cX7_costKeeping 22 = .ok (.bipush 13, 2) := by decide +kernel
theorem dX7_costKeeping_24 : decode cX7_costKeeping 24 = .ok (.goto 11, 3) := by decide +kernel
theorem dX7_costKeeping_27 : decode cX7_costKeeping 27 = .ok (.aload_n 0, 1) := by decide +kernel
theorem dX7_costKeeping_28 : decode cX7_costKeeping 28 = .ok (.iload_n 1, 1) := by decide +kernel
theorem dX7_costKeeping_29 : decode cX7_costKeeping 29 = .ok (.iconst 1, 1) := by decide +kernel
theorem dX7_costKeeping_30 : decode cX7_costKeeping 30 = .ok (.iadd, 1) := by decide +kernel
theorem dX7_costKeeping_31 : decode cX7_costKeeping 31 = .ok (.iload_n 3, 1) := by decide +kernel
theorem dX7_costKeeping_32 : decode cX7_costKeeping 32 = .ok (.invokevirtual 41, 3) := by decide +kernel
theorem dX7_costKeeping_35 : decode cX7_costKeeping 35 = .ok (.ireturn, 1) := by decide +kernel
theorem dX7_costPutting_0 : decode cX7_costPutting 0 = .ok (.aload_n 0, 1) := by decide +kernel
theorem dX7_costPutting_1 : decode cX7_costPutting 1 = .ok (.getfield 27, 3) := by decide +kernel
theorem dX7_costPutting_4 : decode cX7_costPutting 4 = .ok (.iload_n 2, 1) := by decide +kernel
theorem dX7_costPutting_5 : decode cX7_costPutting 5 = .ok (.iload_n 3, 1) := by decide +kernel
theorem dX7_costPutting_6 : decode cX7_costPutting 6 = .ok (.invokevirtual 75, 3) := by decide +kernel
theorem dX7_costPutting_9 : decode cX7_costPutting 9 = .ok (.istore 4, 2) := by decide +kernel
theorem dX7_costPutting_11 : decode cX7_costPutting 11 = .ok (.iload 4, 2) := by decide +kernel
theorem dX7_costPutting_13 : decode cX7_costPutting 13 = .ok (.iconst (-1), 1) := by decide +kernel
theorem dX7_costPutting_14 : decode cX7_costPutting 14 = .ok (.if_icmp .ne 8, 3) := by decide +kernel
theorem dX7_costPutting_17 : decode cX7_costPutting 17 = .ok (.bipush 13, 2) := by decide +kernel
theorem dX7_costPutting_19 : decode cX7_costPutting 19 = .ok (.goto 12, 3) := by decide +kernel
theorem dX7_costPutting_22 : decode cX7_costPutting 22 = .ok (.iconst 1, 1) := by decide +kernel
theorem dX7_costPutting_23 : decode cX7_costPutting 23 = .ok (.aload_n 0, 1) := by decide +kernel
theorem dX7_costPutting_24 : decode cX7_costPutting 24 = .ok (.iload_n 1, 1) := by decide +kernel
theorem dX7_costPutting_25 : decode cX7_costPutting 25 = .ok (.iload 4, 2) := by decide +kernel
theorem dX7_costPutting_27 : decode cX7_costPutting 27 = .ok (.invokevirtual 41, 3) := by decide +kernel
theorem dX7_costPutting_30 : decode cX7_costPutting 30 = .ok (.iadd, 1) := by decide +kernel
theorem dX7_costPutting_31 : decode cX7_costPutting 31 = .ok (.ireturn, 1) := by decide +kernel
theorem dX7_lowerByPutting_0 : decode cX7_lowerByPutting 0 = .ok (.iconst 0, 1) := by decide +kernel
theorem dX7_lowerByPutting_1 : decode cX7_lowerByPutting 1 = .ok (.istore_n 2, 1) := by decide +kernel
theorem dX7_lowerByPutting_2 : decode cX7_lowerByPutting 2 = .ok (.iconst 0, 1) := by decide +kernel
theorem dX7_lowerByPutting_3 : decode cX7_lowerByPutting 3 = .ok (.istore_n 3, 1) := by decide +kernel
theorem dX7_lowerByPutting_4 : decode cX7_lowerByPutting 4 = .ok (.iload_n 3, 1) := by decide +kernel
theorem dX7_lowerByPutting_5 : decode cX7_lowerByPutting 5 = .ok (.aload_n 0, 1) := by decide +kernel
theorem dX7_lowerByPutting_6 : decode cX7_lowerByPutting 6 = .ok (.getfield 27, 3) := by decide +kernel
theorem dX7_lowerByPutting_9 : decode cX7_lowerByPutting 9 = .ok (.getfield 59, 3) := by decide +kernel
theorem dX7_lowerByPutting_12 : decode cX7_lowerByPutting 12 = .ok (.if_icmp .ge 82, 3) := by decide +kernel
theorem dX7_lowerByPutting_15 : decode cX7_lowerByPutting 15 = .ok (.iload_n 3, 1) := by decide +kernel
theorem dX7_lowerByPutting_16 : decode cX7_lowerByPutting 16 = .ok (.bipush 30, 2) := by decide +kernel
theorem dX7_lowerByPutting_18 : decode cX7_lowerByPutting 18 = .ok (.if_icmp .ge 76, 3) := by decide +kernel
theorem dX7_lowerByPutting_21 : decode cX7_lowerByPutting 21 = .ok (.iconst 0, 1) := by decide +kernel
theorem dX7_lowerByPutting_22 : decode cX7_lowerByPutting 22 = .ok (.istore 4, 2) := by decide +kernel
theorem dX7_lowerByPutting_24 : decode cX7_lowerByPutting 24 = .ok (.iload 4, 2) := by decide +kernel
theorem dX7_lowerByPutting_26 : decode cX7_lowerByPutting 26 = .ok (.bipush 8, 2) := by decide +kernel
theorem dX7_lowerByPutting_28 : decode cX7_lowerByPutting 28 = .ok (.if_icmp .ge 60, 3) := by decide +kernel
theorem dX7_lowerByPutting_31 : decode cX7_lowerByPutting 31 = .ok (.aload_n 0, 1) := by decide +kernel
theorem dX7_lowerByPutting_32 : decode cX7_lowerByPutting 32 = .ok (.iload_n 1, 1) := by decide +kernel
theorem dX7_lowerByPutting_33 : decode cX7_lowerByPutting 33 = .ok (.iload_n 3, 1) := by decide +kernel
theorem dX7_lowerByPutting_34 : decode cX7_lowerByPutting 34 = .ok (.iload 4, 2) := by decide +kernel
theorem dX7_lowerByPutting_36 : decode cX7_lowerByPutting 36 = .ok (.invokevirtual 78, 3) := by decide +kernel
theorem dX7_lowerByPutting_39 : decode cX7_lowerByPutting 39 = .ok (.istore 5, 2) := by decide +kernel
theorem dX7_lowerByPutting_41 : decode cX7_lowerByPutting 41 = .ok (.iload_n 1, 1) := by decide +kernel
theorem dX7_lowerByPutting_42 : decode cX7_lowerByPutting 42 = .ok (.ifCond .lt 40, 3) := by decide +kernel
theorem dX7_lowerByPutting_45 : decode cX7_lowerByPutting 45 = .ok (.iload_n 1, 1) := by decide +kernel
theorem dX7_lowerByPutting_46 : decode cX7_lowerByPutting 46 = .ok (.bipush 12, 2) := by decide +kernel
theorem dX7_lowerByPutting_48 : decode cX7_lowerByPutting 48 = .ok (.if_icmp .ge 34, 3) := by decide +kernel
theorem dX7_lowerByPutting_51 : decode cX7_lowerByPutting 51 = .ok (.iload 5, 2) := by decide +kernel
theorem dX7_lowerByPutting_53 : decode cX7_lowerByPutting 53 = .ok (.aload_n 0, 1) := by decide +kernel
theorem dX7_lowerByPutting_54 : decode cX7_lowerByPutting 54 = .ok (.getfield 9, 3) := by decide +kernel
theorem dX7_lowerByPutting_57 : decode cX7_lowerByPutting 57 = .ok (.iload_n 1, 1) := by decide +kernel
theorem dX7_lowerByPutting_58 : decode cX7_lowerByPutting 58 = .ok (.bipush 30, 2) := by decide +kernel
theorem dX7_lowerByPutting_60 : decode cX7_lowerByPutting 60 = .ok (.imul, 1) := by decide +kernel
theorem dX7_lowerByPutting_61 : decode cX7_lowerByPutting 61 = .ok (.iload_n 3, 1) := by decide +kernel
theorem dX7_lowerByPutting_62 : decode cX7_lowerByPutting 62 = .ok (.iadd, 1) := by decide +kernel
theorem dX7_lowerByPutting_63 : decode cX7_lowerByPutting 63 = .ok (.iaload, 1) := by decide +kernel
theorem dX7_lowerByPutting_64 : decode cX7_lowerByPutting 64 = .ok (.if_icmp .ge 18, 3) := by decide +kernel
theorem dX7_lowerByPutting_67 : decode cX7_lowerByPutting 67 = .ok (.aload_n 0, 1) := by decide +kernel
theorem dX7_lowerByPutting_68 : decode cX7_lowerByPutting 68 = .ok (.getfield 9, 3) := by decide +kernel
theorem dX7_lowerByPutting_71 : decode cX7_lowerByPutting 71 = .ok (.iload_n 1, 1) := by decide +kernel
theorem dX7_lowerByPutting_72 : decode cX7_lowerByPutting 72 = .ok (.bipush 30, 2) := by decide +kernel
theorem dX7_lowerByPutting_74 : decode cX7_lowerByPutting 74 = .ok (.imul, 1) := by decide +kernel
theorem dX7_lowerByPutting_75 : decode cX7_lowerByPutting 75 = .ok (.iload_n 3, 1) := by decide +kernel
theorem dX7_lowerByPutting_76 : decode cX7_lowerByPutting 76 = .ok (.iadd, 1) := by decide +kernel
theorem dX7_lowerByPutting_77 : decode cX7_lowerByPutting 77 = .ok (.iload 5, 2) := by decide +kernel
theorem dX7_lowerByPutting_79 : decode cX7_lowerByPutting 79 = .ok (.iastore, 1) := by decide +kernel
theorem dX7_lowerByPutting_80 : decode cX7_lowerByPutting 80 = .ok (.iconst 1, 1) := by decide +kernel
theorem dX7_lowerByPutting_81 : decode cX7_lowerByPutting 81 = .ok (.istore_n 2, 1) := by decide +kernel
theorem dX7_lowerByPutting_82 : decode cX7_lowerByPutting 82 = .ok (.iinc 4 1, 3) := by decide +kernel
theorem dX7_lowerByPutting_85 : decode cX7_lowerByPutting 85 = .ok (.goto (-61), 3) := by decide +kernel
theorem dX7_lowerByPutting_88 : decode cX7_lowerByPutting 88 = .ok (.iinc 3 1, 3) := by decide +kernel
theorem dX7_lowerByPutting_91 : decode cX7_lowerByPutting 91 = .ok (.goto (-87), 3) := by decide +kernel
theorem dX7_lowerByPutting_94 : decode cX7_lowerByPutting 94 = .ok (.iload_n 2, 1) := by decide +kernel
theorem dX7_lowerByPutting_95 : decode cX7_lowerByPutting 95 = .ok (.ireturn, 1) := by decide +kernel
theorem dX7_goCheapestWay_0 : decode cX7_goCheapestWay 0 = .ok (.aload_n 0, 1) := by decide +kernel
theorem dX7_goCheapestWay_1 : decode cX7_goCheapestWay 1 = .ok (.iconst 0, 1) := by decide +kernel
theorem dX7_goCheapestWay_2 : decode cX7_goCheapestWay 2 = .ok (.putfield 82, 3) := by decide +kernel
theorem dX7_goCheapestWay_5 : decode cX7_goCheapestWay 5 = .ok (.aload_n 0, 1) := by decide +kernel
theorem dX7_goCheapestWay_6 : decode cX7_goCheapestWay 6 = .ok (.iconst 0, 1) := by decide +kernel
theorem dX7_goCheapestWay_7 : decode cX7_goCheapestWay 7 = .ok (.putfield 85, 3) := by decide +kernel
theorem dX7_goCheapestWay_10 : decode cX7_goCheapestWay 10 = .ok (.aload_n 0, 1) := by decide +kernel
theorem dX7_goCheapestWay_11 : decode cX7_goCheapestWay 11 = .ok (.getfield 20, 3) := by decide +kernel
theorem dX7_goCheapestWay_14 : decode cX7_goCheapestWay 14 = .ok (.iconst 0, 1) := by decide +kernel
theorem dX7_goCheapestWay_15 : decode cX7_goCheapestWay 15 = .ok (.putfield 37, 3) := by decide +kernel
theorem dX7_goCheapestWay_18 : decode cX7_goCheapestWay 18 = .ok (.iconst 0, 1) := by decide +kernel
theorem dX7_goCheapestWay_19 : decode cX7_goCheapestWay 19 = .ok (.istore_n 1, 1) := by decide +kernel
theorem dX7_goCheapestWay_20 : decode cX7_goCheapestWay 20 = .ok (.iload_n 1, 1) := by decide +kernel
theorem dX7_goCheapestWay_21 : decode cX7_goCheapestWay 21 = .ok (.bipush 24, 2) := by decide +kernel
theorem dX7_goCheapestWay_23 : decode cX7_goCheapestWay 23 = .ok (.if_icmp .gt 39, 3) := by decide +kernel
theorem dX7_goCheapestWay_26 : decode cX7_goCheapestWay 26 = .ok (.aload_n 0, 1) := by decide +kernel
theorem dX7_goCheapestWay_27 : decode cX7_goCheapestWay 27 = .ok (.getfield 82, 3) := by decide +kernel
theorem dX7_goCheapestWay_30 : decode cX7_goCheapestWay 30 = .ok (.aload_n 0, 1) := by decide +kernel
theorem dX7_goCheapestWay_31 : decode cX7_goCheapestWay 31 = .ok (.getfield 24, 3) := by decide +kernel
theorem dX7_goCheapestWay_34 : decode cX7_goCheapestWay 34 = .ok (.getfield 37, 3) := by decide +kernel
theorem dX7_goCheapestWay_37 : decode cX7_goCheapestWay 37 = .ok (.if_icmp .ge 25, 3) := by decide +kernel
theorem dX7_goCheapestWay_40 : decode cX7_goCheapestWay 40 = .ok (.aload_n 0, 1) := by decide +kernel
theorem dX7_goCheapestWay_41 : decode cX7_goCheapestWay 41 = .ok (.aload_n 0, 1) := by decide +kernel
theorem dX7_goCheapestWay_42 : decode cX7_goCheapestWay 42 = .ok (.aload_n 0, 1) := by decide +kernel
theorem dX7_goCheapestWay_43 : decode cX7_goCheapestWay 43 = .ok (.getfield 82, 3) := by decide +kernel
theorem dX7_goCheapestWay_46 : decode cX7_goCheapestWay 46 = .ok (.aload_n 0, 1) := by decide +kernel
theorem dX7_goCheapestWay_47 : decode cX7_goCheapestWay 47 = .ok (.getfield 85, 3) := by decide +kernel
theorem dX7_goCheapestWay_50 : decode cX7_goCheapestWay 50 = .ok (.invokevirtual 41, 3) := by decide +kernel
theorem dX7_goCheapestWay_53 : decode cX7_goCheapestWay 53 = .ok (.invokevirtual 88, 3) := by decide +kernel
theorem dX7_goCheapestWay_56 : decode cX7_goCheapestWay 56 = .ok (.iinc 1 1, 3) := by decide +kernel
theorem dX7_goCheapestWay_59 : decode cX7_goCheapestWay 59 = .ok (.goto (-39), 3) := by decide +kernel
theorem dX7_goCheapestWay_62 : decode cX7_goCheapestWay 62 = .ok (.return_, 1) := by decide +kernel
theorem dX7_goOneOn_0 : decode cX7_goOneOn 0 = .ok (.aload_n 0, 1) := by decide +kernel
theorem dX7_goOneOn_1 : decode cX7_goOneOn 1 = .ok (.aload_n 0, 1) := by decide +kernel
theorem dX7_goOneOn_2 : decode cX7_goOneOn 2 = .ok (.getfield 82, 3) := by decide +kernel
theorem dX7_goOneOn_5 : decode cX7_goOneOn 5 = .ok (.aload_n 0, 1) := by decide +kernel
theorem dX7_goOneOn_6 : decode cX7_goOneOn 6 = .ok (.getfield 85, 3) := by decide +kernel
theorem dX7_goOneOn_9 : decode cX7_goOneOn 9 = .ok (.invokevirtual 64, 3) := by decide +kernel
theorem dX7_goOneOn_12 : decode cX7_goOneOn 12 = .ok (.iload_n 1, 1) := by decide +kernel
theorem dX7_goOneOn_13 : decode cX7_goOneOn 13 = .ok (.if_icmp .ne 29, 3) := by decide +kernel
theorem dX7_goOneOn_16 : decode cX7_goOneOn 16 = .ok (.aload_n 0, 1) := by decide +kernel
theorem dX7_goOneOn_17 : decode cX7_goOneOn 17 = .ok (.aload_n 0, 1) := by decide +kernel
theorem dX7_goOneOn_18 : decode cX7_goOneOn 18 = .ok (.getfield 24, 3) := by decide +kernel
theorem dX7_goOneOn_21 : decode cX7_goOneOn 21 = .ok (.aload_n 0, 1) := by decide +kernel
theorem dX7_goOneOn_22 : decode cX7_goOneOn 22 = .ok (.getfield 82, 3) := by decide +kernel
theorem dX7_goOneOn_25 : decode cX7_goOneOn 25 = .ok (.invokevirtual 45, 3) := by decide +kernel
theorem dX7_goOneOn_28 : decode cX7_goOneOn 28 = .ok (.invokevirtual 91, 3) := by decide +kernel
theorem dX7_goOneOn_31 : decode cX7_goOneOn 31 = .ok (.aload_n 0, 1) := by decide +kernel
theorem dX7_goOneOn_32 : decode cX7_goOneOn 32 = .ok (.dup, 1) := by decide +kernel
theorem dX7_goOneOn_33 : decode cX7_goOneOn 33 = .ok (.getfield 82, 3) := by decide +kernel
theorem dX7_goOneOn_36 : decode cX7_goOneOn 36 = .ok (.iconst 1, 1) := by decide +kernel
theorem dX7_goOneOn_37 : decode cX7_goOneOn 37 = .ok (.iadd, 1) := by decide +kernel
theorem dX7_goOneOn_38 : decode cX7_goOneOn 38 = .ok (.putfield 82, 3) := by decide +kernel
theorem dX7_goOneOn_41 : decode cX7_goOneOn 41 = .ok (.return_, 1) := by decide +kernel
theorem dX7_goOneOn_42 : decode cX7_goOneOn 42 = .ok (.iconst 1, 1) := by decide +kernel
theorem dX7_goOneOn_43 : decode cX7_goOneOn 43 = .ok (.aload_n 0, 1) := by decide +kernel
theorem dX7_goOneOn_44 : decode cX7_goOneOn 44 = .ok (.aload_n 0, 1) := by decide +kernel
theorem dX7_goOneOn_45 : decode cX7_goOneOn 45 = .ok (.getfield 82, 3) := by decide +kernel
theorem dX7_goOneOn_48 : decode cX7_goOneOn 48 = .ok (.iconst 1, 1) := by decide +kernel
theorem dX7_goOneOn_49 : decode cX7_goOneOn 49 = .ok (.iadd, 1) := by decide +kernel
theorem dX7_goOneOn_50 : decode cX7_goOneOn 50 = .ok (.aload_n 0, 1) := by decide +kernel
theorem dX7_goOneOn_51 : decode cX7_goOneOn 51 = .ok (.getfield 85, 3) := by decide +kernel
theorem dX7_goOneOn_54 : decode cX7_goOneOn 54 = .ok (.invokevirtual 41, 3) := by decide +kernel
theorem dX7_goOneOn_57 : decode cX7_goOneOn 57 = .ok (.iadd, 1) := by decide +kernel
theorem dX7_goOneOn_58 : decode cX7_goOneOn 58 = .ok (.iload_n 1, 1) := by decide +kernel
theorem dX7_goOneOn_59 : decode cX7_goOneOn 59 = .ok (.if_icmp .ne 14, 3) := by decide +kernel
theorem dX7_goOneOn_62 : decode cX7_goOneOn 62 = .ok (.aload_n 0, 1) := by decide +kernel
theorem dX7_goOneOn_63 : decode cX7_goOneOn 63 = .ok (.dup, 1) := by decide +kernel
theorem dX7_goOneOn_64 : decode cX7_goOneOn 64 = .ok (.getfield 82, 3) := by decide +kernel
theorem dX7_goOneOn_67 : decode cX7_goOneOn 67 = .ok (.iconst 1, 1) := by decide +kernel
theorem dX7_goOneOn_68 : decode cX7_goOneOn 68 = .ok (.iadd, 1) := by decide +kernel
theorem dX7_goOneOn_69 : decode cX7_goOneOn 69 = .ok (.putfield 82, 3) := by decide +kernel
theorem dX7_goOneOn_72 : decode cX7_goOneOn 72 = .ok (.return_, 1) := by decide +kernel
theorem dX7_goOneOn_73 : decode cX7_goOneOn 73 = .ok (.iconst 0, 1) := by decide +kernel
theorem dX7_goOneOn_74 : decode cX7_goOneOn 74 = .ok (.istore_n 2, 1) := by decide +kernel
theorem dX7_goOneOn_75 : decode cX7_goOneOn 75 = .ok (.iload_n 2, 1) := by decide +kernel
theorem dX7_goOneOn_76 : decode cX7_goOneOn 76 = .ok (.bipush 8, 2) := by decide +kernel
theorem dX7_goOneOn_78 : decode cX7_goOneOn 78 = .ok (.if_icmp .ge 32, 3) := by decide +kernel
theorem dX7_goOneOn_81 : decode cX7_goOneOn 81 = .ok (.aload_n 0, 1) := by decide +kernel
theorem dX7_goOneOn_82 : decode cX7_goOneOn 82 = .ok (.aload_n 0, 1) := by decide +kernel
theorem dX7_goOneOn_83 : decode cX7_goOneOn 83 = .ok (.getfield 82, 3) := by decide +kernel
theorem dX7_goOneOn_86 : decode cX7_goOneOn 86 = .ok (.aload_n 0, 1) := by decide +kernel
theorem dX7_goOneOn_87 : decode cX7_goOneOn 87 = .ok (.getfield 85, 3) := by decide +kernel
theorem dX7_goOneOn_90 : decode cX7_goOneOn 90 = .ok (.iload_n 2, 1) := by decide +kernel
theorem dX7_goOneOn_91 : decode cX7_goOneOn 91 = .ok (.invokevirtual 78, 3) := by decide +kernel
theorem dX7_goOneOn_94 : decode cX7_goOneOn 94 = .ok (.iload_n 1, 1) := by decide +kernel
theorem dX7_goOneOn_95 : decode cX7_goOneOn 95 = .ok (.if_icmp .ne 9, 3) := by decide +kernel
theorem dX7_goOneOn_98 : decode cX7_goOneOn 98 = .ok (.aload_n 0, 1) := by decide +kernel
theorem dX7_goOneOn_99 : decode cX7_goOneOn 99 = .ok (.iload_n 2, 1) := by decide +kernel
theorem dX7_goOneOn_100 : decode cX7_goOneOn 100 = .ok (.invokevirtual 91, 3) := by decide +kernel
theorem dX7_goOneOn_103 : decode cX7_goOneOn 103 = .ok (.return_, 1) := by decide +kernel
theorem dX7_goOneOn_104 : decode cX7_goOneOn 104 = .ok (.iinc 2 1, 3) := by decide +kernel
theorem dX7_goOneOn_107 : decode cX7_goOneOn 107 = .ok (.goto (-32), 3) := by decide +kernel
theorem dX7_goOneOn_110 : decode cX7_goOneOn 110 = .ok (.return_, 1) := by decide +kernel
theorem dX7_make_0 : decode cX7_make 0 = .ok (.aload_n 0, 1) := by decide +kernel
theorem dX7_make_1 : decode cX7_make 1 = .ok (.getfield 20, 3) := by decide +kernel
theorem dX7_make_4 : decode cX7_make 4 = .ok (.iload_n 1, 1) := by decide +kernel
theorem dX7_make_5 : decode cX7_make 5 = .ok (.invokevirtual 49, 3) := by decide +kernel
theorem dX7_make_8 : decode cX7_make 8 = .ok (.pop, 1) := by decide +kernel
theorem dX7_make_9 : decode cX7_make 9 = .ok (.aload_n 0, 1) := by decide +kernel
theorem dX7_make_10 : decode cX7_make 10 = .ok (.aload_n 0, 1) := by decide +kernel
theorem dX7_make_11 : decode cX7_make 11 = .ok (.getfield 27, 3) := by decide +kernel
theorem dX7_make_14 : decode cX7_make 14 = .ok (.aload_n 0, 1) := by decide +kernel
theorem dX7_make_15 : decode cX7_make 15 = .ok (.getfield 85, 3) := by decide +kernel
theorem dX7_make_18 : decode cX7_make 18 = .ok (.iload_n 1, 1) := by decide +kernel
theorem dX7_make_19 : decode cX7_make 19 = .ok (.invokevirtual 75, 3) := by decide +kernel
theorem dX7_make_22 : decode cX7_make 22 = .ok (.putfield 85, 3) := by decide +kernel
theorem dX7_make_25 : decode cX7_make 25 = .ok (.return_, 1) := by decide +kernel
theorem dX8_init_0 : decode cX8_init 0 = .ok (.aload_n 0, 1) := by decide +kernel
theorem dX8_init_1 : decode cX8_init 1 = .ok (.invokespecial 3, 3) := by decide +kernel
theorem dX8_init_4 : decode cX8_init 4 = .ok (.aload_n 0, 1) := by decide +kernel
theorem dX8_init_5 : decode cX8_init 5 = .ok (.sipush 200, 3) := by decide +kernel
theorem dX8_init_8 : decode cX8_init 8 = .ok (.newarray .int, 2) := by decide +kernel
theorem dX8_init_10 : decode cX8_init 10 = .ok (.putfield 9, 3) := by decide +kernel
theorem dX8_init_13 : decode cX8_init 13 = .ok (.aload_n 0, 1) := by decide +kernel
theorem dX8_init_14 : decode cX8_init 14 = .ok (.sipush 200, 3) := by decide +kernel
theorem dX8_init_17 : decode cX8_init 17 = .ok (.newarray .int, 2) := by decide +kernel
theorem dX8_init_19 : decode cX8_init 19 = .ok (.putfield 15, 3) := by decide +kernel
theorem dX8_init_22 : decode cX8_init 22 = .ok (.aload_n 0, 1) := by decide +kernel
theorem dX8_init_23 : decode cX8_init 23 = .ok (.sipush 200, 3) := by decide +kernel
theorem dX8_init_26 : decode cX8_init 26 = .ok (.newarray .int, 2) := by decide +kernel
theorem dX8_init_28 : decode cX8_init 28 = .ok (.putfield 18, 3) := by decide +kernel
theorem dX8_init_31 : decode cX8_init 31 = .ok (.aload_n 0, 1) := by decide +kernel
theorem dX8_init_32 : decode cX8_init 32 = .ok (.sipush 200, 3) := by decide +kernel
theorem dX8_init_35 : decode cX8_init 35 = .ok (.newarray .int, 2) := by decide +kernel
theorem dX8_init_37 : decode cX8_init 37 = .ok (.putfield 21, 3) := by decide +kernel
theorem dX8_init_40 : decode cX8_init 40 = .ok (.aload_n 0, 1) := by decide +kernel
theorem dX8_init_41 : decode cX8_init 41 = .ok (.sipush 200, 3) := by decide +kernel
theorem dX8_init_44 : decode cX8_init 44 = .ok (.newarray .boolean, 2) := by decide +kernel
theorem dX8_init_46 : decode cX8_init 46 = .ok (.putfield 24, 3) := by decide +kernel
theorem dX8_init_49 : decode cX8_init 49 = .ok (.aload_n 0, 1) := by decide +kernel
theorem dX8_init_50 : decode cX8_init 50 = .ok (.bipush 10, 2) := by decide +kernel
theorem dX8_init_52 : decode cX8_init 52 = .ok (.newarray .int, 2) := by decide +kernel
theorem dX8_init_54 : decode cX8_init 54 = .ok (.putfield 28, 3) := by decide +kernel
theorem dX8_init_57 : decode cX8_init 57 = .ok (.aload_n 0, 1) := by decide +kernel
theorem dX8_init_58 : decode cX8_init 58 = .ok (.bipush 10, 2) := by decide +kernel
theorem dX8_init_60 : decode cX8_init 60 = .ok (.newarray .int, 2) := by decide +kernel
theorem dX8_init_62 : decode cX8_init 62 = .ok (.putfield 31, 3) := by decide +kernel
theorem dX8_init_65 : decode cX8_init 65 = .ok (.return_, 1) := by decide +kernel
theorem dX8_faultIn_0 : decode cX8_faultIn 0 = .ok (.iconst 0, 1) := by decide +kernel
theorem dX8_faultIn_1 : decode cX8_faultIn 1 = .ok (.istore_n 2, 1) := by decide +kernel
theorem dX8_faultIn_2 : decode cX8_faultIn 2 = .ok (.iconst 0, 1) := by decide +kernel
theorem dX8_faultIn_3 : decode cX8_faultIn 3 = .ok (.istore_n 3, 1) := by decide +kernel
theorem dX8_faultIn_4 : decode cX8_faultIn 4 = .ok (.iconst 0, 1) := by decide +kernel
theorem dX8_faultIn_5 : decode cX8_faultIn 5 = .ok (.istore 4, 2) := by decide +kernel
theorem dX8_faultIn_7 : decode cX8_faultIn 7 = .ok (.iload 4, 2) := by decide +kernel
theorem dX8_faultIn_9 : decode cX8_faultIn 9 = .ok (.iload_n 1, 1) := by decide +kernel
theorem dX8_faultIn_10 : decode cX8_faultIn 10 = .ok (.if_icmp .ge 84, 3) := by decide +kernel
theorem dX8_faultIn_13 : decode cX8_faultIn 13 = .ok (.iload 4, 2) := by decide +kernel
theorem dX8_faultIn_15 : decode cX8_faultIn 15 = .ok (.aload_n 0, 1) := by decide +kernel
theorem dX8_faultIn_16 : decode cX8_faultIn 16 = .ok (.arraylength, 1) := by decide +kernel
theorem dX8_faultIn_17 : decode cX8_faultIn 17 = .ok (.if_icmp .ge 77, 3) := by decide +kernel
theorem dX8_faultIn_20 : decode cX8_faultIn 20 = .ok (.aload_n 0, 1) := by decide +kernel
theorem dX8_faultIn_21 : decode cX8_faultIn 21 = .ok (.iload 4, 2) := by decide +kernel
theorem dX8_faultIn_23 : decode cX8_faultIn 23 = .ok (.iaload, 1) := by decide +kernel
theorem dX8_faultIn_24 : decode cX8_faultIn 24 = .ok (.istore 5, 2) := by decide +kernel
theorem dX8_faultIn_26 : decode cX8_faultIn 26 = .ok (.iload 5, 2) := by decide +kernel
theorem dX8_faultIn_28 : decode cX8_faultIn 28 = .ok (.bipush 32, 2) := by decide +kernel
theorem dX8_faultIn_30 : decode cX8_faultIn 30 = .ok (.if_icmp .ne 6, 3) := by decide +kernel
theorem dX8_faultIn_33 : decode cX8_faultIn 33 = .ok (.goto 55, 3) := by decide +kernel
theorem dX8_faultIn_36 : decode cX8_faultIn 36 = .ok (.iload 5, 2) := by decide +kernel
theorem dX8_faultIn_38 : decode cX8_faultIn 38 = .ok (.iload_n 2, 1) := by decide +kernel
theorem dX8_faultIn_39 : decode cX8_faultIn 39 = .ok (.iload_n 3, 1) := by decide +kernel
theorem dX8_faultIn_40 : decode cX8_faultIn 40 = .ok (.invokestatic 34, 3) := by decide +kernel
theorem dX8_faultIn_43 : decode cX8_faultIn 43 = .ok (.ifCond .ne 6, 3) := by decide +kernel
theorem dX8_faultIn_46 : decode cX8_faultIn 46 = .ok (.iload 4, 2) := by decide +kernel
theorem dX8_faultIn_48 : decode cX8_faultIn 48 = .ok (.ireturn, 1) := by decide +kernel
theorem dX8_faultIn_49 : decode cX8_faultIn 49 = .ok (.iload_n 2, 1) := by decide +kernel
theorem dX8_faultIn_50 : decode cX8_faultIn 50 = .ok (.iload 5, 2) := by decide +kernel
theorem dX8_faultIn_52 : decode cX8_faultIn 52 = .ok (.bipush 40, 2) := by decide +kernel
theorem dX8_faultIn_54 : decode cX8_faultIn 54 = .ok (.if_icmp .ne 7, 3) := by decide +kernel
theorem dX8_faultIn_57 : decode cX8_faultIn 57 = .ok (.iconst 1, 1) := by decide +kernel
theorem dX8_faultIn_58 : decode cX8_faultIn 58 = .ok (.goto 15, 3) := by decide +kernel
theorem dX8_faultIn_61 : decode cX8_faultIn 61 = .ok (.iload 5, 2) := by decide +kernel
theorem dX8_faultIn_63 : decode cX8_faultIn 63 = .ok (.bipush 41, 2) := by decide +kernel
theorem dX8_faultIn_65 : decode cX8_faultIn 65 = .ok (.if_icmp .ne 7, 3) := by decide +kernel
theorem dX8_faultIn_68 : decode cX8_faultIn 68 = .ok (.iconst (-1), 1) := by decide +kernel
theorem dX8_faultIn_69 : decode cX8_faultIn 69 = .ok (.goto 4, 3) := by decide +kernel
theorem dX8_faultIn_72 : decode cX8_faultIn 72 = .ok (.iconst 0, 1) := by decide +kernel
theorem dX8_faultIn_73 : decode cX8_faultIn 73 = .ok (.iadd, 1) := by decide +kernel
theorem dX8_faultIn_74 : decode cX8_faultIn 74 = .ok (.istore_n 2, 1) := by decide +kernel
theorem dX8_faultIn_75 : decode cX8_faultIn 75 = .ok (.iload 5, 2) := by decide +kernel
theorem dX8_faultIn_77 : decode cX8_faultIn 77 = .ok (.bipush 41, 2) := by decide +kernel
theorem dX8_faultIn_79 : decode cX8_faultIn 79 = .ok (.if_icmp .ne 7, 3) := by decide +kernel
theorem dX8_faultIn_82 : decode cX8_faultIn 82 = .ok (.iconst 1, 1) := by decide +kernel
theorem dX8_faultIn_83 : decode cX8_faultIn 83 = .ok (.goto 4, 3) := by decide +kernel
theorem dX8_faultIn_86 : decode cX8_faultIn 86 = .ok (.iconst 0, 1) := by decide +kernel
theorem dX8_faultIn_87 : decode cX8_faultIn 87 = .ok (.istore_n 3, 1) := by decide +kernel
theorem dX8_faultIn_88 : decode cX8_faultIn 88 = .ok (.iinc 4 1, 3) := by decide +kernel
theorem dX8_faultIn_91 : decode cX8_faultIn 91 = .ok (.goto (-84), 3) := by decide +kernel
theorem dX8_faultIn_94 : decode cX8_faultIn 94 = .ok (.iload_n 2, 1) := by decide +kernel
theorem dX8_faultIn_95 : decode cX8_faultIn 95 = .ok (.ifCond .ne 7, 3) := by decide +kernel
theorem dX8_faultIn_98 : decode cX8_faultIn 98 = .ok (.iconst (-1), 1) := by decide +kernel
theorem dX8_faultIn_99 : decode cX8_faultIn 99 = .ok (.goto 4, 3) := by decide +kernel
theorem dX8_faultIn_102 : decode cX8_faultIn 102 = .ok (.iload_n 1, 1) := by decide +kernel
theorem dX8_faultIn_103 : decode cX8_faultIn 103 = .ok (.ireturn, 1) := by decide +kernel
theorem dX8_mayStand_0 : decode cX8_mayStand 0 = .ok (.iload_n 0, 1) := by decide +kernel
theorem dX8_mayStand_1 : decode cX8_mayStand 1 = .ok (.lookupswitch 67 #[(40, 43), (41, 55), (42, 65), (124, 55)], 43) := by decide +kernel
theorem dX8_mayStand_44 : decode cX8_mayStand 44 = .ok (.iload_n 1, 1) := by decide +kernel
theorem dX8_mayStand_45 : decode cX8_mayStand 45 = .ok (.bipush 10, 2) := by decide +kernel
theorem dX8_mayStand_47 : decode cX8_mayStand 47 = .ok (.if_icmp .ge 7, 3) := by decide +kernel
theorem dX8_mayStand_50 : decode cX8_mayStand 50 = .ok (.iconst 1, 1) := by decide +kernel
theorem dX8_mayStand_51 : decode cX8_mayStand 51 = .ok (.goto 4, 3) := by decide +kernel
theorem dX8_mayStand_54 : decode cX8_mayStand 54 = .ok (.iconst 0, 1) := by decide +kernel
theorem dX8_mayStand_55 : decode cX8_mayStand 55 = .ok (.ireturn, 1) := by decide +kernel
theorem dX8_mayStand_56 : decode cX8_mayStand 56 = .ok (.iload_n 1, 1) := by decide +kernel
theorem dX8_mayStand_57 : decode cX8_mayStand 57 = .ok (.ifCond .le 7, 3) := by decide +kernel
theorem dX8_mayStand_60 : decode cX8_mayStand 60 = .ok (.iconst 1, 1) := by decide +kernel
theorem dX8_mayStand_61 : decode cX8_mayStand 61 = .ok (.goto 4, 3) := by decide +kernel
theorem dX8_mayStand_64 : decode cX8_mayStand 64 = .ok (.iconst 0, 1) := by decide +kernel
theorem dX8_mayStand_65 : decode cX8_mayStand 65 = .ok (.ireturn, 1) := by decide +kernel
theorem dX8_mayStand_66 : decode cX8_mayStand 66 = .ok (.iload_n 2, 1) := by decide +kernel
theorem dX8_mayStand_67 : decode cX8_mayStand 67 = .ok (.ireturn, 1) := by decide +kernel
theorem dX8_mayStand_68 : decode cX8_mayStand 68 = .ok (.iload_n 0, 1) := by decide +kernel
theorem dX8_mayStand_69 : decode cX8_mayStand 69 = .ok (.bipush 97, 2) := by decide +kernel
theorem dX8_mayStand_71 : decode cX8_mayStand 71 = .ok (.if_icmp .lt 13, 3) := by decide +kernel
theorem dX8_mayStand_74 : decode cX8_mayStand 74 = .ok (.iload_n 0, 1) := by decide +kernel
theorem dX8_mayStand_75 : decode cX8_mayStand 75 = .ok (.bipush 104, 2) := by decide +kernel
theorem dX8_mayStand_77 : decode cX8_mayStand 77 = .ok (.if_icmp .gt 7, 3) := by decide +kernel
theorem dX8_mayStand_80 : decode cX8_mayStand 80 = .ok (.iconst 1, 1) := by decide +kernel
theorem dX8_mayStand_81 : decode cX8_mayStand 81 = .ok (.goto 4, 3) := by decide +kernel
theorem dX8_mayStand_84 : decode cX8_mayStand 84 = .ok (.iconst 0, 1) := by decide +kernel
theorem dX8_mayStand_85 : decode cX8_mayStand 85 = .ok (.ireturn, 1) := by decide +kernel
theorem dX8_replaceBy_0 : decode cX8_replaceBy 0 = .ok (.aload_n 0, 1) := by decide +kernel
theorem dX8_replaceBy_1 : decode cX8_replaceBy 1 = .ok (.iconst 0, 1) := by decide +kernel
theorem dX8_replaceBy_2 : decode cX8_replaceBy 2 = .ok (.putfield 38, 3) := by decide +kernel
theorem dX8_replaceBy_5 : decode cX8_replaceBy 5 = .ok (.iconst 0, 1) := by decide +kernel
theorem dX8_replaceBy_6 : decode cX8_replaceBy 6 = .ok (.istore_n 3, 1) := by decide +kernel
theorem dX8_replaceBy_7 : decode cX8_replaceBy 7 = .ok (.iload_n 3, 1) := by decide +kernel
theorem dX8_replaceBy_8 : decode cX8_replaceBy 8 = .ok (.iload_n 2, 1) := by decide +kernel
theorem dX8_replaceBy_9 : decode cX8_replaceBy 9 = .ok (.if_icmp .ge 41, 3) := by decide +kernel
theorem dX8_replaceBy_12 : decode cX8_replaceBy 12 = .ok (.iload_n 3, 1) := by decide +kernel
theorem dX8_replaceBy_13 : decode cX8_replaceBy 13 = .ok (.aload_n 1, 1) := by decide +kernel
theorem dX8_replaceBy_14 : decode cX8_replaceBy 14 = .ok (.arraylength, 1) := by decide +kernel
theorem dX8_replaceBy_15 : decode cX8_replaceBy 15 = .ok (.if_icmp .ge 35, 3) := by decide +kernel
theorem dX8_replaceBy_18 : decode cX8_replaceBy 18 = .ok (.iload_n 3, 1) := by decide +kernel
theorem dX8_replaceBy_19 : decode cX8_replaceBy 19 = .ok (.sipush 200, 3) := by decide +kernel
theorem dX8_replaceBy_22 : decode cX8_replaceBy 22 = .ok (.if_icmp .ge 28, 3) := by decide +kernel
theorem dX8_replaceBy_25 : decode cX8_replaceBy 25 = .ok (.aload_n 0, 1) := by decide +kernel
theorem dX8_replaceBy_26 : decode cX8_replaceBy 26 = .ok (.getfield 9, 3) := by decide +kernel
theorem dX8_replaceBy_29 : decode cX8_replaceBy 29 = .ok (.iload_n 3, 1) := by decide +kernel
theorem dX8_replaceBy_30 : decode cX8_replaceBy 30 = .ok (.aload_n 1, 1) := by decide +kernel
theorem dX8_replaceBy_31 : decode cX8_replaceBy 31 = .ok (.iload_n 3, 1) := by decide +kernel
theorem dX8_replaceBy_32 : decode cX8_replaceBy 32 = .ok (.iaload, 1) := by decide +kernel
theorem dX8_replaceBy_33 : decode cX8_replaceBy 33 = .ok (.iastore, 1) := by decide +kernel
theorem dX8_replaceBy_34 : decode cX8_replaceBy 34 = .ok (.aload_n 0, 1) := by decide +kernel
theorem dX8_replaceBy_35 : decode cX8_replaceBy 35 = .ok (.dup, 1) := by decide +kernel
theorem dX8_replaceBy_36 : decode cX8_replaceBy 36 = .ok (.getfield 38, 3) := by decide +kernel
theorem dX8_replaceBy_39 : decode cX8_replaceBy 39 = .ok (.iconst 1, 1) := by decide +kernel
theorem dX8_replaceBy_40 : decode cX8_replaceBy 40 = .ok (.iadd, 1) := by decide +kernel
theorem dX8_replaceBy_41 : decode cX8_replaceBy 41 = .ok (.putfield 38, 3) := by decide +kernel
theorem dX8_replaceBy_44 : decode cX8_replaceBy 44 = .ok (.iinc 3 1, 3) := by decide +kernel
theorem dX8_replaceBy_47 : decode cX8_replaceBy 47 = .ok (.goto (-40), 3) := by decide +kernel
theorem dX8_replaceBy_50 : decode cX8_replaceBy 50 = .ok (.iconst 0, 1) := by decide +kernel
theorem dX8_replaceBy_51 : decode cX8_replaceBy 51 = .ok (.istore_n 3, 1) := by decide +kernel
theorem dX8_replaceBy_52 : decode cX8_replaceBy 52 = .ok (.iconst 0, 1) := by decide +kernel
theorem dX8_replaceBy_53 : decode cX8_replaceBy 53 = .ok (.istore 4, 2) := by decide +kernel
theorem dX8_replaceBy_55 : decode cX8_replaceBy 55 = .ok (.iload 4, 2) := by decide +kernel
theorem dX8_replaceBy_57 : decode cX8_replaceBy 57 = .ok (.aload_n 0, 1) := by decide +kernel
theorem dX8_replaceBy_58 : decode cX8_replaceBy 58 = .ok (.getfield 38, 3) := by decide +kernel
theorem dX8_replaceBy_61 : decode cX8_replaceBy 61 = .ok (.if_icmp .ge 135, 3) := by decide +kernel
theorem dX8_replaceBy_64 : decode cX8_replaceBy 64 = .ok (.aload_n 0, 1) := by decide +kernel
theorem dX8_replaceBy_65 : decode cX8_replaceBy 65 = .ok (.getfield 9, 3) := by decide +kernel
theorem dX8_replaceBy_68 : decode cX8_replaceBy 68 = .ok (.iload 4, 2) := by decide +kernel
theorem dX8_replaceBy_70 : decode cX8_replaceBy 70 = .ok (.iaload, 1) := by decide +kernel
theorem dX8_replaceBy_71 : decode cX8_replaceBy 71 = .ok (.bipush 40, 2) := by decide +kernel
theorem dX8_replaceBy_73 : decode cX8_replaceBy 73 = .ok (.if_icmp .ne 31, 3) := by decide +kernel
theorem dX8_replaceBy_76 : decode cX8_replaceBy 76 = .ok (.iload_n 3, 1) := by decide +kernel
theorem dX8_replaceBy_77 : decode cX8_replaceBy 77 = .ok (.bipush 10, 2) := by decide +kernel
theorem dX8_replaceBy_79 : decode cX8_replaceBy 79 = .ok (.if_icmp .ge 25, 3) := by decide +kernel
theorem dX8_replaceBy_82 : decode cX8_replaceBy 82 = .ok (.aload_n 0, 1) := by decide +kernel
theorem dX8_replaceBy_83 : decode cX8_replaceBy 83 = .ok (.getfield 28, 3) := by decide +kernel
theorem dX8_replaceBy_86 : decode cX8_replaceBy 86 = .ok (.iload_n 3, 1) := by decide +kernel
theorem dX8_replaceBy_87 : decode cX8_replaceBy 87 = .ok (.iload 4, 2) := by decide +kernel
theorem dX8_replaceBy_89 : decode cX8_replaceBy 89 = .ok (.iastore, 1) := by decide +kernel
theorem dX8_replaceBy_90 : decode cX8_replaceBy 90 = .ok (.aload_n 0, 1) := by decide +kernel
theorem dX8_replaceBy_91 : decode cX8_replaceBy 91 = .ok (.getfield 31, 3) := by decide +kernel
theorem dX8_replaceBy_94 : decode cX8_replaceBy 94 = .ok (.iload_n 3, 1) := by decide +kernel
theorem dX8_replaceBy_95 : decode cX8_replaceBy 95 = .ok (.iload 4, 2) := by decide +kernel
theorem dX8_replaceBy_97 : decode cX8_replaceBy 97 = .ok (.iastore, 1) := by decide +kernel
theorem dX8_replaceBy_98 : decode cX8_replaceBy 98 = .ok (.iinc 3 1, 3) := by decide +kernel
theorem dX8_replaceBy_101 : decode cX8_replaceBy 101 = .ok (.goto 89, 3) := by decide +kernel
theorem dX8_replaceBy_104 : decode cX8_replaceBy 104 = .ok (.aload_n 0, 1) := by decide +kernel
theorem dX8_replaceBy_105 : decode cX8_replaceBy 105 = .ok (.getfield 9, 3) := by decide +kernel
theorem dX8_replaceBy_108 : decode cX8_replaceBy 108 = .ok (.iload 4, 2) := by decide +kernel
theorem dX8_replaceBy_110 : decode cX8_replaceBy 110 = .ok (.iaload, 1) := by decide +kernel
theorem dX8_replaceBy_111 : decode cX8_replaceBy 111 = .ok (.bipush 124, 2) := by decide +kernel
theorem dX8_replaceBy_113 : decode cX8_replaceBy 113 = .ok (.if_icmp .ne 34, 3) := by decide +kernel
theorem dX8_replaceBy_116 : decode cX8_replaceBy 116 = .ok (.iload_n 3, 1) := by decide +kernel
theorem dX8_replaceBy_117 : decode cX8_replaceBy 117 = .ok (.ifCond .le 30, 3) := by decide +kernel
theorem dX8_replaceBy_120 : decode cX8_replaceBy 120 = .ok (.aload_n 0, 1) := by decide +kernel
theorem dX8_replaceBy_121 : decode cX8_replaceBy 121 = .ok (.aload_n 0, 1) := by decide +kernel
theorem dX8_replaceBy_122 : decode cX8_replaceBy 122 = .ok (.getfield 31, 3) := by decide +kernel
theorem dX8_replaceBy_125 : decode cX8_replaceBy 125 = .ok (.iload_n 3, 1) := by decide +kernel
theorem dX8_replaceBy_126 : decode cX8_replaceBy 126 = .ok (.iconst 1, 1) := by decide +kernel
theorem dX8_replaceBy_127 : decode cX8_replaceBy 127 = .ok (.isub, 1) := by decide +kernel
theorem dX8_replaceBy_128 : decode cX8_replaceBy 128 = .ok (.iaload, 1) := by decide +kernel
theorem dX8_replaceBy_129 : decode cX8_replaceBy 129 = .ok (.iload 4, 2) := by decide +kernel
theorem dX8_replaceBy_131 : decode cX8_replaceBy 131 = .ok (.invokevirtual 42, 3) := by decide +kernel
theorem dX8_replaceBy_134 : decode cX8_replaceBy 134 = .ok (.aload_n 0, 1) := by decide +kernel
theorem dX8_replaceBy_135 : decode cX8_replaceBy 135 = .ok (.getfield 31, 3) := by decide +kernel
theorem dX8_replaceBy_138 : decode cX8_replaceBy 138 = .ok (.iload_n 3, 1) := by decide +kernel
theorem dX8_replaceBy_139 : decode cX8_replaceBy 139 = .ok (.iconst 1, 1) := by decide +kernel
theorem dX8_replaceBy_140 : decode cX8_replaceBy 140 = .ok (.isub, 1) := by decide +kernel
theorem dX8_replaceBy_141 : decode cX8_replaceBy 141 = .ok (.iload 4, 2) := by decide +kernel
theorem dX8_replaceBy_143 : decode cX8_replaceBy 143 = .ok (.iastore, 1) := by decide +kernel
theorem dX8_replaceBy_144 : decode cX8_replaceBy 144 = .ok (.goto 46, 3) := by decide +kernel
theorem dX8_replaceBy_147 : decode cX8_replaceBy 147 = .ok (.aload_n 0, 1) := by decide +kernel
theorem dX8_replaceBy_148 : decode cX8_replaceBy 148 = .ok (.getfield 9, 3) := by decide +kernel
theorem dX8_replaceBy_151 : decode cX8_replaceBy 151 = .ok (.iload 4, 2) := by decide +kernel
theorem dX8_replaceBy_153 : decode cX8_replaceBy 153 = .ok (.iaload, 1) := by decide +kernel
theorem dX8_replaceBy_154 : decode cX8_replaceBy 154 = .ok (.bipush 41, 2) := by decide +kernel
theorem dX8_replaceBy_156 : decode cX8_replaceBy 156 = .ok (.if_icmp .ne 34, 3) := by decide +kernel
theorem dX8_replaceBy_159 : decode cX8_replaceBy 159 = .ok (.iload_n 3, 1) := by decide +kernel
theorem dX8_replaceBy_160 : decode cX8_replaceBy 160 = .ok (.ifCond .le 30, 3) := by decide +kernel
theorem dX8_replaceBy_163 : decode cX8_replaceBy 163 = .ok (.iinc 3 (-1), 3) := by decide +kernel
theorem dX8_replaceBy_166 : decode cX8_replaceBy 166 = .ok (.aload_n 0, 1) := by decide +kernel
theorem dX8_replaceBy_167 : decode cX8_replaceBy 167 = .ok (.aload_n 0, 1) := by decide +kernel
theorem dX8_replaceBy_168 : decode cX8_replaceBy 168 = .ok (.getfield 31, 3) := by decide +kernel
theorem dX8_replaceBy_171 : decode cX8_replaceBy 171 = .ok (.iload_n 3, 1) := by decide +kernel
theorem dX8_replaceBy_172 : decode cX8_replaceBy 172 = .ok (.iaload, 1) := by decide +kernel
theorem dX8_replaceBy_173 : decode cX8_replaceBy 173 = .ok (.iload 4, 2) := by decide +kernel
theorem dX8_replaceBy_175 : decode cX8_replaceBy 175 = .ok (.invokevirtual 42, 3) := by decide +kernel
theorem dX8_replaceBy_178 : decode cX8_replaceBy 178 = .ok (.aload_n 0, 1) := by decide +kernel
theorem dX8_replaceBy_179 : decode cX8_replaceBy 179 = .ok (.aload_n 0, 1) := by decide +kernel
theorem dX8_replaceBy_180 : decode cX8_replaceBy 180 = .ok (.getfield 28, 3) := by decide +kernel
theorem dX8_replaceBy_183 : decode cX8_replaceBy 183 = .ok (.iload_n 3, 1) := by decide +kernel
theorem dX8_replaceBy_184 : decode cX8_replaceBy 184 = .ok (.iaload, 1) := by decide +kernel
theorem dX8_replaceBy_185 : decode cX8_replaceBy 185 = .ok (.iload 4, 2) := by decide +kernel
theorem dX8_replaceBy_187 : decode cX8_replaceBy 187 = .ok (.invokevirtual 46, 3) := by decide +kernel
theorem dX8_replaceBy_190 : decode cX8_replaceBy 190 = .ok (.iinc 4 1, 3) := by decide +kernel
theorem dX8_replaceBy_193 : decode cX8_replaceBy 193 = .ok (.goto (-138), 3) := by decide +kernel
theorem dX8_replaceBy_196 : decode cX8_replaceBy 196 = .ok (.return_, 1) := by decide +kernel
theorem dX8_endS_0 : decode cX8_endS 0 = .ok (.iload_n 1, 1) := by decide +kernel
theorem dX8_endS_1 : decode cX8_endS 1 = .ok (.ifCond .lt 17, 3) := by decide +kernel
theorem dX8_endS_4 : decode cX8_endS 4 = .ok (.iload_n 1, 1) := by decide +kernel
theorem dX8_endS_5 : decode cX8_endS 5 = .ok (.sipush 200, 3) := by decide +kernel
theorem dX8_endS_8 : decode cX8_endS 8 = .ok (.if_icmp .ge 10, 3) := by decide +kernel
theorem dX8_endS_11 : decode cX8_endS 11 = .ok (.aload_n 0, 1) := by decide +kernel
theorem dX8_endS_12 : decode cX8_endS 12 = .ok (.getfield 15, 3) := by decide +kernel
theorem dX8_endS_15 : decode cX8_endS 15 = .ok (.iload_n 1, 1) := by decide +kernel
theorem dX8_endS_16 : decode cX8_endS 16 = .ok (.iload_n 2, 1) := by decide +kernel
theorem dX8_endS_17 : decode cX8_endS 17 = .ok (.iastore, 1) := by decide +kernel
theorem dX8_endS_18 : decode cX8_endS 18 = .ok (.return_, 1) := by decide +kernel
theorem dX8_closeBracket_0 : decode cX8_closeBracket 0 = .ok (.iload_n 1, 1) := by decide +kernel
theorem dX8_closeBracket_1 : decode cX8_closeBracket 1 = .ok (.istore_n 3, 1) := by decide +kernel
theorem dX8_closeBracket_2 : decode cX8_closeBracket 2 = .ok (.iconst 0, 1) := by decide +kernel
theorem dX8_closeBracket_3 : decode cX8_closeBracket 3 = .ok (.istore 4, 2) := by decide +kernel
theorem dX8_closeBracket_5 : decode cX8_closeBracket 5 = .ok (.iload 4, 2) := by decide +kernel
theorem dX8_closeBracket_7 : decode cX8_closeBracket 7 = .ok (.aload_n 0, 1) := by decide +kernel
theorem dX8_closeBracket_8 : decode cX8_closeBracket 8 = .ok (.getfield 38, 3) := by decide +kernel
theorem dX8_closeBracket_11 : decode cX8_closeBracket 11 = .ok (.if_icmp .ge 32, 3) := by decide +kernel
theorem dX8_closeBracket_14 : decode cX8_closeBracket 14 = .ok (.iload_n 3, 1) := by decide +kernel
theorem dX8_closeBracket_15 : decode cX8_closeBracket 15 = .ok (.ifCond .lt 28, 3) := by decide +kernel
theorem dX8_closeBracket_18 : decode cX8_closeBracket 18 = .ok (.iload_n 3, 1) := by decide +kernel
theorem dX8_closeBracket_19 : decode cX8_closeBracket 19 = .ok (.iload_n 2, 1) := by decide +kernel
theorem dX8_closeBracket_20 : decode cX8_closeBracket 20 = .ok (.if_icmp .ge 23, 3) := by decide +kernel
theorem dX8_closeBracket_23 : decode cX8_closeBracket 23 = .ok (.aload_n 0, 1) := by decide +kernel
theorem dX8_closeBracket_24 : decode cX8_closeBracket 24 = .ok (.getfield 18, 3) := by decide +kernel
theorem dX8_closeBracket_27 : decode cX8_closeBracket 27 = .ok (.iload_n 3, 1) := by decide +kernel
theorem dX8_closeBracket_28 : decode cX8_closeBracket 28 = .ok (.iload_n 2, 1) := by decide +kernel
theorem dX8_closeBracket_29 : decode cX8_closeBracket 29 = .ok (.iastore, 1) := by decide +kernel
theorem dX8_closeBracket_30 : decode cX8_closeBracket 30 = .ok (.aload_n 0, 1) := by decide +kernel
theorem dX8_closeBracket_31 : decode cX8_closeBracket 31 = .ok (.getfield 15, 3) := by decide +kernel
theorem dX8_closeBracket_34 : decode cX8_closeBracket 34 = .ok (.iload_n 3, 1) := by decide +kernel
theorem dX8_closeBracket_35 : decode cX8_closeBracket 35 = .ok (.iaload, 1) := by decide +kernel
theorem dX8_closeBracket_36 : decode cX8_closeBracket 36 = .ok (.istore_n 3, 1) := by decide +kernel
theorem dX8_closeBracket_37 : decode cX8_closeBracket 37 = .ok (.iinc 4 1, 3) := by decide +kernel
theorem dX8_closeBracket_40 : decode cX8_closeBracket 40 = .ok (.goto (-35), 3) := by decide +kernel
theorem dX8_closeBracket_43 : decode cX8_closeBracket 43 = .ok (.aload_n 0, 1) := by decide +kernel
theorem dX8_closeBracket_44 : decode cX8_closeBracket 44 = .ok (.getfield 18, 3) := by decide +kernel
theorem dX8_closeBracket_47 : decode cX8_closeBracket 47 = .ok (.iload_n 2, 1) := by decide +kernel
theorem dX8_closeBracket_48 : decode cX8_closeBracket 48 = .ok (.iload_n 1, 1) := by decide +kernel
theorem dX8_closeBracket_49 : decode cX8_closeBracket 49 = .ok (.iastore, 1) := by decide +kernel
theorem dX8_closeBracket_50 : decode cX8_closeBracket 50 = .ok (.iload_n 2, 1) := by decide +kernel
theorem dX8_closeBracket_51 : decode cX8_closeBracket 51 = .ok (.iconst 1, 1) := by decide +kernel
theorem dX8_closeBracket_52 : decode cX8_closeBracket 52 = .ok (.iadd, 1) := by decide +kernel
theorem dX8_closeBracket_53 : decode cX8_closeBracket 53 = .ok (.istore 4, 2) := by decide +kernel
theorem dX8_closeBracket_55 : decode cX8_closeBracket 55 = .ok (.iload 4, 2) := by decide +kernel
theorem dX8_closeBracket_57 : decode cX8_closeBracket 57 = .ok (.aload_n 0, 1) := by decide +kernel
theorem dX8_closeBracket_58 : decode cX8_closeBracket 58 = .ok (.getfield 38, 3) := by decide +kernel
theorem dX8_closeBracket_61 : decode cX8_closeBracket 61 = .ok (.if_icmp .ge 21, 3) := by decide +kernel
theorem dX8_closeBracket_64 : decode cX8_closeBracket 64 = .ok (.aload_n 0, 1) := by decide +kernel
theorem dX8_closeBracket_65 : decode cX8_closeBracket 65 = .ok (.getfield 9, 3) := by decide +kernel
theorem dX8_closeBracket_68 : decode cX8_closeBracket 68 = .ok (.iload 4, 2) := by decide +kernel
theorem dX8_closeBracket_70 : decode cX8_closeBracket 70 = .ok (.iaload, 1) := by decide +kernel
theorem dX8_closeBracket_71 : decode cX8_closeBracket 71 = .ok (.bipush 32, 2) := by decide +kernel
theorem dX8_closeBracket_73 : decode cX8_closeBracket 73 = .ok (.if_icmp .ne 9, 3) := by decide +kernel
theorem dX8_closeBracket_76 : decode cX8_closeBracket 76 = .ok (.iinc 4 1, 3) := by decide +kernel
theorem dX8_closeBracket_79 : decode cX8_closeBracket 79 = .ok (.goto (-24), 3) := by decide +kernel
theorem dX8_closeBracket_82 : decode cX8_closeBracket 82 = .ok (.aload_n 0, 1) := by decide +kernel
theorem dX8_closeBracket_83 : decode cX8_closeBracket 83 = .ok (.getfield 24, 3) := by decide +kernel
theorem dX8_closeBracket_86 : decode cX8_closeBracket 86 = .ok (.iload_n 2, 1) := by decide +kernel
theorem dX8_closeBracket_87 : decode cX8_closeBracket 87 = .ok (.iload 4, 2) := by decide +kernel
theorem dX8_closeBracket_89 : decode cX8_closeBracket 89 = .ok (.aload_n 0, 1) := by decide +kernel
theorem dX8_closeBracket_90 : decode cX8_closeBracket 90 = .ok (.getfield 38, 3) := by decide +kernel
theorem dX8_closeBracket_93 : decode cX8_closeBracket 93 = .ok (.if_icmp .ge 19, 3) := by decide +kernel
theorem dX8_closeBracket_96 : decode cX8_closeBracket 96 = .ok (.aload_n 0, 1) := by decide +kernel
theorem dX8_closeBracket_97 : decode cX8_closeBracket 97 = .ok (.getfield 9, 3) := by decide +kernel
theorem dX8_closeBracket_100 : decode cX8_closeBracket 100 = .ok (.iload 4, 2) := by decide +kernel
theorem dX8_closeBracket_102 : decode cX8_closeBracket 102 = .ok (.iaload, 1) := by decide +kernel
theorem dX8_closeBracket_103 : decode cX8_closeBracket 103 = .ok (.bipush 42, 2) := by decide +kernel
theorem dX8_closeBracket_105 : decode cX8_closeBracket 105 = .ok (.if_icmp .ne 7, 3) := by decide +kernel
theorem dX8_closeBracket_108 : decode cX8_closeBracket 108 = .ok (.iconst 1, 1) := by decide +kernel
theorem dX8_closeBracket_109 : decode cX8_closeBracket 109 = .ok (.goto 4, 3) := by decide +kernel
theorem dX8_closeBracket_112 : decode cX8_closeBracket 112 = .ok (.iconst 0, 1) := by decide +kernel
theorem dX8_closeBracket_113 : decode cX8_closeBracket 113 = .ok (.bastore, 1) := by decide +kernel
theorem dX8_closeBracket_114 : decode cX8_closeBracket 114 = .ok (.aload_n 0, 1) := by decide +kernel
theorem dX8_closeBracket_115 : decode cX8_closeBracket 115 = .ok (.getfield 21, 3) := by decide +kernel
theorem dX8_closeBracket_118 : decode cX8_closeBracket 118 = .ok (.iload_n 2, 1) := by decide +kernel
theorem dX8_closeBracket_119 : decode cX8_closeBracket 119 = .ok (.aload_n 0, 1) := by decide +kernel
theorem dX8_closeBracket_120 : decode cX8_closeBracket 120 = .ok (.getfield 24, 3) := by decide +kernel
theorem dX8_closeBracket_123 : decode cX8_closeBracket 123 = .ok (.iload_n 2, 1) := by decide +kernel
theorem dX8_closeBracket_124 : decode cX8_closeBracket 124 = .ok (.baload, 1) := by decide +kernel
theorem dX8_closeBracket_125 : decode cX8_closeBracket 125 = .ok (.ifCond .eq 10, 3) := by decide +kernel
theorem dX8_closeBracket_128 : decode cX8_closeBracket 128 = .ok (.iload 4, 2) := by decide +kernel
theorem dX8_closeBracket_130 : decode cX8_closeBracket 130 = .ok (.iconst 1, 1) := by decide +kernel
theorem dX8_closeBracket_131 : decode cX8_closeBracket 131 = .ok (.iadd, 1) := by decide +kernel
theorem dX8_closeBracket_132 : decode cX8_closeBracket 132 = .ok (.goto 6, 3) := by decide +kernel
theorem dX8_closeBracket_135 : decode cX8_closeBracket 135 = .ok (.iload_n 2, 1) := by decide +kernel
theorem dX8_closeBracket_136 : decode cX8_closeBracket 136 = .ok (.iconst 1, 1) := by decide +kernel
theorem dX8_closeBracket_137 : decode cX8_closeBracket 137 = .ok (.iadd, 1) := by decide +kernel
theorem dX8_closeBracket_138 : decode cX8_closeBracket 138 = .ok (.iastore, 1) := by decide +kernel
theorem dX8_closeBracket_139 : decode cX8_closeBracket 139 = .ok (.return_, 1) := by decide +kernel
theorem dX8_callAt_0 : decode cX8_callAt 0 = .ok (.iload_n 1, 1) := by decide +kernel
theorem dX8_callAt_1 : decode cX8_callAt 1 = .ok (.ifCond .lt 18, 3) := by decide +kernel
theorem dX8_callAt_4 : decode cX8_callAt 4 = .ok (.iload_n 1, 1) := by decide +kernel
theorem dX8_callAt_5 : decode cX8_callAt 5 = .ok (.aload_n 0, 1) := by decide +kernel
theorem dX8_callAt_6 : decode cX8_callAt 6 = .ok (.getfield 38, 3) := by decide +kernel
theorem dX8_callAt_9 : decode cX8_callAt 9 = .ok (.if_icmp .ge 10, 3) := by decide +kernel
theorem dX8_callAt_12 : decode cX8_callAt 12 = .ok (.iload_n 1, 1) := by decide +kernel
theorem dX8_callAt_13 : decode cX8_callAt 13 = .ok (.sipush 200, 3) := by decide +kernel
theorem dX8_callAt_16 : decode cX8_callAt 16 = .ok (.if_icmp .lt 5, 3) := by decide +kernel
theorem dX8_callAt_19 : decode cX8_callAt 19 = .ok (.iconst (-1), 1) := by decide +kernel
theorem dX8_callAt_20 : decode cX8_callAt 20 = .ok (.ireturn, 1) := by decide +kernel
theorem dX8_callAt_21 : decode cX8_callAt 21 = .ok (.aload_n 0, 1) := by decide +kernel
theorem dX8_callAt_22 : decode cX8_callAt 22 = .ok (.getfield 9, 3) := by decide +kernel
theorem dX8_callAt_25 : decode cX8_callAt 25 = .ok (.iload_n 1, 1) := by decide +kernel
theorem dX8_callAt_26 : decode cX8_callAt 26 = .ok (.iaload, 1) := by decide +kernel
theorem dX8_callAt_27 : decode cX8_callAt 27 = .ok (.bipush 97, 2) := by decide +kernel
theorem dX8_callAt_29 : decode cX8_callAt 29 = .ok (.isub, 1) := by decide +kernel
theorem dX8_callAt_30 : decode cX8_callAt 30 = .ok (.invokestatic 49, 3) := by decide +kernel
theorem dX8_callAt_33 : decode cX8_callAt 33 = .ok (.ifCond .eq 15, 3) := by decide +kernel
theorem dX8_callAt_36 : decode cX8_callAt 36 = .ok (.aload_n 0, 1) := by decide +kernel
theorem dX8_callAt_37 : decode cX8_callAt 37 = .ok (.getfield 9, 3) := by decide +kernel
theorem dX8_callAt_40 : decode cX8_callAt 40 = .ok (.iload_n 1, 1) := by decide +kernel
theorem dX8_callAt_41 : decode cX8_callAt 41 = .ok (.iaload, 1) := by decide +kernel
theorem dX8_callAt_42 : decode cX8_callAt 42 = .ok (.bipush 97, 2) := by decide +kernel
theorem dX8_callAt_44 : decode cX8_callAt 44 = .ok (.isub, 1) := by decide +kernel
theorem dX8_callAt_45 : decode cX8_callAt 45 = .ok (.goto 4, 3) := by decide +kernel
theorem dX8_callAt_48 : decode cX8_callAt 48 = .ok (.iconst (-1), 1) := by decide +kernel
theorem dX8_callAt_49 : decode cX8_callAt 49 = .ok (.ireturn, 1) := by decide +kernel
theorem dX9_init_0 : decode cX9_init 0 = .ok (.aload_n 0, 1) := by decide +kernel
theorem dX9_init_1 : decode cX9_init 1 = .ok (.invokespecial 3, 3) := by decide +kernel
theorem dX9_init_4 : decode cX9_init 4 = .ok (.aload_n 0, 1) := by decide +kernel
theorem dX9_init_5 : decode cX9_init 5 = .ok (.sipush 5768, 3) := by decide +kernel
theorem dX9_init_8 : decode cX9_init 8 = .ok (.newarray .int, 2) := by decide +kernel
theorem dX9_init_10 : decode cX9_init 10 = .ok (.putfield 9, 3) := by decide +kernel
theorem dX9_init_13 : decode cX9_init 13 = .ok (.aload_n 0, 1) := by decide +kernel
theorem dX9_init_14 : decode cX9_init 14 = .ok (.sipush 721, 3) := by decide +kernel
theorem dX9_init_17 : decode cX9_init 17 = .ok (.newarray .int, 2) := by decide +kernel
theorem dX9_init_19 : decode cX9_init 19 = .ok (.putfield 15, 3) := by decide +kernel
theorem dX9_init_22 : decode cX9_init 22 = .ok (.aload_n 0, 1) := by decide +kernel
theorem dX9_init_23 : decode cX9_init 23 = .ok (.sipush 721, 3) := by decide +kernel
theorem dX9_init_26 : decode cX9_init 26 = .ok (.newarray .int, 2) := by decide +kernel
theorem dX9_init_28 : decode cX9_init 28 = .ok (.putfield 18, 3) := by decide +kernel
theorem dX9_init_31 : decode cX9_init 31 = .ok (.aload_n 0, 1) := by decide +kernel
theorem dX9_init_32 : decode cX9_init 32 = .ok (.bipush 60, 2) := by decide +kernel
theorem dX9_init_34 : decode cX9_init 34 = .ok (.newarray .int, 2) := by decide +kernel
theorem dX9_init_36 : decode cX9_init 36 = .ok (.putfield 21, 3) := by decide +kernel
theorem dX9_init_39 : decode cX9_init 39 = .ok (.aload_n 0, 1) := by decide +kernel
theorem dX9_init_40 : decode cX9_init 40 = .ok (.bipush 60, 2) := by decide +kernel
theorem dX9_init_42 : decode cX9_init 42 = .ok (.newarray .int, 2) := by decide +kernel
theorem dX9_init_44 : decode cX9_init 44 = .ok (.putfield 24, 3) := by decide +kernel
theorem dX9_init_47 : decode cX9_init 47 = .ok (.aload_n 0, 1) := by decide +kernel
theorem dX9_init_48 : decode cX9_init 48 = .ok (.aload_n 1, 1) := by decide +kernel
theorem dX9_init_49 : decode cX9_init 49 = .ok (.putfield 27, 3) := by decide +kernel
theorem dX9_init_52 : decode cX9_init 52 = .ok (.return_, 1) := by decide +kernel
theorem dX9_childOf_0 : decode cX9_childOf 0 = .ok (.iload_n 1, 1) := by decide +kernel
theorem dX9_childOf_1 : decode cX9_childOf 1 = .ok (.ifCond .lt 20, 3) := by decide +kernel
theorem dX9_childOf_4 : decode cX9_childOf 4 = .ok (.iload_n 1, 1) := by decide +kernel
theorem dX9_childOf_5 : decode cX9_childOf 5 = .ok (.sipush 721, 3) := by decide +kernel
theorem dX9_childOf_8 : decode cX9_childOf 8 = .ok (.if_icmp .ge 13, 3) := by decide +kernel
theorem dX9_childOf_11 : decode cX9_childOf 11 = .ok (.iload_n 2, 1) := by decide +kernel
theorem dX9_childOf_12 : decode cX9_childOf 12 = .ok (.ifCond .lt 9, 3) := by decide +kernel
theorem dX9_childOf_15 : decode cX9_childOf 15 = .ok (.iload_n 2, 1) := by decide +kernel
theorem dX9_childOf_16 : decode cX9_childOf 16 = .ok (.bipush 8, 2) := by decide +kernel
theorem dX9_childOf_18 : decode cX9_childOf 18 = .ok (.if_icmp .lt 5, 3) := by decide +kernel
theorem dX9_childOf_21 : decode cX9_childOf 21 = .ok (.iconst (-1), 1) := by decide +kernel
theorem dX9_childOf_22 : decode cX9_childOf 22 = .ok (.ireturn, 1) := by decide +kernel
theorem dX9_childOf_23 : decode cX9_childOf 23 = .ok (.aload_n 0, 1) := by decide +kernel
theorem dX9_childOf_24 : decode cX9_childOf 24 = .ok (.getfield 9, 3) := by decide +kernel
theorem dX9_childOf_27 : decode cX9_childOf 27 = .ok (.iload_n 1, 1) := by decide +kernel
theorem dX9_childOf_28 : decode cX9_childOf 28 = .ok (.bipush 8, 2) := by decide +kernel
theorem dX9_childOf_30 : decode cX9_childOf 30 = .ok (.imul, 1) := by decide +kernel
theorem dX9_childOf_31 : decode cX9_childOf 31 = .ok (.iload_n 2, 1) := by decide +kernel
theorem dX9_childOf_32 : decode cX9_childOf 32 = .ok (.iadd, 1) := by decide +kernel
theorem dX9_childOf_33 : decode cX9_childOf 33 = .ok (.iaload, 1) := by decide +kernel
theorem dX9_childOf_34 : decode cX9_childOf 34 = .ok (.ireturn, 1) := by decide +kernel
theorem dX9_grow_0 : decode cX9_grow 0 = .ok (.aload_n 0, 1) := by decide +kernel
theorem dX9_grow_1 : decode cX9_grow 1 = .ok (.iconst 0, 1) := by decide +kernel
theorem dX9_grow_2 : decode cX9_grow 2 = .ok (.putfield 31, 3) := by decide +kernel
theorem dX9_grow_5 : decode cX9_grow 5 = .ok (.aload_n 0, 1) := by decide +kernel
theorem dX9_grow_6 : decode cX9_grow 6 = .ok (.iconst (-1), 1) := by decide +kernel
theorem dX9_grow_7 : decode cX9_grow 7 = .ok (.iconst (-1), 1) := by decide +kernel
theorem dX9_grow_8 : decode cX9_grow 8 = .ok (.invokevirtual 35, 3) := by decide +kernel
theorem dX9_grow_11 : decode cX9_grow 11 = .ok (.pop, 1) := by decide +kernel
theorem dX9_grow_12 : decode cX9_grow 12 = .ok (.iconst 0, 1) := by decide +kernel
theorem dX9_grow_13 : decode cX9_grow 13 = .ok (.istore_n 1, 1) := by decide +kernel
theorem dX9_grow_14 : decode cX9_grow 14 = .ok (.iload_n 1, 1) := by decide +kernel
theorem dX9_grow_15 : decode cX9_grow 15 = .ok (.bipush 60, 2) := by decide +kernel
theorem dX9_grow_17 : decode cX9_grow 17 = .ok (.if_icmp .ge 45, 3) := by decide +kernel
theorem dX9_grow_20 : decode cX9_grow 20 = .ok (.aload_n 0, 1) := by decide +kernel
theorem dX9_grow_21 : decode cX9_grow 21 = .ok (.getfield 21, 3) := by decide +kernel
theorem dX9_grow_24 : decode cX9_grow 24 = .ok (.iload_n 1, 1) := by decide +kernel
theorem dX9_grow_25 : decode cX9_grow 25 = .ok (.aload_n 0, 1) := by decide +kernel
theorem dX9_grow_26 : decode cX9_grow 26 = .ok (.getfield 27, 3) := by decide +kernel
theorem dX9_grow_29 : decode cX9_grow 29 = .ok (.iload_n 1, 1) := by decide +kernel
theorem dX9_grow_30 : decode cX9_grow 30 = .ok (.invokevirtual 39, 3) := by decide +kernel
theorem dX9_grow_33 : decode cX9_grow 33 = .ok (.ifCond .eq 14, 3) := by decide +kernel
theorem dX9_grow_36 : decode cX9_grow 36 = .ok (.aload_n 0, 1) := by decide +kernel
theorem dX9_grow_37 : decode cX9_grow 37 = .ok (.getfield 27, 3) := by decide +kernel
theorem dX9_grow_40 : decode cX9_grow 40 = .ok (.iload_n 1, 1) := by decide +kernel
theorem dX9_grow_41 : decode cX9_grow 41 = .ok (.invokevirtual 45, 3) := by decide +kernel
theorem dX9_grow_44 : decode cX9_grow 44 = .ok (.goto 4, 3) := by decide +kernel
theorem dX9_grow_47 : decode cX9_grow 47 = .ok (.iconst 0, 1) := by decide +kernel
theorem dX9_grow_48 : decode cX9_grow 48 = .ok (.iastore, 1) := by decide +kernel
theorem dX9_grow_49 : decode cX9_grow 49 = .ok (.aload_n 0, 1) := by decide +kernel
theorem dX9_grow_50 : decode cX9_grow 50 = .ok (.getfield 24, 3) := by decide +kernel
theorem dX9_grow_53 : decode cX9_grow 53 = .ok (.iload_n 1, 1) := by decide +kernel
theorem dX9_grow_54 : decode cX9_grow 54 = .ok (.iconst 0, 1) := by decide +kernel
theorem dX9_grow_55 : decode cX9_grow 55 = .ok (.iastore, 1) := by decide +kernel
theorem dX9_grow_56 : decode cX9_grow 56 = .ok (.iinc 1 1, 3) := by decide +kernel
theorem dX9_grow_59 : decode cX9_grow 59 = .ok (.goto (-45), 3) := by decide +kernel
theorem dX9_grow_62 : decode cX9_grow 62 = .ok (.iconst 0, 1) := by decide +kernel
theorem dX9_grow_63 : decode cX9_grow 63 = .ok (.istore_n 1, 1) := by decide +kernel
theorem dX9_grow_64 : decode cX9_grow 64 = .ok (.iconst 0, 1) := by decide +kernel
theorem dX9_grow_65 : decode cX9_grow 65 = .ok (.istore_n 2, 1) := by decide +kernel
theorem dX9_grow_66 : decode cX9_grow 66 = .ok (.iload_n 2, 1) := by decide +kernel
theorem dX9_grow_67 : decode cX9_grow 67 = .ok (.bipush 12, 2) := by decide +kernel
theorem dX9_grow_69 : decode cX9_grow 69 = .ok (.if_icmp .ge 40, 3) := by decide +kernel
theorem dX9_grow_72 : decode cX9_grow 72 = .ok (.iload_n 1, 1) := by decide +kernel
theorem dX9_grow_73 : decode cX9_grow 73 = .ok (.aload_n 0, 1) := by decide +kernel
theorem dX9_grow_74 : decode cX9_grow 74 = .ok (.getfield 31, 3) := by decide +kernel
theorem dX9_grow_77 : decode cX9_grow 77 = .ok (.if_icmp .ge 32, 3) := by decide +kernel
theorem dX9_grow_80 : decode cX9_grow 80 = .ok (.aload_n 0, 1) := by decide +kernel
theorem dX9_grow_81 : decode cX9_grow 81 = .ok (.getfield 31, 3) := by decide +kernel
theorem dX9_grow_84 : decode cX9_grow 84 = .ok (.istore_n 3, 1) := by decide +kernel
theorem dX9_grow_85 : decode cX9_grow 85 = .ok (.aload_n 0, 1) := by decide +kernel
theorem dX9_grow_86 : decode cX9_grow 86 = .ok (.iload_n 2, 1) := by decide +kernel
theorem dX9_grow_87 : decode cX9_grow 87 = .ok (.invokevirtual 49, 3) := by decide +kernel
theorem dX9_grow_90 : decode cX9_grow 90 = .ok (.aload_n 0, 1) := by decide +kernel
theorem dX9_grow_91 : decode cX9_grow 91 = .ok (.iload_n 1, 1) := by decide +kernel
theorem dX9_grow_92 : decode cX9_grow 92 = .ok (.iload_n 3, 1) := by decide +kernel
theorem dX9_grow_93 : decode cX9_grow 93 = .ok (.invokevirtual 53, 3) := by decide +kernel
theorem dX9_grow_96 : decode cX9_grow 96 = .ok (.aload_n 0, 1) := by decide +kernel
theorem dX9_grow_97 : decode cX9_grow 97 = .ok (.iload_n 2, 1) := by decide +kernel
theorem dX9_grow_98 : decode cX9_grow 98 = .ok (.invokevirtual 57, 3) := by decide +kernel
theorem dX9_grow_101 : decode cX9_grow 101 = .ok (.iload_n 3, 1) := by decide +kernel
theorem dX9_grow_102 : decode cX9_grow 102 = .ok (.istore_n 1, 1) := by decide +kernel
theorem dX9_grow_103 : decode cX9_grow 103 = .ok (.iinc 2 1, 3) := by decide +kernel
theorem dX9_grow_106 : decode cX9_grow 106 = .ok (.goto (-40), 3) := by decide +kernel
theorem dX9_grow_109 : decode cX9_grow 109 = .ok (.return_, 1) := by decide +kernel
theorem dX9_addNode_0 : decode cX9_addNode 0 = .ok (.aload_n 0, 1) := by decide +kernel
theorem dX9_addNode_1 : decode cX9_addNode 1 = .ok (.getfield 31, 3) := by decide +kernel
theorem dX9_addNode_4 : decode cX9_addNode 4 = .ok (.sipush 721, 3) := by decide +kernel
theorem dX9_addNode_7 : decode cX9_addNode 7 = .ok (.if_icmp .lt 5, 3) := by decide +kernel
theorem dX9_addNode_10 : decode cX9_addNode 10 = .ok (.iconst (-1), 1) := by decide +kernel
theorem dX9_addNode_11 : decode cX9_addNode 11 = .ok (.ireturn, 1) := by decide +kernel
theorem dX9_addNode_12 : decode cX9_addNode 12 = .ok (.aload_n 0, 1) := by decide +kernel
theorem dX9_addNode_13 : decode cX9_addNode 13 = .ok (.getfield 15, 3) := by decide +kernel
theorem dX9_addNode_16 : decode cX9_addNode 16 = .ok (.aload_n 0, 1) := by decide +kernel
theorem dX9_addNode_17 : decode cX9_addNode 17 = .ok (.getfield 31, 3) := by decide +kernel
theorem dX9_addNode_20 : decode cX9_addNode 20 = .ok (.iload_n 1, 1) := by decide +kernel
theorem dX9_addNode_21 : decode cX9_addNode 21 = .ok (.iastore, 1) := by decide +kernel
theorem dX9_addNode_22 : decode cX9_addNode 22 = .ok (.aload_n 0, 1) := by decide +kernel
theorem dX9_addNode_23 : decode cX9_addNode 23 = .ok (.getfield 18, 3) := by decide +kernel
theorem dX9_addNode_26 : decode cX9_addNode 26 = .ok (.aload_n 0, 1) := by decide +kernel
theorem dX9_addNode_27 : decode cX9_addNode 27 = .ok (.getfield 31, 3) := by decide +kernel
theorem dX9_addNode_30 : decode cX9_addNode 30 = .ok (.iload_n 2, 1) := by decide +kernel
theorem dX9_addNode_31 : decode cX9_addNode 31 = .ok (.iastore, 1) := by decide +kernel
theorem dX9_addNode_32 : decode cX9_addNode 32 = .ok (.iconst 0, 1) := by decide +kernel
theorem dX9_addNode_33 : decode cX9_addNode 33 = .ok (.istore_n 3, 1) := by decide +kernel
theorem dX9_addNode_34 : decode cX9_addNode 34 = .ok (.iload_n 3, 1) := by decide +kernel
theorem dX9_addNode_35 : decode cX9_addNode 35 = .ok (.bipush 8, 2) := by decide +kernel
theorem dX9_addNode_37 : decode cX9_addNode 37 = .ok (.if_icmp .ge 24, 3) := by decide +kernel
theorem dX9_addNode_40 : decode cX9_addNode 40 = .ok (.aload_n 0, 1) := by decide +kernel
theorem dX9_addNode_41 : decode cX9_addNode 41 = .ok (.getfield 9, 3) := by decide +kernel
theorem dX9_addNode_44 : decode cX9_addNode 44 = .ok (.aload_n 0, 1) := by decide +kernel
theorem dX9_addNode_45 : decode cX9_addNode 45 = .ok (.getfield 31, 3) := by decide +kernel
theorem dX9_addNode_48 : decode cX9_addNode 48 = .ok (.bipush 8, 2) := by decide +kernel
theorem dX9_addNode_50 : decode cX9_addNode 50 = .ok (.imul, 1) := by decide +kernel
theorem dX9_addNode_51 : decode cX9_addNode 51 = .ok (.iload_n 3, 1) := by decide +kernel
theorem dX9_addNode_52 : decode cX9_addNode 52 = .ok (.iadd, 1) := by decide +kernel
theorem dX9_addNode_53 : decode cX9_addNode 53 = .ok (.iconst (-1), 1) := by decide +kernel
theorem dX9_addNode_54 : decode cX9_addNode 54 = .ok (.iastore, 1) := by decide +kernel
theorem dX9_addNode_55 : decode cX9_addNode 55 = .ok (.iinc 3 1, 3) := by decide +kernel
theorem dX9_addNode_58 : decode cX9_addNode 58 = .ok (.goto (-24), 3) := by decide +kernel
theorem dX9_addNode_61 : decode cX9_addNode 61 = .ok (.aload_n 0, 1) := by decide +kernel
theorem dX9_addNode_62 : decode cX9_addNode 62 = .ok (.dup, 1) := by decide +kernel
theorem dX9_addNode_63 : decode cX9_addNode 63 = .ok (.getfield 31, 3) := by decide +kernel
theorem dX9_addNode_66 : decode cX9_addNode 66 = .ok (.iconst 1, 1) := by decide +kernel
theorem dX9_addNode_67 : decode cX9_addNode 67 = .ok (.iadd, 1) := by decide +kernel
theorem dX9_addNode_68 : decode cX9_addNode 68 = .ok (.putfield 31, 3) := by decide +kernel
theorem dX9_addNode_71 : decode cX9_addNode 71 = .ok (.aload_n 0, 1) := by decide +kernel
theorem dX9_addNode_72 : decode cX9_addNode 72 = .ok (.getfield 31, 3) := by decide +kernel
theorem dX9_addNode_75 : decode cX9_addNode 75 = .ok (.iconst 1, 1) := by decide +kernel
theorem dX9_addNode_76 : decode cX9_addNode 76 = .ok (.isub, 1) := by decide +kernel
theorem dX9_addNode_77 : decode cX9_addNode 77 = .ok (.ireturn, 1) := by decide +kernel
theorem dX9_askForChildren_0 : decode cX9_askForChildren 0 = .ok (.iconst 0, 1) := by decide +kernel
theorem dX9_askForChildren_1 : decode cX9_askForChildren 1 = .ok (.istore_n 2, 1) := by decide +kernel
theorem dX9_askForChildren_2 : decode cX9_askForChildren 2 = .ok (.iload_n 2, 1) := by decide +kernel
theorem dX9_askForChildren_3 : decode cX9_askForChildren 3 = .ok (.bipush 60, 2) := by decide +kernel
theorem dX9_askForChildren_5 : decode cX9_askForChildren 5 = .ok (.if_icmp .ge 70, 3) := by decide +kernel
theorem dX9_askForChildren_8 : decode cX9_askForChildren 8 = .ok (.aload_n 0, 1) := by decide +kernel
theorem dX9_askForChildren_9 : decode cX9_askForChildren 9 = .ok (.getfield 24, 3) := by decide +kernel
theorem dX9_askForChildren_12 : decode cX9_askForChildren 12 = .ok (.iload_n 2, 1) := by decide +kernel
theorem dX9_askForChildren_13 : decode cX9_askForChildren 13 = .ok (.iaload, 1) := by decide +kernel
theorem dX9_askForChildren_14 : decode cX9_askForChildren 14 = .ok (.istore_n 3, 1) := by decide +kernel
theorem dX9_askForChildren_15 : decode cX9_askForChildren 15 = .ok (.aload_n 0, 1) := by decide +kernel
theorem dX9_askForChildren_16 : decode cX9_askForChildren 16 = .ok (.getfield 27, 3) := by decide +kernel
theorem dX9_askForChildren_19 : decode cX9_askForChildren 19 = .ok (.iload_n 2, 1) := by decide +kernel
theorem dX9_askForChildren_20 : decode cX9_askForChildren 20 = .ok (.iload_n 1, 1) := by decide +kernel
theorem dX9_askForChildren_21 : decode cX9_askForChildren 21 = .ok (.invokevirtual 60, 3) := by decide +kernel
theorem dX9_askForChildren_24 : decode cX9_askForChildren 24 = .ok (.istore 4, 2) := by decide +kernel
theorem dX9_askForChildren_26 : decode cX9_askForChildren 26 = .ok (.aload_n 0, 1) := by decide +kernel
theorem dX9_askForChildren_27 : decode cX9_askForChildren 27 = .ok (.getfield 21, 3) := by decide +kernel
theorem dX9_askForChildren_30 : decode cX9_askForChildren 30 = .ok (.iload_n 2, 1) := by decide +kernel
theorem dX9_askForChildren_31 : decode cX9_askForChildren 31 = .ok (.iaload, 1) := by decide +kernel
theorem dX9_askForChildren_32 : decode cX9_askForChildren 32 = .ok (.iload_n 1, 1) := by decide +kernel
theorem dX9_askForChildren_33 : decode cX9_askForChildren 33 = .ok (.if_icmp .le 36, 3) := by decide +kernel
theorem dX9_askForChildren_36 : decode cX9_askForChildren 36 = .ok (.iload_n 3, 1) := by decide +kernel
theorem dX9_askForChildren_37 : decode cX9_askForChildren 37 = .ok (.ifCond .lt 32, 3) := by decide +kernel
theorem dX9_askForChildren_40 : decode cX9_askForChildren 40 = .ok (.iload_n 3, 1) := by decide +kernel
theorem dX9_askForChildren_41 : decode cX9_askForChildren 41 = .ok (.sipush 721, 3) := by decide +kernel
theorem dX9_askForChildren_44 : decode cX9_askForChildren 44 = .ok (.if_icmp .ge 25, 3) := by decide +kernel
theorem dX9_askForChildren_47 : decode cX9_askForChildren 47 = .ok (.iload 4, 2) := by decide +kernel
theorem dX9_askForChildren_49 : decode cX9_askForChildren 49 = .ok (.invokestatic 63, 3) := by decide +kernel
theorem dX9_askForChildren_52 : decode cX9_askForChildren 52 = .ok (.ifCond .eq 17, 3) := by decide +kernel
theorem dX9_askForChildren_55 : decode cX9_askForChildren 55 = .ok (.aload_n 0, 1) := by decide +kernel
theorem dX9_askForChildren_56 : decode cX9_askForChildren 56 = .ok (.getfield 9, 3) := by decide +kernel
theorem dX9_askForChildren_59 : decode cX9_askForChildren 59 = .ok (.iload_n 3, 1) := by decide +kernel
theorem dX9_askForChildren_60 : decode cX9_askForChildren 60 = .ok (.bipush 8, 2) := by decide +kernel
theorem dX9_askForChildren_62 : decode cX9_askForChildren 62 = .ok (.imul, 1) := by decide +kernel
theorem dX9_askForChildren_63 : decode cX9_askForChildren 63 = .ok (.iload 4, 2) := by decide +kernel
theorem dX9_askForChildren_65 : decode cX9_askForChildren 65 = .ok (.iadd, 1) := by decide +kernel
theorem dX9_askForChildren_66 : decode cX9_askForChildren 66 = .ok (.bipush (-2), 2) := by decide +kernel
theorem dX9_askForChildren_68 : decode cX9_askForChildren 68 = .ok (.iastore, 1) := by decide +kernel
theorem dX9_askForChildren_69 : decode cX9_askForChildren 69 = .ok (.iinc 2 1, 3) := by decide +kernel
theorem dX9_askForChildren_72 : decode cX9_askForChildren 72 = .ok (.goto (-70), 3) := by decide +kernel
theorem dX9_askForChildren_75 : decode cX9_askForChildren 75 = .ok (.return_, 1) := by decide +kernel
theorem dX9_nameChildren_0 : decode cX9_nameChildren 0 = .ok (.iload_n 1, 1) := by decide +kernel
theorem dX9_nameChildren_1 : decode cX9_nameChildren 1 = .ok (.istore_n 3, 1) := by decide +kernel
theorem dX9_nameChildren_2 : decode cX9_nameChildren 2 = .ok (.iload_n 3, 1) := by decide +kernel
theorem dX9_nameChildren_3 : decode cX9_nameChildren 3 = .ok (.iload_n 2, 1) := by decide +kernel
theorem dX9_nameChildren_4 : decode cX9_nameChildren 4 = .ok (.if_icmp .ge 68, 3) := by decide +kernel
theorem dX9_nameChildren_7 : decode cX9_nameChildren 7 = .ok (.iload_n 3, 1) := by decide +kernel
theorem dX9_nameChildren_8 : decode cX9_nameChildren 8 = .ok (.sipush 721, 3) := by decide +kernel
theorem dX9_nameChildren_11 : decode cX9_nameChildren 11 = .ok (.if_icmp .ge 61, 3) := by decide +kernel
theorem dX9_nameChildren_14 : decode cX9_nameChildren 14 = .ok (.iconst 0, 1) := by decide +kernel
theorem dX9_nameChildren_15 : decode cX9_nameChildren 15 = .ok (.istore 4, 2) := by decide +kernel
theorem dX9_nameChildren_17 : decode cX9_nameChildren 17 = .ok (.iload 4, 2) := by decide +kernel
theorem dX9_nameChildren_19 : decode cX9_nameChildren 19 = .ok (.bipush 8, 2) := by decide +kernel
theorem dX9_nameChildren_21 : decode cX9_nameChildren 21 = .ok (.if_icmp .ge 45, 3) := by decide +kernel
theorem dX9_nameChildren_24 : decode cX9_nameChildren 24 = .ok (.aload_n 0, 1) := by decide +kernel
theorem dX9_nameChildren_25 : decode cX9_nameChildren 25 = .ok (.getfield 9, 3) := by decide +kernel
theorem dX9_nameChildren_28 : decode cX9_nameChildren 28 = .ok (.iload_n 3, 1) := by decide +kernel
theorem dX9_nameChildren_29 : decode cX9_nameChildren 29 = .ok (.bipush 8, 2) := by decide +kernel
theorem dX9_nameChildren_31 : decode cX9_nameChildren 31 = .ok (.imul, 1) := by decide +kernel
theorem dX9_nameChildren_32 : decode cX9_nameChildren 32 = .ok (.iload 4, 2) := by decide +kernel
theorem dX9_nameChildren_34 : decode cX9_nameChildren 34 = .ok (.iadd, 1) := by decide +kernel
theorem dX9_nameChildren_35 : decode cX9_nameChildren 35 = .ok (.iaload, 1) := by decide +kernel
theorem dX9_nameChildren_36 : decode cX9_nameChildren 36 = .ok (.bipush (-2), 2) := by decide +kernel
theorem dX9_nameChildren_38 : decode cX9_nameChildren 38 = .ok (.if_icmp .ne 22, 3) := by decide +kernel
theorem dX9_nameChildren_41 : decode cX9_nameChildren 41 = .ok (.aload_n 0, 1) := by decide +kernel
theorem dX9_nameChildren_42 : decode cX9_nameChildren 42 = .ok (.getfield 9, 3) := by decide +kernel
theorem dX9_nameChildren_45 : decode cX9_nameChildren 45 = .ok (.iload_n 3, 1) := by decide +kernel
theorem dX9_nameChildren_46 : decode cX9_nameChildren 46 = .ok (.bipush 8, 2) := by decide +kernel
theorem dX9_nameChildren_48 : decode cX9_nameChildren 48 = .ok (.imul, 1) := by decide +kernel
theorem dX9_nameChildren_49 : decode cX9_nameChildren 49 = .ok (.iload 4, 2) := by decide +kernel
theorem dX9_nameChildren_51 : decode cX9_nameChildren 51 = .ok (.iadd, 1) := by decide +kernel
theorem dX9_nameChildren_52 : decode cX9_nameChildren 52 = .ok (.aload_n 0, 1) := by decide +kernel
theorem dX9_nameChildren_53 : decode cX9_nameChildren 53 = .ok (.iload_n 3, 1) := by decide +kernel
theorem dX9_nameChildren_54 : decode cX9_nameChildren 54 = .ok (.iload 4, 2) := by decide +kernel
theorem dX9_nameChildren_56 : decode cX9_nameChildren 56 = .ok (.invokevirtual 35, 3) := by decide +kernel
theorem dX9_nameChildren_59 : decode cX9_nameChildren 59 = .ok (.iastore, 1) := by decide +kernel
theorem dX9_nameChildren_60 : decode cX9_nameChildren 60 = .ok (.iinc 4 1, 3) := by decide +kernel
theorem dX9_nameChildren_63 : decode cX9_nameChildren 63 = .ok (.goto (-46), 3) := by decide +kernel
theorem dX9_nameChildren_66 : decode cX9_nameChildren 66 = .ok (.iinc 3 1, 3) := by decide +kernel
theorem dX9_nameChildren_69 : decode cX9_nameChildren 69 = .ok (.goto (-67), 3) := by decide +kernel
theorem dX9_nameChildren_72 : decode cX9_nameChildren 72 = .ok (.return_, 1) := by decide +kernel
theorem dX9_goDown_0 : decode cX9_goDown 0 = .ok (.iconst 0, 1) := by decide +kernel
theorem dX9_goDown_1 : decode cX9_goDown 1 = .ok (.istore_n 2, 1) := by decide +kernel
theorem dX9_goDown_2 : decode cX9_goDown 2 = .ok (.iload_n 2, 1) := by decide +kernel
theorem dX9_goDown_3 : decode cX9_goDown 3 = .ok (.bipush 60, 2) := by decide +kernel
theorem dX9_goDown_5 : decode cX9_goDown 5 = .ok (.if_icmp .ge 44, 3) := by decide +kernel
theorem dX9_goDown_8 : decode cX9_goDown 8 = .ok (.aload_n 0, 1) := by decide +kernel
theorem dX9_goDown_9 : decode cX9_goDown 9 = .ok (.getfield 21, 3) := by decide +kernel
theorem dX9_goDown_12 : decode cX9_goDown 12 = .ok (.iload_n 2, 1) := by decide +kernel
theorem dX9_goDown_13 : decode cX9_goDown 13 = .ok (.iaload, 1) := by decide +kernel
theorem dX9_goDown_14 : decode cX9_goDown 14 = .ok (.iload_n 1, 1) := by decide +kernel
theorem dX9_goDown_15 : decode cX9_goDown 15 = .ok (.if_icmp .le 28, 3) := by decide +kernel
theorem dX9_goDown_18 : decode cX9_goDown 18 = .ok (.aload_n 0, 1) := by decide +kernel
theorem dX9_goDown_19 : decode cX9_goDown 19 = .ok (.getfield 24, 3) := by decide +kernel
theorem dX9_goDown_22 : decode cX9_goDown 22 = .ok (.iload_n 2, 1) := by decide +kernel
theorem dX9_goDown_23 : decode cX9_goDown 23 = .ok (.aload_n 0, 1) := by decide +kernel
theorem dX9_goDown_24 : decode cX9_goDown 24 = .ok (.aload_n 0, 1) := by decide +kernel
theorem dX9_goDown_25 : decode cX9_goDown 25 = .ok (.getfield 24, 3) := by decide +kernel
theorem dX9_goDown_28 : decode cX9_goDown 28 = .ok (.iload_n 2, 1) := by decide +kernel
theorem dX9_goDown_29 : decode cX9_goDown 29 = .ok (.iaload, 1) := by decide +kernel
theorem dX9_goDown_30 : decode cX9_goDown 30 = .ok (.aload_n 0, 1) := by decide +kernel
theorem dX9_goDown_31 : decode cX9_goDown 31 = .ok (.getfield 27, 3) := by decide +kernel
theorem dX9_goDown_34 : decode cX9_goDown 34 = .ok (.iload_n 2, 1) := by decide +kernel
theorem dX9_goDown_35 : decode cX9_goDown 35 = .ok (.iload_n 1, 1) := by decide +kernel
theorem dX9_goDown_36 : decode cX9_goDown 36 = .ok (.invokevirtual 60, 3) := by decide +kernel
theorem dX9_goDown_39 : decode cX9_goDown 39 = .ok (.invokevirtual 66, 3) := by decide +kernel
theorem dX9_goDown_42 : decode cX9_goDown 42 = .ok (.iastore, 1) := by decide +kernel
theorem dX9_goDown_43 : decode cX9_goDown 43 = .ok (.iinc 2 1, 3) := by decide +kernel
theorem dX9_goDown_46 : decode cX9_goDown 46 = .ok (.goto (-44), 3) := by decide +kernel
theorem dX9_goDown_49 : decode cX9_goDown 49 = .ok (.return_, 1) := by decide +kernel
theorem dX10_init_0 : decode cX10_init 0 = .ok (.aload_n 0, 1) := by decide +kernel
theorem dX10_init_1 : decode cX10_init 1 = .ok (.invokespecial 3, 3) := by decide +kernel
theorem dX10_init_4 : decode cX10_init 4 = .ok (.aload_n 0, 1) := by decide +kernel
theorem dX10_init_5 : decode cX10_init 5 = .ok (.new 9, 3) := by decide +kernel
theorem dX10_init_8 : decode cX10_init 8 = .ok (.dup, 1) := by decide +kernel
theorem dX10_init_9 : decode cX10_init 9 = .ok (.bipush 12, 2) := by decide +kernel
theorem dX10_init_11 : decode cX10_init 11 = .ok (.invokespecial 11, 3) := by decide +kernel
theorem dX10_init_14 : decode cX10_init 14 = .ok (.putfield 14, 3) := by decide +kernel
theorem dX10_init_17 : decode cX10_init 17 = .ok (.aload_n 0, 1) := by decide +kernel
theorem dX10_init_18 : decode cX10_init 18 = .ok (.new 18, 3) := by decide +kernel
theorem dX10_init_21 : decode cX10_init 21 = .ok (.dup, 1) := by decide +kernel
theorem dX10_init_22 : decode cX10_init 22 = .ok (.invokespecial 20, 3) := by decide +kernel
theorem dX10_init_25 : decode cX10_init 25 = .ok (.putfield 21, 3) := by decide +kernel
theorem dX10_init_28 : decode cX10_init 28 = .ok (.aload_n 0, 1) := by decide +kernel
theorem dX10_init_29 : decode cX10_init 29 = .ok (.new 25, 3) := by decide +kernel
theorem dX10_init_32 : decode cX10_init 32 = .ok (.dup, 1) := by decide +kernel
theorem dX10_init_33 : decode cX10_init 33 = .ok (.aload_n 0, 1) := by decide +kernel
theorem dX10_init_34 : decode cX10_init 34 = .ok (.getfield 21, 3) := by decide +kernel
theorem dX10_init_37 : decode cX10_init 37 = .ok (.invokespecial 27, 3) := by decide +kernel
theorem dX10_init_40 : decode cX10_init 40 = .ok (.putfield 30, 3) := by decide +kernel
theorem dX10_init_43 : decode cX10_init 43 = .ok (.aload_n 0, 1) := by decide +kernel
theorem dX10_init_44 : decode cX10_init 44 = .ok (.new 34, 3) := by decide +kernel
theorem dX10_init_47 : decode cX10_init 47 = .ok (.dup, 1) := by decide +kernel
theorem dX10_init_48 : decode cX10_init 48 = .ok (.aload_n 0, 1) := by decide +kernel
theorem dX10_init_49 : decode cX10_init 49 = .ok (.getfield 21, 3) := by decide +kernel
theorem dX10_init_52 : decode cX10_init 52 = .ok (.aload_n 0, 1) := by decide +kernel
theorem dX10_init_53 : decode cX10_init 53 = .ok (.getfield 30, 3) := by decide +kernel
theorem dX10_init_56 : decode cX10_init 56 = .ok (.invokespecial 36, 3) := by decide +kernel
theorem dX10_init_59 : decode cX10_init 59 = .ok (.putfield 39, 3) := by decide +kernel
theorem dX10_init_62 : decode cX10_init 62 = .ok (.aload_n 0, 1) := by decide +kernel
theorem dX10_init_63 : decode cX10_init 63 = .ok (.new 43, 3) := by decide +kernel
theorem dX10_init_66 : decode cX10_init 66 = .ok (.dup, 1) := by decide +kernel
theorem dX10_init_67 : decode cX10_init 67 = .ok (.invokespecial 45, 3) := by decide +kernel
theorem dX10_init_70 : decode cX10_init 70 = .ok (.putfield 46, 3) := by decide +kernel
theorem dX10_init_73 : decode cX10_init 73 = .ok (.aload_n 0, 1) := by decide +kernel
theorem dX10_init_74 : decode cX10_init 74 = .ok (.new 50, 3) := by decide +kernel
theorem dX10_init_77 : decode cX10_init 77 = .ok (.dup, 1) := by decide +kernel
theorem dX10_init_78 : decode cX10_init 78 = .ok (.aload_n 0, 1) := by decide +kernel
theorem dX10_init_79 : decode cX10_init 79 = .ok (.getfield 21, 3) := by decide +kernel
theorem dX10_init_82 : decode cX10_init 82 = .ok (.aload_n 0, 1) := by decide +kernel
theorem dX10_init_83 : decode cX10_init 83 = .ok (.getfield 30, 3) := by decide +kernel
theorem dX10_init_86 : decode cX10_init 86 = .ok (.invokespecial 52, 3) := by decide +kernel
theorem dX10_init_89 : decode cX10_init 89 = .ok (.putfield 53, 3) := by decide +kernel
theorem dX10_init_92 : decode cX10_init 92 = .ok (.aload_n 0, 1) := by decide +kernel
theorem dX10_init_93 : decode cX10_init 93 = .ok (.new 9, 3) := by decide +kernel
theorem dX10_init_96 : decode cX10_init 96 = .ok (.dup, 1) := by decide +kernel
theorem dX10_init_97 : decode cX10_init 97 = .ok (.sipush 200, 3) := by decide +kernel
theorem dX10_init_100 : decode cX10_init 100 = .ok (.invokespecial 11, 3) := by decide +kernel
theorem dX10_init_103 : decode cX10_init 103 = .ok (.putfield 57, 3) := by decide +kernel
theorem dX10_init_106 : decode cX10_init 106 = .ok (.aload_n 0, 1) := by decide +kernel
theorem dX10_init_107 : decode cX10_init 107 = .ok (.new 60, 3) := by decide +kernel
theorem dX10_init_110 : decode cX10_init 110 = .ok (.dup, 1) := by decide +kernel
theorem dX10_init_111 : decode cX10_init 111 = .ok (.invokespecial 62, 3) := by decide +kernel
theorem dX10_init_114 : decode cX10_init 114 = .ok (.putfield 63, 3) := by decide +kernel
theorem dX10_init_117 : decode cX10_init 117 = .ok (.aload_n 0, 1) := by decide +kernel
theorem dX10_init_118 : decode cX10_init 118 = .ok (.new 67, 3) := by decide +kernel
theorem dX10_init_121 : decode cX10_init 121 = .ok (.dup, 1) := by decide +kernel
theorem dX10_init_122 : decode cX10_init 122 = .ok (.aload_n 0, 1) := by decide +kernel
theorem dX10_init_123 : decode cX10_init 123 = .ok (.getfield 63, 3) := by decide +kernel
theorem dX10_init_126 : decode cX10_init 126 = .ok (.aload_n 0, 1) := by decide +kernel
theorem dX10_init_127 : decode cX10_init 127 = .ok (.getfield 46, 3) := by decide +kernel
theorem dX10_init_130 : decode cX10_init 130 = .ok (.invokespecial 69, 3) := by decide +kernel
theorem dX10_init_133 : decode cX10_init 133 = .ok (.putfield 72, 3) := by decide +kernel
theorem dX10_init_136 : decode cX10_init 136 = .ok (.aload_n 0, 1) := by decide +kernel
theorem dX10_init_137 : decode cX10_init 137 = .ok (.new 76, 3) := by decide +kernel
theorem dX10_init_140 : decode cX10_init 140 = .ok (.dup, 1) := by decide +kernel
theorem dX10_init_141 : decode cX10_init 141 = .ok (.aload_n 0, 1) := by decide +kernel
theorem dX10_init_142 : decode cX10_init 142 = .ok (.getfield 14, 3) := by decide +kernel
theorem dX10_init_145 : decode cX10_init 145 = .ok (.aload_n 0, 1) := by decide +kernel
theorem dX10_init_146 : decode cX10_init 146 = .ok (.getfield 46, 3) := by decide +kernel
theorem dX10_init_149 : decode cX10_init 149 = .ok (.invokespecial 78, 3) := by decide +kernel
theorem dX10_init_152 : decode cX10_init 152 = .ok (.putfield 81, 3) := by decide +kernel
theorem dX10_init_155 : decode cX10_init 155 = .ok (.aload_n 0, 1) := by decide +kernel
theorem dX10_init_156 : decode cX10_init 156 = .ok (.new 85, 3) := by decide +kernel
theorem dX10_init_159 : decode cX10_init 159 = .ok (.dup, 1) := by decide +kernel
theorem dX10_init_160 : decode cX10_init 160 = .ok (.aload_n 0, 1) := by decide +kernel
theorem dX10_init_161 : decode cX10_init 161 = .ok (.getfield 21, 3) := by decide +kernel
theorem dX10_init_164 : decode cX10_init 164 = .ok (.invokespecial 87, 3) := by decide +kernel
theorem dX10_init_167 : decode cX10_init 167 = .ok (.putfield 88, 3) := by decide +kernel
theorem dX10_init_170 : decode cX10_init 170 = .ok (.return_, 1) := by decide +kernel
theorem dX10_push_0 : decode cX10_push 0 = .ok (.iload_n 1, 1) := by decide +kernel
theorem dX10_push_1 : decode cX10_push 1 = .ok (.invokestatic 92, 3) := by decide +kernel
theorem dX10_push_4 : decode cX10_push 4 = .ok (.ifCond .ne 13, 3) := by decide +kernel
theorem dX10_push_7 : decode cX10_push 7 = .ok (.new 96, 3) := by decide +kernel
theorem dX10_push_10 : decode cX10_push 10 = .ok (.dup, 1) := by decide +kernel
theorem dX10_push_11 : decode cX10_push 11 = .ok (.ldc 98, 2) := by decide +kernel
theorem dX10_push_13 : decode cX10_push 13 = .ok (.invokespecial 100, 3) := by decide +kernel
theorem dX10_push_16 : decode cX10_push 16 = .ok (.athrow, 1) := by decide +kernel
theorem dX10_push_17 : decode cX10_push 17 = .ok (.aload_n 0, 1) := by decide +kernel
theorem dX10_push_18 : decode cX10_push 18 = .ok (.getfield 14, 3) := by decide +kernel
theorem dX10_push_21 : decode cX10_push 21 = .ok (.iload_n 1, 1) := by decide +kernel
theorem dX10_push_22 : decode cX10_push 22 = .ok (.invokevirtual 103, 3) := by decide +kernel
theorem dX10_push_25 : decode cX10_push 25 = .ok (.ifCond .eq 13, 3) := by decide +kernel
theorem dX10_push_28 : decode cX10_push 28 = .ok (.aload_n 0, 1) := by decide +kernel
theorem dX10_push_29 : decode cX10_push 29 = .ok (.getfield 14, 3) := by decide +kernel
theorem dX10_push_32 : decode cX10_push 32 = .ok (.getfield 106, 3) := by decide +kernel
theorem dX10_push_35 : decode cX10_push 35 = .ok (.goto 4, 3) := by decide +kernel
theorem dX10_push_38 : decode cX10_push 38 = .ok (.iconst (-1), 1) := by decide +kernel
theorem dX10_push_39 : decode cX10_push 39 = .ok (.ireturn, 1) := by decide +kernel
theorem dX10_empty_0 : decode cX10_empty 0 = .ok (.aload_n 0, 1) := by decide +kernel
theorem dX10_empty_1 : decode cX10_empty 1 = .ok (.getfield 14, 3) := by decide +kernel
theorem dX10_empty_4 : decode cX10_empty 4 = .ok (.getfield 106, 3) := by decide +kernel
theorem dX10_empty_7 : decode cX10_empty 7 = .ok (.istore_n 1, 1) := by decide +kernel
theorem dX10_empty_8 : decode cX10_empty 8 = .ok (.aload_n 0, 1) := by decide +kernel
theorem dX10_empty_9 : decode cX10_empty 9 = .ok (.getfield 14, 3) := by decide +kernel
theorem dX10_empty_12 : decode cX10_empty 12 = .ok (.iconst 0, 1) := by decide +kernel
theorem dX10_empty_13 : decode cX10_empty 13 = .ok (.putfield 106, 3) := by decide +kernel
theorem dX10_empty_16 : decode cX10_empty 16 = .ok (.iload_n 1, 1) := by decide +kernel
theorem dX10_empty_17 : decode cX10_empty 17 = .ok (.ireturn, 1) := by decide +kernel
theorem dX10_hand_0 : decode cX10_hand 0 = .ok (.aload_n 0, 1) := by decide +kernel
theorem dX10_hand_1 : decode cX10_hand 1 = .ok (.getfield 14, 3) := by decide +kernel
theorem dX10_hand_4 : decode cX10_hand 4 = .ok (.iload_n 1, 1) := by decide +kernel
theorem dX10_hand_5 : decode cX10_hand 5 = .ok (.invokevirtual 110, 3) := by decide +kernel
theorem dX10_hand_8 : decode cX10_hand 8 = .ok (.ireturn, 1) := by decide +kernel
theorem dX10_row_0 : decode cX10_row 0 = .ok (.iload_n 1, 1) := by decide +kernel
theorem dX10_row_1 : decode cX10_row 1 = .ok (.ifCond .ne 15, 3) := by decide +kernel
theorem dX10_row_4 : decode cX10_row 4 = .ok (.aload_n 0, 1) := by decide +kernel
theorem dX10_row_5 : decode cX10_row 5 = .ok (.getfield 14, 3) := by decide +kernel
theorem dX10_row_8 : decode cX10_row 8 = .ok (.getfield 106, 3) := by decide +kernel
theorem dX10_row_11 : decode cX10_row 11 = .ok (.ifCond .ne 5, 3) := by decide +kernel
theorem dX10_row_14 : decode cX10_row 14 = .ok (.iconst (-1), 1) := by decide +kernel
theorem dX10_row_15 : decode cX10_row 15 = .ok (.ireturn, 1) := by decide +kernel
theorem dX10_row_16 : decode cX10_row 16 = .ok (.aload_n 0, 1) := by decide +kernel
theorem dX10_row_17 : decode cX10_row 17 = .ok (.getfield 21, 3) := by decide +kernel
theorem dX10_row_20 : decode cX10_row 20 = .ok (.getfield 114, 3) := by decide +kernel
theorem dX10_row_23 : decode cX10_row 23 = .ok (.bipush 60, 2) := by decide +kernel
theorem dX10_row_25 : decode cX10_row 25 = .ok (.if_icmp .lt 6, 3) := by decide +kernel
theorem dX10_row_28 : decode cX10_row 28 = .ok (.bipush (-2), 2) := by decide +kernel
theorem dX10_row_30 : decode cX10_row 30 = .ok (.ireturn, 1) := by decide +kernel
theorem dX10_row_31 : decode cX10_row 31 = .ok (.aload_n 0, 1) := by decide +kernel
theorem dX10_row_32 : decode cX10_row 32 = .ok (.getfield 21, 3) := by decide +kernel
theorem dX10_row_35 : decode cX10_row 35 = .ok (.aload_n 0, 1) := by decide +kernel
theorem dX10_row_36 : decode cX10_row 36 = .ok (.getfield 14, 3) := by decide +kernel
theorem dX10_row_39 : decode cX10_row 39 = .ok (.iload_n 1, 1) := by decide +kernel
theorem dX10_row_40 : decode cX10_row 40 = .ok (.invokevirtual 117, 3) := by decide +kernel
theorem dX10_row_43 : decode cX10_row 43 = .ok (.istore_n 2, 1) := by decide +kernel
theorem dX10_row_44 : decode cX10_row 44 = .ok (.aload_n 0, 1) := by decide +kernel
theorem dX10_row_45 : decode cX10_row 45 = .ok (.getfield 14, 3) := by decide +kernel
theorem dX10_row_48 : decode cX10_row 48 = .ok (.iconst 0, 1) := by decide +kernel
theorem dX10_row_49 : decode cX10_row 49 = .ok (.putfield 106, 3) := by decide +kernel
theorem dX10_row_52 : decode cX10_row 52 = .ok (.iload_n 2, 1) := by decide +kernel
theorem dX10_row_53 : decode cX10_row 53 = .ok (.ireturn, 1) := by decide +kernel
theorem dX10_drop_0 : decode cX10_drop 0 = .ok (.aload_n 0, 1) := by decide +kernel
theorem dX10_drop_1 : decode cX10_drop 1 = .ok (.getfield 21, 3) := by decide +kernel
theorem dX10_drop_4 : decode cX10_drop 4 = .ok (.iload_n 1, 1) := by decide +kernel
theorem dX10_drop_5 : decode cX10_drop 5 = .ok (.invokevirtual 121, 3) := by decide +kernel
theorem dX10_drop_8 : decode cX10_drop 8 = .ok (.ifCond .ne 13, 3) := by decide +kernel
theorem dX10_drop_11 : decode cX10_drop 11 = .ok (.new 124, 3) := by decide +kernel
theorem dX10_drop_14 : decode cX10_drop 14 = .ok (.dup, 1) := by decide +kernel
theorem dX10_drop_15 : decode cX10_drop 15 = .ok (.ldc 126, 2) := by decide +kernel
theorem dX10_drop_17 : decode cX10_drop 17 = .ok (.invokespecial 128, 3) := by decide +kernel
theorem dX10_drop_20 : decode cX10_drop 20 = .ok (.athrow, 1) := by decide +kernel
theorem dX10_drop_21 : decode cX10_drop 21 = .ok (.aload_n 0, 1) := by decide +kernel
theorem dX10_drop_22 : decode cX10_drop 22 = .ok (.getfield 21, 3) := by decide +kernel
theorem dX10_drop_25 : decode cX10_drop 25 = .ok (.getfield 129, 3) := by decide +kernel
theorem dX10_drop_28 : decode cX10_drop 28 = .ok (.iload_n 1, 1) := by decide +kernel
theorem dX10_drop_29 : decode cX10_drop 29 = .ok (.baload, 1) := by decide +kernel
theorem dX10_drop_30 : decode cX10_drop 30 = .ok (.istore_n 2, 1) := by decide +kernel
theorem dX10_drop_31 : decode cX10_drop 31 = .ok (.aload_n 0, 1) := by decide +kernel
theorem dX10_drop_32 : decode cX10_drop 32 = .ok (.getfield 21, 3) := by decide +kernel
theorem dX10_drop_35 : decode cX10_drop 35 = .ok (.getfield 129, 3) := by decide +kernel
theorem dX10_drop_38 : decode cX10_drop 38 = .ok (.iload_n 1, 1) := by decide +kernel
theorem dX10_drop_39 : decode cX10_drop 39 = .ok (.iconst 0, 1) := by decide +kernel
theorem dX10_drop_40 : decode cX10_drop 40 = .ok (.bastore, 1) := by decide +kernel
theorem dX10_drop_41 : decode cX10_drop 41 = .ok (.iload_n 2, 1) := by decide +kernel
theorem dX10_drop_42 : decode cX10_drop 42 = .ok (.ireturn, 1) := by decide +kernel
theorem dX10_told_0 : decode cX10_told 0 = .ok (.aload_n 0, 1) := by decide +kernel
theorem dX10_told_1 : decode cX10_told 1 = .ok (.getfield 21, 3) := by decide +kernel
theorem dX10_told_4 : decode cX10_told 4 = .ok (.iload_n 1, 1) := by decide +kernel
theorem dX10_told_5 : decode cX10_told 5 = .ok (.invokevirtual 121, 3) := by decide +kernel
theorem dX10_told_8 : decode cX10_told 8 = .ok (.ifCond .ne 13, 3) := by decide +kernel
theorem dX10_told_11 : decode cX10_told 11 = .ok (.new 124, 3) := by decide +kernel
theorem dX10_told_14 : decode cX10_told 14 = .ok (.dup, 1) := by decide +kernel
theorem dX10_told_15 : decode cX10_told 15 = .ok (.ldc 126, 2) := by decide +kernel
theorem dX10_told_17 : decode cX10_told 17 = .ok (.invokespecial 128, 3) := by decide +kernel
theorem dX10_told_20 : decode cX10_told 20 = .ok (.athrow, 1) := by decide +kernel
theorem dX10_told_21 : decode cX10_told 21 = .ok (.iload_n 2, 1) := by decide +kernel
theorem dX10_told_22 : decode cX10_told 22 = .ok (.tableswitch 84 0 3 #[30, 48, 66, 75], 30) := by decide +kernel
theorem dX10_told_52 : decode cX10_told 52 = .ok (.aload_n 0, 1) := by decide +kernel
theorem dX10_told_53 : decode cX10_told 53 = .ok (.getfield 21, 3) := by decide +kernel
theorem dX10_told_56 : decode cX10_told 56 = .ok (.getfield 129, 3) := by decide +kernel
theorem dX10_told_59 : decode cX10_told 59 = .ok (.iload_n 1, 1) := by decide +kernel
theorem dX10_told_60 : decode cX10_told 60 = .ok (.baload, 1) := by decide +kernel
theorem dX10_told_61 : decode cX10_told 61 = .ok (.ifCond .eq 7, 3) := by decide +kernel
theorem dX10_told_64 : decode cX10_told 64 = .ok (.iconst 1, 1) := by decide +kernel
theorem dX10_told_65 : decode cX10_told 65 = .ok (.goto 4, 3) := by decide +kernel
theorem dX10_told_68 : decode cX10_told 68 = .ok (.iconst 0, 1) := by decide +kernel
theorem dX10_told_69 : decode cX10_told 69 = .ok (.ireturn, 1) := by decide +kernel
theorem dX10_told_70 : decode cX10_told 70 = .ok (.aload_n 0, 1) := by decide +kernel
theorem dX10_told_71 : decode cX10_told 71 = .ok (.getfield 21, 3) := by decide +kernel
theorem dX10_told_74 : decode cX10_told 74 = .ok (.getfield 133, 3) := by decide +kernel
theorem dX10_told_77 : decode cX10_told 77 = .ok (.iload_n 1, 1) := by decide +kernel
theorem dX10_told_78 : decode cX10_told 78 = .ok (.baload, 1) := by decide +kernel
theorem dX10_told_79 : decode cX10_told 79 = .ok (.ifCond .eq 7, 3) := by decide +kernel
theorem dX10_told_82 : decode cX10_told 82 = .ok (.iconst 1, 1) := by decide +kernel
theorem dX10_told_83 : decode cX10_told 83 = .ok (.goto 4, 3) := by decide +kernel
theorem dX10_told_86 : decode cX10_told 86 = .ok (.iconst 0, 1) := by decide +kernel
theorem dX10_told_87 : decode cX10_told 87 = .ok (.ireturn, 1) := by decide +kernel
theorem dX10_told_88 : decode cX10_told 88 = .ok (.aload_n 0, 1) := by decide +kernel
theorem dX10_told_89 : decode cX10_told 89 = .ok (.getfield 21, 3) := by decide +kernel
theorem dX10_told_92 : decode cX10_told 92 = .ok (.iload_n 1, 1) := by decide +kernel
theorem dX10_told_93 : decode cX10_told 93 = .ok (.invokevirtual 136, 3) := by decide +kernel
theorem dX10_told_96 : decode cX10_told 96 = .ok (.ireturn, 1) := by decide +kernel
theorem dX10_told_97 : decode cX10_told 97 = .ok (.aload_n 0, 1) := by decide +kernel
theorem dX10_told_98 : decode cX10_told 98 = .ok (.getfield 21, 3) := by decide +kernel
theorem dX10_told_101 : decode cX10_told 101 = .ok (.iload_n 1, 1) := by decide +kernel
theorem dX10_told_102 : decode cX10_told 102 = .ok (.invokevirtual 139, 3) := by decide +kernel
theorem dX10_told_105 : decode cX10_told 105 = .ok (.ireturn, 1) := by decide +kernel
theorem dX10_told_106 : decode cX10_told 106 = .ok (.new 96, 3) := by decide +kernel
theorem dX10_told_109 : decode cX10_told 109 = .ok (.dup, 1) := by decide +kernel
theorem dX10_told_110 : decode cX10_told 110 = .ok (.ldc 142, 2) := by decide +kernel
theorem dX10_told_112 : decode cX10_told 112 = .ok (.invokespecial 100, 3) := by decide +kernel
theorem dX10_told_115 : decode cX10_told 115 = .ok (.athrow, 1) := by decide +kernel
theorem dX10_learn_0 : decode cX10_learn 0 = .ok (.aload_n 0, 1) := by decide +kernel
theorem dX10_learn_1 : decode cX10_learn 1 = .ok (.getfield 30, 3) := by decide +kernel
theorem dX10_learn_4 : decode cX10_learn 4 = .ok (.invokevirtual 144, 3) := by decide +kernel
theorem dX10_learn_7 : decode cX10_learn 7 = .ok (.aload_n 0, 1) := by decide +kernel
theorem dX10_learn_8 : decode cX10_learn 8 = .ok (.getfield 39, 3) := by decide +kernel
theorem dX10_learn_11 : decode cX10_learn 11 = .ok (.invokevirtual 147, 3) := by decide +kernel
theorem dX10_learn_14 : decode cX10_learn 14 = .ok (.ifCond .ne 5, 3) := by decide +kernel
theorem dX10_learn_17 : decode cX10_learn 17 = .ok (.iconst (-1), 1) := by decide +kernel
theorem dX10_learn_18 : decode cX10_learn 18 = .ok (.ireturn, 1) := by decide +kernel
theorem dX10_learn_19 : decode cX10_learn 19 = .ok (.aload_n 0, 1) := by decide +kernel
theorem dX10_learn_20 : decode cX10_learn 20 = .ok (.getfield 39, 3) := by decide +kernel
theorem dX10_learn_23 : decode cX10_learn 23 = .ok (.aload_n 0, 1) := by decide +kernel
theorem dX10_learn_24 : decode cX10_learn 24 = .ok (.getfield 46, 3) := by decide +kernel
theorem dX10_learn_27 : decode cX10_learn 27 = .ok (.invokevirtual 151, 3) := by decide +kernel
theorem dX10_learn_30 : decode cX10_learn 30 = .ok (.aload_n 0, 1) := by decide +kernel
theorem dX10_learn_31 : decode cX10_learn 31 = .ok (.getfield 46, 3) := by decide +kernel
theorem dX10_learn_34 : decode cX10_learn 34 = .ok (.aload_n 0, 1) := by decide +kernel
theorem dX10_learn_35 : decode cX10_learn 35 = .ok (.getfield 21, 3) := by decide +kernel
theorem dX10_learn_38 : decode cX10_learn 38 = .ok (.aload_n 0, 1) := by decide +kernel
theorem dX10_learn_39 : decode cX10_learn 39 = .ok (.getfield 30, 3) := by decide +kernel
theorem dX10_learn_42 : decode cX10_learn 42 = .ok (.invokevirtual 155, 3) := by decide +kernel
theorem dX10_learn_45 : decode cX10_learn 45 = .ok (.aload_n 0, 1) := by decide +kernel
theorem dX10_learn_46 : decode cX10_learn 46 = .ok (.getfield 46, 3) := by decide +kernel
theorem dX10_learn_49 : decode cX10_learn 49 = .ok (.getfield 158, 3) := by decide +kernel
theorem dX10_learn_52 : decode cX10_learn 52 = .ok (.ireturn, 1) := by decide +kernel
theorem dX10_step_0 : decode cX10_step 0 = .ok (.aload_n 0, 1) := by decide +kernel
theorem dX10_step_1 : decode cX10_step 1 = .ok (.iload_n 1, 1) := by decide +kernel
theorem dX10_step_2 : decode cX10_step 2 = .ok (.iload_n 2, 1) := by decide +kernel
theorem dX10_step_3 : decode cX10_step 3 = .ok (.invokevirtual 161, 3) := by decide +kernel
theorem dX10_step_6 : decode cX10_step 6 = .ok (.aload_n 0, 1) := by decide +kernel
theorem dX10_step_7 : decode cX10_step 7 = .ok (.getfield 46, 3) := by decide +kernel
theorem dX10_step_10 : decode cX10_step 10 = .ok (.iload_n 1, 1) := by decide +kernel
theorem dX10_step_11 : decode cX10_step 11 = .ok (.iload_n 2, 1) := by decide +kernel
theorem dX10_step_12 : decode cX10_step 12 = .ok (.invokevirtual 165, 3) := by decide +kernel
theorem dX10_step_15 : decode cX10_step 15 = .ok (.ireturn, 1) := by decide +kernel
theorem dX10_seen_0 : decode cX10_seen 0 = .ok (.aload_n 0, 1) := by decide +kernel
theorem dX10_seen_1 : decode cX10_seen 1 = .ok (.iload_n 1, 1) := by decide +kernel
theorem dX10_seen_2 : decode cX10_seen 2 = .ok (.iload_n 2, 1) := by decide +kernel
theorem dX10_seen_3 : decode cX10_seen 3 = .ok (.invokevirtual 161, 3) := by decide +kernel
theorem dX10_seen_6 : decode cX10_seen 6 = .ok (.aload_n 0, 1) := by decide +kernel
theorem dX10_seen_7 : decode cX10_seen 7 = .ok (.getfield 46, 3) := by decide +kernel
theorem dX10_seen_10 : decode cX10_seen 10 = .ok (.iload_n 1, 1) := by decide +kernel
theorem dX10_seen_11 : decode cX10_seen 11 = .ok (.iload_n 2, 1) := by decide +kernel
theorem dX10_seen_12 : decode cX10_seen 12 = .ok (.invokevirtual 169, 3) := by decide +kernel
theorem dX10_seen_15 : decode cX10_seen 15 = .ok (.ireturn, 1) := by decide +kernel
theorem dX10_doubt_0 : decode cX10_doubt 0 = .ok (.aload_n 0, 1) := by decide +kernel
theorem dX10_doubt_1 : decode cX10_doubt 1 = .ok (.getfield 46, 3) := by decide +kernel
theorem dX10_doubt_4 : decode cX10_doubt 4 = .ok (.iload_n 1, 1) := by decide +kernel
theorem dX10_doubt_5 : decode cX10_doubt 5 = .ok (.invokevirtual 172, 3) := by decide +kernel
theorem dX10_doubt_8 : decode cX10_doubt 8 = .ok (.ireturn, 1) := by decide +kernel
theorem dX10_takes_0 : decode cX10_takes 0 = .ok (.iconst 0, 1) := by decide +kernel
theorem dX10_takes_1 : decode cX10_takes 1 = .ok (.istore_n 1, 1) := by decide +kernel
theorem dX10_takes_2 : decode cX10_takes 2 = .ok (.iconst 0, 1) := by decide +kernel
theorem dX10_takes_3 : decode cX10_takes 3 = .ok (.istore_n 2, 1) := by decide +kernel
theorem dX10_takes_4 : decode cX10_takes 4 = .ok (.iload_n 2, 1) := by decide +kernel
theorem dX10_takes_5 : decode cX10_takes 5 = .ok (.aload_n 0, 1) := by decide +kernel
theorem dX10_takes_6 : decode cX10_takes 6 = .ok (.getfield 14, 3) := by decide +kernel
theorem dX10_takes_9 : decode cX10_takes 9 = .ok (.getfield 106, 3) := by decide +kernel
theorem dX10_takes_12 : decode cX10_takes 12 = .ok (.if_icmp .ge 33, 3) := by decide +kernel
theorem dX10_takes_15 : decode cX10_takes 15 = .ok (.aload_n 0, 1) := by decide +kernel
theorem dX10_takes_16 : decode cX10_takes 16 = .ok (.getfield 46, 3) := by decide +kernel
theorem dX10_takes_19 : decode cX10_takes 19 = .ok (.iload_n 1, 1) := by decide +kernel
theorem dX10_takes_20 : decode cX10_takes 20 = .ok (.aload_n 0, 1) := by decide +kernel
theorem dX10_takes_21 : decode cX10_takes 21 = .ok (.getfield 14, 3) := by decide +kernel
theorem dX10_takes_24 : decode cX10_takes 24 = .ok (.iload_n 2, 1) := by decide +kernel
theorem dX10_takes_25 : decode cX10_takes 25 = .ok (.invokevirtual 110, 3) := by decide +kernel
theorem dX10_takes_28 : decode cX10_takes 28 = .ok (.invokevirtual 165, 3) := by decide +kernel
theorem dX10_takes_31 : decode cX10_takes 31 = .ok (.istore_n 1, 1) := by decide +kernel
theorem dX10_takes_32 : decode cX10_takes 32 = .ok (.iload_n 1, 1) := by decide +kernel
theorem dX10_takes_33 : decode cX10_takes 33 = .ok (.iconst (-1), 1) := by decide +kernel
theorem dX10_takes_34 : decode cX10_takes 34 = .ok (.if_icmp .ne 5, 3) := by decide +kernel
theorem dX10_takes_37 : decode cX10_takes 37 = .ok (.iload_n 2, 1) := by decide +kernel
theorem dX10_takes_38 : decode cX10_takes 38 = .ok (.ireturn, 1) := by decide +kernel
theorem dX10_takes_39 : decode cX10_takes 39 = .ok (.iinc 2 1, 3) := by decide +kernel
theorem dX10_takes_42 : decode cX10_takes 42 = .ok (.goto (-38), 3) := by decide +kernel
theorem dX10_takes_45 : decode cX10_takes 45 = .ok (.aload_n 0, 1) := by decide +kernel
theorem dX10_takes_46 : decode cX10_takes 46 = .ok (.getfield 14, 3) := by decide +kernel
theorem dX10_takes_49 : decode cX10_takes 49 = .ok (.getfield 106, 3) := by decide +kernel
theorem dX10_takes_52 : decode cX10_takes 52 = .ok (.ireturn, 1) := by decide +kernel
theorem dX10_least_0 : decode cX10_least 0 = .ok (.aload_n 0, 1) := by decide +kernel
theorem dX10_least_1 : decode cX10_least 1 = .ok (.getfield 30, 3) := by decide +kernel
theorem dX10_least_4 : decode cX10_least 4 = .ok (.invokevirtual 144, 3) := by decide +kernel
theorem dX10_least_7 : decode cX10_least 7 = .ok (.aload_n 0, 1) := by decide +kernel
theorem dX10_least_8 : decode cX10_least 8 = .ok (.getfield 30, 3) := by decide +kernel
theorem dX10_least_11 : decode cX10_least 11 = .ok (.getfield 175, 3) := by decide +kernel
theorem dX10_least_14 : decode cX10_least 14 = .ok (.bipush 16, 2) := by decide +kernel
theorem dX10_least_16 : decode cX10_least 16 = .ok (.if_icmp .le 7, 3) := by decide +kernel
theorem dX10_least_19 : decode cX10_least 19 = .ok (.iconst (-1), 1) := by decide +kernel
theorem dX10_least_20 : decode cX10_least 20 = .ok (.goto 10, 3) := by decide +kernel
theorem dX10_least_23 : decode cX10_least 23 = .ok (.aload_n 0, 1) := by decide +kernel
theorem dX10_least_24 : decode cX10_least 24 = .ok (.getfield 53, 3) := by decide +kernel
theorem dX10_least_27 : decode cX10_least 27 = .ok (.invokevirtual 176, 3) := by decide +kernel
theorem dX10_least_30 : decode cX10_least 30 = .ok (.ireturn, 1) := by decide +kernel
theorem dX10_feed_0 : decode cX10_feed 0 = .ok (.aload_n 0, 1) := by decide +kernel
theorem dX10_feed_1 : decode cX10_feed 1 = .ok (.getfield 57, 3) := by decide +kernel
theorem dX10_feed_4 : decode cX10_feed 4 = .ok (.getfield 106, 3) := by decide +kernel
theorem dX10_feed_7 : decode cX10_feed 7 = .ok (.sipush 180, 3) := by decide +kernel
theorem dX10_feed_10 : decode cX10_feed 10 = .ok (.if_icmp .le 5, 3) := by decide +kernel
theorem dX10_feed_13 : decode cX10_feed 13 = .ok (.iconst (-1), 1) := by decide +kernel
theorem dX10_feed_14 : decode cX10_feed 14 = .ok (.ireturn, 1) := by decide +kernel
theorem dX10_feed_15 : decode cX10_feed 15 = .ok (.aload_n 0, 1) := by decide +kernel
theorem dX10_feed_16 : decode cX10_feed 16 = .ok (.iload_n 1, 1) := by decide +kernel
theorem dX10_feed_17 : decode cX10_feed 17 = .ok (.invokevirtual 179, 3) := by decide +kernel
theorem dX10_feed_20 : decode cX10_feed 20 = .ok (.aload_n 0, 1) := by decide +kernel
theorem dX10_feed_21 : decode cX10_feed 21 = .ok (.iload_n 2, 1) := by decide +kernel
theorem dX10_feed_22 : decode cX10_feed 22 = .ok (.invokevirtual 179, 3) := by decide +kernel
theorem dX10_feed_25 : decode cX10_feed 25 = .ok (.aload_n 0, 1) := by decide +kernel
theorem dX10_feed_26 : decode cX10_feed 26 = .ok (.iload_n 3, 1) := by decide +kernel
theorem dX10_feed_27 : decode cX10_feed 27 = .ok (.invokevirtual 179, 3) := by decide +kernel
theorem dX10_feed_30 : decode cX10_feed 30 = .ok (.aload_n 0, 1) := by decide +kernel
theorem dX10_feed_31 : decode cX10_feed 31 = .ok (.iload 4, 2) := by decide +kernel
theorem dX10_feed_33 : decode cX10_feed 33 = .ok (.invokevirtual 179, 3) := by decide +kernel
theorem dX10_feed_36 : decode cX10_feed 36 = .ok (.aload_n 0, 1) := by decide +kernel
theorem dX10_feed_37 : decode cX10_feed 37 = .ok (.iload 5, 2) := by decide +kernel
theorem dX10_feed_39 : decode cX10_feed 39 = .ok (.invokevirtual 179, 3) := by decide +kernel
theorem dX10_feed_42 : decode cX10_feed 42 = .ok (.aload_n 0, 1) := by decide +kernel
theorem dX10_feed_43 : decode cX10_feed 43 = .ok (.getfield 57, 3) := by decide +kernel
theorem dX10_feed_46 : decode cX10_feed 46 = .ok (.getfield 106, 3) := by decide +kernel
theorem dX10_feed_49 : decode cX10_feed 49 = .ok (.ireturn, 1) := by decide +kernel
theorem dX10_routine_0 : decode cX10_routine 0 = .ok (.iload_n 1, 1) := by decide +kernel
theorem dX10_routine_1 : decode cX10_routine 1 = .ok (.ifCond .lt 14, 3) := by decide +kernel
theorem dX10_routine_4 : decode cX10_routine 4 = .ok (.iload_n 1, 1) := by decide +kernel
theorem dX10_routine_5 : decode cX10_routine 5 = .ok (.aload_n 0, 1) := by decide +kernel
theorem dX10_routine_6 : decode cX10_routine 6 = .ok (.getfield 57, 3) := by decide +kernel
theorem dX10_routine_9 : decode cX10_routine 9 = .ok (.getfield 106, 3) := by decide +kernel
theorem dX10_routine_12 : decode cX10_routine 12 = .ok (.if_icmp .le 13, 3) := by decide +kernel
theorem dX10_routine_15 : decode cX10_routine 15 = .ok (.new 96, 3) := by decide +kernel
theorem dX10_routine_18 : decode cX10_routine 18 = .ok (.dup, 1) := by decide +kernel
theorem dX10_routine_19 : decode cX10_routine 19 = .ok (.ldc 182, 2) := by decide +kernel
theorem dX10_routine_21 : decode cX10_routine 21 = .ok (.invokespecial 100, 3) := by decide +kernel
theorem dX10_routine_24 : decode cX10_routine 24 = .ok (.athrow, 1) := by decide +kernel
theorem dX10_routine_25 : decode cX10_routine 25 = .ok (.aload_n 0, 1) := by decide +kernel
theorem dX10_routine_26 : decode cX10_routine 26 = .ok (.getfield 57, 3) := by decide +kernel
theorem dX10_routine_29 : decode cX10_routine 29 = .ok (.iconst 0, 1) := by decide +kernel
theorem dX10_routine_30 : decode cX10_routine 30 = .ok (.putfield 106, 3) := by decide +kernel
theorem dX10_routine_33 : decode cX10_routine 33 = .ok (.aload_n 0, 1) := by decide +kernel
theorem dX10_routine_34 : decode cX10_routine 34 = .ok (.getfield 57, 3) := by decide +kernel
theorem dX10_routine_37 : decode cX10_routine 37 = .ok (.getfield 184, 3) := by decide +kernel
theorem dX10_routine_40 : decode cX10_routine 40 = .ok (.iload_n 1, 1) := by decide +kernel
theorem dX10_routine_41 : decode cX10_routine 41 = .ok (.invokestatic 188, 3) := by decide +kernel
theorem dX10_routine_44 : decode cX10_routine 44 = .ok (.istore_n 2, 1) := by decide +kernel
theorem dX10_routine_45 : decode cX10_routine 45 = .ok (.iload_n 2, 1) := by decide +kernel
theorem dX10_routine_46 : decode cX10_routine 46 = .ok (.iconst (-1), 1) := by decide +kernel
theorem dX10_routine_47 : decode cX10_routine 47 = .ok (.if_icmp .eq 8, 3) := by decide +kernel
theorem dX10_routine_50 : decode cX10_routine 50 = .ok (.bipush (-2), 2) := by decide +kernel
theorem dX10_routine_52 : decode cX10_routine 52 = .ok (.iload_n 2, 1) := by decide +kernel
theorem dX10_routine_53 : decode cX10_routine 53 = .ok (.isub, 1) := by decide +kernel
theorem dX10_routine_54 : decode cX10_routine 54 = .ok (.ireturn, 1) := by decide +kernel
theorem dX10_routine_55 : decode cX10_routine 55 = .ok (.aload_n 0, 1) := by decide +kernel
theorem dX10_routine_56 : decode cX10_routine 56 = .ok (.getfield 63, 3) := by decide +kernel
theorem dX10_routine_59 : decode cX10_routine 59 = .ok (.aload_n 0, 1) := by decide +kernel
theorem dX10_routine_60 : decode cX10_routine 60 = .ok (.getfield 57, 3) := by decide +kernel
theorem dX10_routine_63 : decode cX10_routine 63 = .ok (.getfield 184, 3) := by decide +kernel
theorem dX10_routine_66 : decode cX10_routine 66 = .ok (.iload_n 1, 1) := by decide +kernel
theorem dX10_routine_67 : decode cX10_routine 67 = .ok (.invokevirtual 192, 3) := by decide +kernel
theorem dX10_routine_70 : decode cX10_routine 70 = .ok (.iconst 0, 1) := by decide +kernel
theorem dX10_routine_71 : decode cX10_routine 71 = .ok (.ireturn, 1) := by decide +kernel
theorem dX10_hold_0 : decode cX10_hold 0 = .ok (.aload_n 0, 1) := by decide +kernel
theorem dX10_hold_1 : decode cX10_hold 1 = .ok (.getfield 72, 3) := by decide +kernel
theorem dX10_hold_4 : decode cX10_hold 4 = .ok (.invokevirtual 196, 3) := by decide +kernel
theorem dX10_hold_7 : decode cX10_hold 7 = .ok (.aload_n 0, 1) := by decide +kernel
theorem dX10_hold_8 : decode cX10_hold 8 = .ok (.getfield 72, 3) := by decide +kernel
theorem dX10_hold_11 : decode cX10_hold 11 = .ok (.getfield 199, 3) := by decide +kernel
theorem dX10_hold_14 : decode cX10_hold 14 = .ok (.getfield 106, 3) := by decide +kernel
theorem dX10_hold_17 : decode cX10_hold 17 = .ok (.ireturn, 1) := by decide +kernel
theorem dX10_broken_0 : decode cX10_broken 0 = .ok (.aload_n 0, 1) := by decide +kernel
theorem dX10_broken_1 : decode cX10_broken 1 = .ok (.getfield 72, 3) := by decide +kernel
theorem dX10_broken_4 : decode cX10_broken 4 = .ok (.getfield 199, 3) := by decide +kernel
theorem dX10_broken_7 : decode cX10_broken 7 = .ok (.iload_n 1, 1) := by decide +kernel
theorem dX10_broken_8 : decode cX10_broken 8 = .ok (.invokevirtual 110, 3) := by decide +kernel
theorem dX10_broken_11 : decode cX10_broken 11 = .ok (.ireturn, 1) := by decide +kernel
theorem dX10_mend_0 : decode cX10_mend 0 = .ok (.aload_n 0, 1) := by decide +kernel
theorem dX10_mend_1 : decode cX10_mend 1 = .ok (.getfield 81, 3) := by decide +kernel
theorem dX10_mend_4 : decode cX10_mend 4 = .ok (.invokevirtual 202, 3) := by decide +kernel
theorem dX10_mend_7 : decode cX10_mend 7 = .ok (.istore_n 1, 1) := by decide +kernel
theorem dX10_mend_8 : decode cX10_mend 8 = .ok (.iload_n 1, 1) := by decide +kernel
theorem dX10_mend_9 : decode cX10_mend 9 = .ok (.iconst (-1), 1) := by decide +kernel
theorem dX10_mend_10 : decode cX10_mend 10 = .ok (.if_icmp .ne 7, 3) := by decide +kernel
theorem dX10_mend_13 : decode cX10_mend 13 = .ok (.iconst (-1), 1) := by decide +kernel
theorem dX10_mend_14 : decode cX10_mend 14 = .ok (.goto 4, 3) := by decide +kernel
theorem dX10_mend_17 : decode cX10_mend 17 = .ok (.iload_n 1, 1) := by decide +kernel
theorem dX10_mend_18 : decode cX10_mend 18 = .ok (.ireturn, 1) := by decide +kernel
theorem dX10_habit_0 : decode cX10_habit 0 = .ok (.iload_n 1, 1) := by decide +kernel
theorem dX10_habit_1 : decode cX10_habit 1 = .ok (.invokestatic 92, 3) := by decide +kernel
theorem dX10_habit_4 : decode cX10_habit 4 = .ok (.ifCond .eq 10, 3) := by decide +kernel
theorem dX10_habit_7 : decode cX10_habit 7 = .ok (.iload_n 2, 1) := by decide +kernel
theorem dX10_habit_8 : decode cX10_habit 8 = .ok (.invokestatic 92, 3) := by decide +kernel
theorem dX10_habit_11 : decode cX10_habit 11 = .ok (.ifCond .ne 13, 3) := by decide +kernel
theorem dX10_habit_14 : decode cX10_habit 14 = .ok (.new 96, 3) := by decide +kernel
theorem dX10_habit_17 : decode cX10_habit 17 = .ok (.dup, 1) := by decide +kernel
theorem dX10_habit_18 : decode cX10_habit 18 = .ok (.ldc 98, 2) := by decide +kernel
theorem dX10_habit_20 : decode cX10_habit 20 = .ok (.invokespecial 100, 3) := by decide +kernel
theorem dX10_habit_23 : decode cX10_habit 23 = .ok (.athrow, 1) := by decide +kernel
theorem dX10_habit_24 : decode cX10_habit 24 = .ok (.iload_n 3, 1) := by decide +kernel
theorem dX10_habit_25 : decode cX10_habit 25 = .ok (.ifCond .eq 18, 3) := by decide +kernel
theorem dX10_habit_28 : decode cX10_habit 28 = .ok (.iload_n 3, 1) := by decide +kernel
theorem dX10_habit_29 : decode cX10_habit 29 = .ok (.iconst 1, 1) := by decide +kernel
theorem dX10_habit_30 : decode cX10_habit 30 = .ok (.if_icmp .eq 13, 3) := by decide +kernel
theorem dX10_habit_33 : decode cX10_habit 33 = .ok (.new 96, 3) := by decide +kernel
theorem dX10_habit_36 : decode cX10_habit 36 = .ok (.dup, 1) := by decide +kernel
theorem dX10_habit_37 : decode cX10_habit 37 = .ok (.ldc 142, 2) := by decide +kernel
theorem dX10_habit_39 : decode cX10_habit 39 = .ok (.invokespecial 100, 3) := by decide +kernel
theorem dX10_habit_42 : decode cX10_habit 42 = .ok (.athrow, 1) := by decide +kernel
theorem dX10_habit_43 : decode cX10_habit 43 = .ok (.aload_n 0, 1) := by decide +kernel
theorem dX10_habit_44 : decode cX10_habit 44 = .ok (.getfield 88, 3) := by decide +kernel
theorem dX10_habit_47 : decode cX10_habit 47 = .ok (.invokevirtual 205, 3) := by decide +kernel
theorem dX10_habit_50 : decode cX10_habit 50 = .ok (.iload_n 3, 1) := by decide +kernel
theorem dX10_habit_51 : decode cX10_habit 51 = .ok (.ifCond .ne 14, 3) := by decide +kernel
theorem dX10_habit_54 : decode cX10_habit 54 = .ok (.aload_n 0, 1) := by decide +kernel
theorem dX10_habit_55 : decode cX10_habit 55 = .ok (.getfield 88, 3) := by decide +kernel
theorem dX10_habit_58 : decode cX10_habit 58 = .ok (.iload_n 1, 1) := by decide +kernel
theorem dX10_habit_59 : decode cX10_habit 59 = .ok (.invokevirtual 208, 3) := by decide +kernel
theorem dX10_habit_62 : decode cX10_habit 62 = .ok (.goto 12, 3) := by decide +kernel
theorem dX10_habit_65 : decode cX10_habit 65 = .ok (.aload_n 0, 1) := by decide +kernel
theorem dX10_habit_66 : decode cX10_habit 66 = .ok (.getfield 88, 3) := by decide +kernel
theorem dX10_habit_69 : decode cX10_habit 69 = .ok (.iload_n 1, 1) := by decide +kernel
theorem dX10_habit_70 : decode cX10_habit 70 = .ok (.iload_n 2, 1) := by decide +kernel
theorem dX10_habit_71 : decode cX10_habit 71 = .ok (.invokevirtual 211, 3) := by decide +kernel
theorem dX10_habit_74 : decode cX10_habit 74 = .ok (.ireturn, 1) := by decide +kernel
theorem dX10_rank_0 : decode cX10_rank 0 = .ok (.iload_n 2, 1) := by decide +kernel
theorem dX10_rank_1 : decode cX10_rank 1 = .ok (.ifCond .eq 18, 3) := by decide +kernel
theorem dX10_rank_4 : decode cX10_rank 4 = .ok (.iload_n 2, 1) := by decide +kernel
theorem dX10_rank_5 : decode cX10_rank 5 = .ok (.iconst 1, 1) := by decide +kernel
theorem dX10_rank_6 : decode cX10_rank 6 = .ok (.if_icmp .eq 13, 3) := by decide +kernel
theorem dX10_rank_9 : decode cX10_rank 9 = .ok (.new 96, 3) := by decide +kernel
theorem dX10_rank_12 : decode cX10_rank 12 = .ok (.dup, 1) := by decide +kernel
theorem dX10_rank_13 : decode cX10_rank 13 = .ok (.ldc 142, 2) := by decide +kernel
theorem dX10_rank_15 : decode cX10_rank 15 = .ok (.invokespecial 100, 3) := by decide +kernel
theorem dX10_rank_18 : decode cX10_rank 18 = .ok (.athrow, 1) := by decide +kernel
theorem dX10_rank_19 : decode cX10_rank 19 = .ok (.aload_n 0, 1) := by decide +kernel
theorem dX10_rank_20 : decode cX10_rank 20 = .ok (.getfield 88, 3) := by decide +kernel
theorem dX10_rank_23 : decode cX10_rank 23 = .ok (.invokevirtual 205, 3) := by decide +kernel
theorem dX10_rank_26 : decode cX10_rank 26 = .ok (.aload_n 0, 1) := by decide +kernel
theorem dX10_rank_27 : decode cX10_rank 27 = .ok (.getfield 88, 3) := by decide +kernel
theorem dX10_rank_30 : decode cX10_rank 30 = .ok (.iload_n 1, 1) := by decide +kernel
theorem dX10_rank_31 : decode cX10_rank 31 = .ok (.invokevirtual 214, 3) := by decide +kernel
theorem dX10_rank_34 : decode cX10_rank 34 = .ok (.istore_n 3, 1) := by decide +kernel
theorem dX10_rank_35 : decode cX10_rank 35 = .ok (.iload_n 3, 1) := by decide +kernel
theorem dX10_rank_36 : decode cX10_rank 36 = .ok (.iconst (-1), 1) := by decide +kernel
theorem dX10_rank_37 : decode cX10_rank 37 = .ok (.if_icmp .ne 5, 3) := by decide +kernel
theorem dX10_rank_40 : decode cX10_rank 40 = .ok (.iconst (-1), 1) := by decide +kernel
theorem dX10_rank_41 : decode cX10_rank 41 = .ok (.ireturn, 1) := by decide +kernel
theorem dX10_rank_42 : decode cX10_rank 42 = .ok (.iload_n 2, 1) := by decide +kernel
theorem dX10_rank_43 : decode cX10_rank 43 = .ok (.ifCond .ne 10, 3) := by decide +kernel
theorem dX10_rank_46 : decode cX10_rank 46 = .ok (.iload_n 3, 1) := by decide +kernel
theorem dX10_rank_47 : decode cX10_rank 47 = .ok (.bipush 8, 2) := by decide +kernel
theorem dX10_rank_49 : decode cX10_rank 49 = .ok (.idiv, 1) := by decide +kernel
theorem dX10_rank_50 : decode cX10_rank 50 = .ok (.goto 7, 3) := by decide +kernel
theorem dX10_rank_53 : decode cX10_rank 53 = .ok (.iload_n 3, 1) := by decide +kernel
theorem dX10_rank_54 : decode cX10_rank 54 = .ok (.bipush 8, 2) := by decide +kernel
theorem dX10_rank_56 : decode cX10_rank 56 = .ok (.irem, 1) := by decide +kernel
theorem dX10_rank_57 : decode cX10_rank 57 = .ok (.ireturn, 1) := by decide +kernel
theorem dX10_count_0 : decode cX10_count 0 = .ok (.iload_n 1, 1) := by decide +kernel
theorem dX10_count_1 : decode cX10_count 1 = .ok (.tableswitch 106 0 6 #[43, 51, 59, 67, 75, 83, 91], 43) := by decide +kernel
theorem dX10_count_44 : decode cX10_count 44 = .ok (.aload_n 0, 1) := by decide +kernel
theorem dX10_count_45 : decode cX10_count 45 = .ok (.getfield 21, 3) := by decide +kernel
theorem dX10_count_48 : decode cX10_count 48 = .ok (.invokevirtual 217, 3) := by decide +kernel
theorem dX10_count_51 : decode cX10_count 51 = .ok (.ireturn, 1) := by decide +kernel
theorem dX10_count_52 : decode cX10_count 52 = .ok (.aload_n 0, 1) := by decide +kernel
theorem dX10_count_53 : decode cX10_count 53 = .ok (.getfield 21, 3) := by decide +kernel
theorem dX10_count_56 : decode cX10_count 56 = .ok (.getfield 114, 3) := by decide +kernel
theorem dX10_count_59 : decode cX10_count 59 = .ok (.ireturn, 1) := by decide +kernel
theorem dX10_count_60 : decode cX10_count 60 = .ok (.aload_n 0, 1) := by decide +kernel
theorem dX10_count_61 : decode cX10_count 61 = .ok (.getfield 46, 3) := by decide +kernel
theorem dX10_count_64 : decode cX10_count 64 = .ok (.getfield 158, 3) := by decide +kernel
theorem dX10_count_67 : decode cX10_count 67 = .ok (.ireturn, 1) := by decide +kernel
theorem dX10_count_68 : decode cX10_count 68 = .ok (.aload_n 0, 1) := by decide +kernel
theorem dX10_count_69 : decode cX10_count 69 = .ok (.getfield 46, 3) := by decide +kernel
theorem dX10_count_72 : decode cX10_count 72 = .ok (.invokevirtual 220, 3) := by decide +kernel
theorem dX10_count_75 : decode cX10_count 75 = .ok (.ireturn, 1) := by decide +kernel
theorem dX10_count_76 : decode cX10_count 76 = .ok (.aload_n 0, 1) := by decide +kernel
theorem dX10_count_77 : decode cX10_count 77 = .ok (.getfield 14, 3) := by decide +kernel
theorem dX10_count_80 : decode cX10_count 80 = .ok (.getfield 106, 3) := by decide +kernel
theorem dX10_count_83 : decode cX10_count 83 = .ok (.ireturn, 1) := by decide +kernel
theorem dX10_count_84 : decode cX10_count 84 = .ok (.aload_n 0, 1) := by decide +kernel
theorem dX10_count_85 : decode cX10_count 85 = .ok (.getfield 57, 3) := by decide +kernel
theorem dX10_count_88 : decode cX10_count 88 = .ok (.getfield 106, 3) := by decide +kernel
theorem dX10_count_91 : decode cX10_count 91 = .ok (.ireturn, 1) := by decide +kernel
theorem dX10_count_92 : decode cX10_count 92 = .ok (.aload_n 0, 1) := by decide +kernel
theorem dX10_count_93 : decode cX10_count 93 = .ok (.getfield 30, 3) := by decide +kernel
theorem dX10_count_96 : decode cX10_count 96 = .ok (.invokevirtual 144, 3) := by decide +kernel
theorem dX10_count_99 : decode cX10_count 99 = .ok (.aload_n 0, 1) := by decide +kernel
theorem dX10_count_100 : decode cX10_count 100 = .ok (.getfield 30, 3) := by decide +kernel
theorem dX10_count_103 : decode cX10_count 103 = .ok (.getfield 175, 3) := by decide +kernel
theorem dX10_count_106 : decode cX10_count 106 = .ok (.ireturn, 1) := by decide +kernel
theorem dX10_count_107 : decode cX10_count 107 = .ok (.iconst (-1), 1) := by decide +kernel
theorem dX10_count_108 : decode cX10_count 108 = .ok (.ireturn, 1) := by decide +kernel
theorem dX10_checkStep_0 : decode cX10_checkStep 0 = .ok (.aload_n 0, 1) := by decide +kernel
theorem dX10_checkStep_1 : decode cX10_checkStep 1 = .ok (.getfield 46, 3) := by decide +kernel
theorem dX10_checkStep_4 : decode cX10_checkStep 4 = .ok (.iload_n 1, 1) := by decide +kernel
theorem dX10_checkStep_5 : decode cX10_checkStep 5 = .ok (.invokevirtual 223, 3) := by decide +kernel
theorem dX10_checkStep_8 : decode cX10_checkStep 8 = .ok (.ifCond .ne 13, 3) := by decide +kernel
theorem dX10_checkStep_11 : decode cX10_checkStep 11 = .ok (.new 124, 3) := by decide +kernel
theorem dX10_checkStep_14 : decode cX10_checkStep 14 = .ok (.dup, 1) := by decide +kernel
theorem dX10_checkStep_15 : decode cX10_checkStep 15 = .ok (.ldc 226, 2) := by decide +kernel
theorem dX10_checkStep_17 : decode cX10_checkStep 17 = .ok (.invokespecial 128, 3) := by decide +kernel
theorem dX10_checkStep_20 : decode cX10_checkStep 20 = .ok (.athrow, 1) := by decide +kernel
theorem dX10_checkStep_21 : decode cX10_checkStep 21 = .ok (.iload_n 2, 1) := by decide +kernel
theorem dX10_checkStep_22 : decode cX10_checkStep 22 = .ok (.invokestatic 92, 3) := by decide +kernel
theorem dX10_checkStep_25 : decode cX10_checkStep 25 = .ok (.ifCond .ne 13, 3) := by decide +kernel
theorem dX10_checkStep_28 : decode cX10_checkStep 28 = .ok (.new 96, 3) := by decide +kernel
theorem dX10_checkStep_31 : decode cX10_checkStep 31 = .ok (.dup, 1) := by decide +kernel
theorem dX10_checkStep_32 : decode cX10_checkStep 32 = .ok (.ldc 98, 2) := by decide +kernel
theorem dX10_checkStep_34 : decode cX10_checkStep 34 = .ok (.invokespecial 100, 3) := by decide +kernel
theorem dX10_checkStep_37 : decode cX10_checkStep 37 = .ok (.athrow, 1) := by decide +kernel
theorem dX10_checkStep_38 : decode cX10_checkStep 38 = .ok (.return_, 1) := by decide +kernel
theorem dX10_addBytes_0 : decode cX10_addBytes 0 = .ok (.bipush 24, 2) := by decide +kernel
theorem dX10_addBytes_2 : decode cX10_addBytes 2 = .ok (.istore_n 2, 1) := by decide +kernel
theorem dX10_addBytes_3 : decode cX10_addBytes 3 = .ok (.iload_n 2, 1) := by decide +kernel
theorem dX10_addBytes_4 : decode cX10_addBytes 4 = .ok (.ifCond .lt 24, 3) := by decide +kernel
theorem dX10_addBytes_7 : decode cX10_addBytes 7 = .ok (.aload_n 0, 1) := by decide +kernel
theorem dX10_addBytes_8 : decode cX10_addBytes 8 = .ok (.getfield 57, 3) := by decide +kernel
theorem dX10_addBytes_11 : decode cX10_addBytes 11 = .ok (.iload_n 1, 1) := by decide +kernel
theorem dX10_addBytes_12 : decode cX10_addBytes 12 = .ok (.iload_n 2, 1) := by decide +kernel
theorem dX10_addBytes_13 : decode cX10_addBytes 13 = .ok (.iushr, 1) := by decide +kernel
theorem dX10_addBytes_14 : decode cX10_addBytes 14 = .ok (.sipush 255, 3) := by decide +kernel
theorem dX10_addBytes_17 : decode cX10_addBytes 17 = .ok (.iand, 1) := by decide +kernel
theorem dX10_addBytes_18 : decode cX10_addBytes 18 = .ok (.invokevirtual 103, 3) := by decide +kernel
theorem dX10_addBytes_21 : decode cX10_addBytes 21 = .ok (.pop, 1) := by decide +kernel
theorem dX10_addBytes_22 : decode cX10_addBytes 22 = .ok (.iinc 2 (-8), 3) := by decide +kernel
theorem dX10_addBytes_25 : decode cX10_addBytes 25 = .ok (.goto (-22), 3) := by decide +kernel
theorem dX10_addBytes_28 : decode cX10_addBytes 28 = .ok (.return_, 1) := by decide +kernel
theorem dX10_isCall_0 : decode cX10_isCall 0 = .ok (.iload_n 0, 1) := by decide +kernel
theorem dX10_isCall_1 : decode cX10_isCall 1 = .ok (.ifCond .lt 13, 3) := by decide +kernel
theorem dX10_isCall_4 : decode cX10_isCall 4 = .ok (.iload_n 0, 1) := by decide +kernel
theorem dX10_isCall_5 : decode cX10_isCall 5 = .ok (.bipush 8, 2) := by decide +kernel
theorem dX10_isCall_7 : decode cX10_isCall 7 = .ok (.if_icmp .ge 7, 3) := by decide +kernel
theorem dX10_isCall_10 : decode cX10_isCall 10 = .ok (.iconst 1, 1) := by decide +kernel
theorem dX10_isCall_11 : decode cX10_isCall 11 = .ok (.goto 4, 3) := by decide +kernel
theorem dX10_isCall_14 : decode cX10_isCall 14 = .ok (.iconst 0, 1) := by decide +kernel
theorem dX10_isCall_15 : decode cX10_isCall 15 = .ok (.ireturn, 1) := by decide +kernel
theorem dJ9_max_7cf53_0 : decode cJ9_max_7cf53 0 = .ok (.iload_n 0, 1) := by decide +kernel
theorem dJ9_max_7cf53_1 : decode cJ9_max_7cf53 1 = .ok (.iload_n 1, 1) := by decide +kernel
theorem dJ9_max_7cf53_2 : decode cJ9_max_7cf53 2 = .ok (.if_icmp .lt 7, 3) := by decide +kernel
theorem dJ9_max_7cf53_5 : decode cJ9_max_7cf53 5 = .ok (.iload_n 0, 1) := by decide +kernel
theorem dJ9_max_7cf53_6 : decode cJ9_max_7cf53 6 = .ok (.goto 4, 3) := by decide +kernel
theorem dJ9_max_7cf53_9 : decode cJ9_max_7cf53 9 = .ok (.iload_n 1, 1) := by decide +kernel
theorem dJ9_max_7cf53_10 : decode cJ9_max_7cf53 10 = .ok (.ireturn, 1) := by decide +kernel
theorem dJ9_min_7cf53_0 : decode cJ9_min_7cf53 0 = .ok (.iload_n 0, 1) := by decide +kernel
theorem dJ9_min_7cf53_1 : decode cJ9_min_7cf53 1 = .ok (.iload_n 1, 1) := by decide +kernel
theorem dJ9_min_7cf53_2 : decode cJ9_min_7cf53 2 = .ok (.if_icmp .gt 7, 3) := by decide +kernel
theorem dJ9_min_7cf53_5 : decode cJ9_min_7cf53 5 = .ok (.iload_n 0, 1) := by decide +kernel
theorem dJ9_min_7cf53_6 : decode cJ9_min_7cf53 6 = .ok (.goto 4, 3) := by decide +kernel
theorem dJ9_min_7cf53_9 : decode cJ9_min_7cf53 9 = .ok (.iload_n 1, 1) := by decide +kernel
theorem dJ9_min_7cf53_10 : decode cJ9_min_7cf53 10 = .ok (.ireturn, 1) := by decide +kernel
theorem dJ7_fill_53178_0 : decode cJ7_fill_53178 0 = .ok (.iconst 0, 1) := by decide +kernel
theorem dJ7_fill_53178_1 : decode cJ7_fill_53178 1 = .ok (.istore_n 2, 1) := by decide +kernel
theorem dJ7_fill_53178_2 : decode cJ7_fill_53178 2 = .ok (.aload_n 0, 1) := by decide +kernel
theorem dJ7_fill_53178_3 : decode cJ7_fill_53178 3 = .ok (.arraylength, 1) := by decide +kernel
theorem dJ7_fill_53178_4 : decode cJ7_fill_53178 4 = .ok (.istore_n 3, 1) := by decide +kernel
theorem dJ7_fill_53178_5 : decode cJ7_fill_53178 5 = .ok (.iload_n 2, 1) := by decide +kernel
theorem dJ7_fill_53178_6 : decode cJ7_fill_53178 6 = .ok (.iload_n 3, 1) := by decide +kernel
theorem dJ7_fill_53178_7 : decode cJ7_fill_53178 7 = .ok (.if_icmp .ge 13, 3) := by decide +kernel
theorem dJ7_fill_53178_10 : decode cJ7_fill_53178 10 = .ok (.aload_n 0, 1) := by decide +kernel
theorem dJ7_fill_53178_11 : decode cJ7_fill_53178 11 = .ok (.iload_n 2, 1) := by decide +kernel
theorem dJ7_fill_53178_12 : decode cJ7_fill_53178 12 = .ok (.iload_n 1, 1) := by decide +kernel
theorem dJ7_fill_53178_13 : decode cJ7_fill_53178 13 = .ok (.iastore, 1) := by decide +kernel
theorem dJ7_fill_53178_14 : decode cJ7_fill_53178 14 = .ok (.iinc 2 1, 3) := by decide +kernel
theorem dJ7_fill_53178_17 : decode cJ7_fill_53178 17 = .ok (.goto (-12), 3) := by decide +kernel
theorem dJ7_fill_53178_20 : decode cJ7_fill_53178 20 = .ok (.return_, 1) := by decide +kernel
end
section
theorem dX11_init_0 : decode cX11_init 0 = .ok (.aload_n 0, 1) := by decide +kernel
theorem dX11_init_1 : decode cX11_init 1 = .ok (.invokespecial 1, 3) := by decide +kernel
theorem dX11_init_4 : decode cX11_init 4 = .ok (.aload_n 0, 1) := by decide +kernel
theorem dX11_init_5 : decode cX11_init 5 = .ok (.bipush 12, 2) := by decide +kernel
theorem dX11_init_7 : decode cX11_init 7 = .ok (.newarray .int, 2) := by decide +kernel
theorem dX11_init_9 : decode cX11_init 9 = .ok (.putfield 9, 3) := by decide +kernel
theorem dX11_init_12 : decode cX11_init 12 = .ok (.aload_n 0, 1) := by decide +kernel
theorem dX11_init_13 : decode cX11_init 13 = .ok (.sipush 720, 3) := by decide +kernel
theorem dX11_init_16 : decode cX11_init 16 = .ok (.newarray .int, 2) := by decide +kernel
theorem dX11_init_18 : decode cX11_init 18 = .ok (.putfield 13, 3) := by decide +kernel
theorem dX11_init_21 : decode cX11_init 21 = .ok (.aload_n 0, 1) := by decide +kernel
theorem dX11_init_22 : decode cX11_init 22 = .ok (.bipush 60, 2) := by decide +kernel
theorem dX11_init_24 : decode cX11_init 24 = .ok (.newarray .int, 2) := by decide +kernel
theorem dX11_init_26 : decode cX11_init 26 = .ok (.putfield 16, 3) := by decide +kernel
theorem dX11_init_29 : decode cX11_init 29 = .ok (.aload_n 0, 1) := by decide +kernel
theorem dX11_init_30 : decode cX11_init 30 = .ok (.bipush 60, 2) := by decide +kernel
theorem dX11_init_32 : decode cX11_init 32 = .ok (.newarray .boolean, 2) := by decide +kernel
theorem dX11_init_34 : decode cX11_init 34 = .ok (.putfield 19, 3) := by decide +kernel
theorem dX11_init_37 : decode cX11_init 37 = .ok (.aload_n 0, 1) := by decide +kernel
theorem dX11_init_38 : decode cX11_init 38 = .ok (.bipush 60, 2) := by decide +kernel
theorem dX11_init_40 : decode cX11_init 40 = .ok (.newarray .boolean, 2) := by decide +kernel
theorem dX11_init_42 : decode cX11_init 42 = .ok (.putfield 23, 3) := by decide +kernel
theorem dX11_init_45 : decode cX11_init 45 = .ok (.aload_n 0, 1) := by decide +kernel
theorem dX11_init_46 : decode cX11_init 46 = .ok (.bipush 60, 2) := by decide +kernel
theorem dX11_init_48 : decode cX11_init 48 = .ok (.newarray .int, 2) := by decide +kernel
theorem dX11_init_50 : decode cX11_init 50 = .ok (.putfield 26, 3) := by decide +kernel
theorem dX11_init_53 : decode cX11_init 53 = .ok (.aload_n 0, 1) := by decide +kernel
theorem dX11_init_54 : decode cX11_init 54 = .ok (.bipush 60, 2) := by decide +kernel
theorem dX11_init_56 : decode cX11_init 56 = .ok (.newarray .boolean, 2) := by decide +kernel
theorem dX11_init_58 : decode cX11_init 58 = .ok (.putfield 29, 3) := by decide +kernel
theorem dX11_init_61 : decode cX11_init 61 = .ok (.aload_n 0, 1) := by decide +kernel
theorem dX11_init_62 : decode cX11_init 62 = .ok (.sipush 5776, 3) := by decide +kernel
theorem dX11_init_65 : decode cX11_init 65 = .ok (.newarray .int, 2) := by decide +kernel
theorem dX11_init_67 : decode cX11_init 67 = .ok (.putfield 32, 3) := by decide +kernel
theorem dX11_init_70 : decode cX11_init 70 = .ok (.aload_n 0, 1) := by decide +kernel
theorem dX11_init_71 : decode cX11_init 71 = .ok (.sipush 722, 3) := by decide +kernel
theorem dX11_init_74 : decode cX11_init 74 = .ok (.newarray .int, 2) := by decide +kernel
theorem dX11_init_76 : decode cX11_init 76 = .ok (.putfield 35, 3) := by decide +kernel
theorem dX11_init_79 : decode cX11_init 79 = .ok (.aload_n 0, 1) := by decide +kernel
theorem dX11_init_80 : decode cX11_init 80 = .ok (.sipush 722, 3) := by decide +kernel
theorem dX11_init_83 : decode cX11_init 83 = .ok (.newarray .int, 2) := by decide +kernel
theorem dX11_init_85 : decode cX11_init 85 = .ok (.putfield 38, 3) := by decide +kernel
theorem dX11_init_88 : decode cX11_init 88 = .ok (.aload_n 0, 1) := by decide +kernel
theorem dX11_init_89 : decode cX11_init 89 = .ok (.sipush 5776, 3) := by decide +kernel
theorem dX11_init_92 : decode cX11_init 92 = .ok (.newarray .int, 2) := by decide +kernel
theorem dX11_init_94 : decode cX11_init 94 = .ok (.putfield 41, 3) := by decide +kernel
theorem dX11_init_97 : decode cX11_init 97 = .ok (.aload_n 0, 1) := by decide +kernel
theorem dX11_init_98 : decode cX11_init 98 = .ok (.sipush 722, 3) := by decide +kernel
theorem dX11_init_101 : decode cX11_init 101 = .ok (.newarray .int, 2) := by decide +kernel
theorem dX11_init_103 : decode cX11_init 103 = .ok (.putfield 44, 3) := by decide +kernel
theorem dX11_init_106 : decode cX11_init 106 = .ok (.aload_n 0, 1) := by decide +kernel
theorem dX11_init_107 : decode cX11_init 107 = .ok (.sipush 722, 3) := by decide +kernel
theorem dX11_init_110 : decode cX11_init 110 = .ok (.newarray .int, 2) := by decide +kernel
theorem dX11_init_112 : decode cX11_init 112 = .ok (.putfield 47, 3) := by decide +kernel
theorem dX11_init_115 : decode cX11_init 115 = .ok (.aload_n 0, 1) := by decide +kernel
theorem dX11_init_116 : decode cX11_init 116 = .ok (.sipush 5776, 3) := by decide +kernel
theorem dX11_init_119 : decode cX11_init 119 = .ok (.newarray .int, 2) := by decide +kernel
theorem dX11_init_121 : decode cX11_init 121 = .ok (.putfield 50, 3) := by decide +kernel
theorem dX11_init_124 : decode cX11_init 124 = .ok (.aload_n 0, 1) := by decide +kernel
theorem dX11_init_125 : decode cX11_init 125 = .ok (.sipush 14440, 3) := by decide +kernel
theorem dX11_init_128 : decode cX11_init 128 = .ok (.newarray .int, 2) := by decide +kernel
theorem dX11_init_130 : decode cX11_init 130 = .ok (.putfield 53, 3) := by decide +kernel
theorem dX11_init_133 : decode cX11_init 133 = .ok (.aload_n 0, 1) := by decide +kernel
theorem dX11_init_134 : decode cX11_init 134 = .ok (.sipush 14440, 3) := by decide +kernel
theorem dX11_init_137 : decode cX11_init 137 = .ok (.newarray .int, 2) := by decide +kernel
theorem dX11_init_139 : decode cX11_init 139 = .ok (.putfield 56, 3) := by decide +kernel
theorem dX11_init_142 : decode cX11_init 142 = .ok (.aload_n 0, 1) := by decide +kernel
theorem dX11_init_143 : decode cX11_init 143 = .ok (.sipush 7220, 3) := by decide +kernel
theorem dX11_init_146 : decode cX11_init 146 = .ok (.newarray .int, 2) := by decide +kernel
theorem dX11_init_148 : decode cX11_init 148 = .ok (.putfield 59, 3) := by decide +kernel
theorem dX11_init_151 : decode cX11_init 151 = .ok (.aload_n 0, 1) := by decide +kernel
theorem dX11_init_152 : decode cX11_init 152 = .ok (.sipush 7220, 3) := by decide +kernel
theorem dX11_init_155 : decode cX11_init 155 = .ok (.newarray .int, 2) := by decide +kernel
theorem dX11_init_157 : decode cX11_init 157 = .ok (.putfield 62, 3) := by decide +kernel
theorem dX11_init_160 : decode cX11_init 160 = .ok (.aload_n 0, 1) := by decide +kernel
theorem dX11_init_161 : decode cX11_init 161 = .ok (.sipush 240, 3) := by decide +kernel
theorem dX11_init_164 : decode cX11_init 164 = .ok (.newarray .int, 2) := by decide +kernel
theorem dX11_init_166 : decode cX11_init 166 = .ok (.putfield 65, 3) := by decide +kernel
theorem dX11_init_169 : decode cX11_init 169 = .ok (.aload_n 0, 1) := by decide +kernel
theorem dX11_init_170 : decode cX11_init 170 = .ok (.sipush 240, 3) := by decide +kernel
theorem dX11_init_173 : decode cX11_init 173 = .ok (.newarray .int, 2) := by decide +kernel
theorem dX11_init_175 : decode cX11_init 175 = .ok (.putfield 68, 3) := by decide +kernel
theorem dX11_init_178 : decode cX11_init 178 = .ok (.aload_n 0, 1) := by decide +kernel
theorem dX11_init_179 : decode cX11_init 179 = .ok (.bipush 30, 2) := by decide +kernel
theorem dX11_init_181 : decode cX11_init 181 = .ok (.newarray .int, 2) := by decide +kernel
theorem dX11_init_183 : decode cX11_init 183 = .ok (.putfield 71, 3) := by decide +kernel
theorem dX11_init_186 : decode cX11_init 186 = .ok (.aload_n 0, 1) := by decide +kernel
theorem dX11_init_187 : decode cX11_init 187 = .ok (.bipush 16, 2) := by decide +kernel
theorem dX11_init_189 : decode cX11_init 189 = .ok (.newarray .int, 2) := by decide +kernel
theorem dX11_init_191 : decode cX11_init 191 = .ok (.putfield 74, 3) := by decide +kernel
theorem dX11_init_194 : decode cX11_init 194 = .ok (.aload_n 0, 1) := by decide +kernel
theorem dX11_init_195 : decode cX11_init 195 = .ok (.bipush 24, 2) := by decide +kernel
theorem dX11_init_197 : decode cX11_init 197 = .ok (.newarray .int, 2) := by decide +kernel
theorem dX11_init_199 : decode cX11_init 199 = .ok (.putfield 77, 3) := by decide +kernel
theorem dX11_init_202 : decode cX11_init 202 = .ok (.aload_n 0, 1) := by decide +kernel
theorem dX11_init_203 : decode cX11_init 203 = .ok (.sipush 200, 3) := by decide +kernel
theorem dX11_init_206 : decode cX11_init 206 = .ok (.newarray .byte, 2) := by decide +kernel
theorem dX11_init_208 : decode cX11_init 208 = .ok (.putfield 80, 3) := by decide +kernel
theorem dX11_init_211 : decode cX11_init 211 = .ok (.aload_n 0, 1) := by decide +kernel
theorem dX11_init_212 : decode cX11_init 212 = .ok (.sipush 1200, 3) := by decide +kernel
theorem dX11_init_215 : decode cX11_init 215 = .ok (.newarray .int, 2) := by decide +kernel
theorem dX11_init_217 : decode cX11_init 217 = .ok (.putfield 84, 3) := by decide +kernel
theorem dX11_init_220 : decode cX11_init 220 = .ok (.aload_n 0, 1) := by decide +kernel
theorem dX11_init_221 : decode cX11_init 221 = .ok (.sipush 1200, 3) := by decide +kernel
theorem dX11_init_224 : decode cX11_init 224 = .ok (.newarray .int, 2) := by decide +kernel
theorem dX11_init_226 : decode cX11_init 226 = .ok (.putfield 87, 3) := by decide +kernel
theorem dX11_init_229 : decode cX11_init 229 = .ok (.aload_n 0, 1) := by decide +kernel
theorem dX11_init_230 : decode cX11_init 230 = .ok (.sipush 1200, 3) := by decide +kernel
theorem dX11_init_233 : decode cX11_init 233 = .ok (.newarray .int, 2) := by decide +kernel
theorem dX11_init_235 : decode cX11_init 235 = .ok (.putfield 90, 3) := by decide +kernel
theorem dX11_init_238 : decode cX11_init 238 = .ok (.aload_n 0, 1) := by decide +kernel
theorem dX11_init_239 : decode cX11_init 239 = .ok (.sipush 1200, 3) := by decide +kernel
theorem dX11_init_242 : decode cX11_init 242 = .ok (.newarray .int, 2) := by decide +kernel
theorem dX11_init_244 : decode cX11_init 244 = .ok (.putfield 93, 3) := by decide +kernel
theorem dX11_init_247 : decode cX11_init 247 = .ok (.aload_n 0, 1) := by decide +kernel
theorem dX11_init_248 : decode cX11_init 248 = .ok (.sipush 1200, 3) := by decide +kernel
theorem dX11_init_251 : decode cX11_init 251 = .ok (.newarray .int, 2) := by decide +kernel
theorem dX11_init_253 : decode cX11_init 253 = .ok (.putfield 96, 3) := by decide +kernel
theorem dX11_init_256 : decode cX11_init 256 = .ok (.aload_n 0, 1) := by decide +kernel
theorem dX11_init_257 : decode cX11_init 257 = .ok (.sipush 1200, 3) := by decide +kernel
theorem dX11_init_260 : decode cX11_init 260 = .ok (.newarray .int, 2) := by decide +kernel
theorem dX11_init_262 : decode cX11_init 262 = .ok (.putfield 99, 3) := by decide +kernel
theorem dX11_init_265 : decode cX11_init 265 = .ok (.aload_n 0, 1) := by decide +kernel
theorem dX11_init_266 : decode cX11_init 266 = .ok (.sipush 18600, 3) := by decide +kernel
theorem dX11_init_269 : decode cX11_init 269 = .ok (.newarray .int, 2) := by decide +kernel
theorem dX11_init_271 : decode cX11_init 271 = .ok (.putfield 102, 3) := by decide +kernel
theorem dX11_init_274 : decode cX11_init 274 = .ok (.aload_n 0, 1) := by decide +kernel
theorem dX11_init_275 : decode cX11_init 275 = .ok (.sipush 620, 3) := by decide +kernel
theorem dX11_init_278 : decode cX11_init 278 = .ok (.newarray .boolean, 2) := by decide +kernel
theorem dX11_init_280 : decode cX11_init 280 = .ok (.putfield 105, 3) := by decide +kernel
theorem dX11_init_283 : decode cX11_init 283 = .ok (.aload_n 0, 1) := by decide +kernel
theorem dX11_init_284 : decode cX11_init 284 = .ok (.sipush 620, 3) := by decide +kernel
theorem dX11_init_287 : decode cX11_init 287 = .ok (.newarray .boolean, 2) := by decide +kernel
theorem dX11_init_289 : decode cX11_init 289 = .ok (.putfield 108, 3) := by decide +kernel
theorem dX11_init_292 : decode cX11_init 292 = .ok (.aload_n 0, 1) := by decide +kernel
theorem dX11_init_293 : decode cX11_init 293 = .ok (.bipush 64, 2) := by decide +kernel
theorem dX11_init_295 : decode cX11_init 295 = .ok (.newarray .int, 2) := by decide +kernel
theorem dX11_init_297 : decode cX11_init 297 = .ok (.putfield 111, 3) := by decide +kernel
theorem dX11_init_300 : decode cX11_init 300 = .ok (.aload_n 0, 1) := by decide +kernel
theorem dX11_init_301 : decode cX11_init 301 = .ok (.sipush 390, 3) := by decide +kernel
theorem dX11_init_304 : decode cX11_init 304 = .ok (.newarray .int, 2) := by decide +kernel
theorem dX11_init_306 : decode cX11_init 306 = .ok (.putfield 114, 3) := by decide +kernel
theorem dX11_init_309 : decode cX11_init 309 = .ok (.aload_n 0, 1) := by decide +kernel
theorem dX11_init_310 : decode cX11_init 310 = .ok (.bipush 64, 2) := by decide +kernel
theorem dX11_init_312 : decode cX11_init 312 = .ok (.newarray .int, 2) := by decide +kernel
theorem dX11_init_314 : decode cX11_init 314 = .ok (.putfield 117, 3) := by decide +kernel
theorem dX11_init_317 : decode cX11_init 317 = .ok (.aload_n 0, 1) := by decide +kernel
theorem dX11_init_318 : decode cX11_init 318 = .ok (.bipush 64, 2) := by decide +kernel
theorem dX11_init_320 : decode cX11_init 320 = .ok (.newarray .int, 2) := by decide +kernel
theorem dX11_init_322 : decode cX11_init 322 = .ok (.putfield 120, 3) := by decide +kernel
theorem dX11_init_325 : decode cX11_init 325 = .ok (.aload_n 0, 1) := by decide +kernel
theorem dX11_init_326 : decode cX11_init 326 = .ok (.bipush 64, 2) := by decide +kernel
theorem dX11_init_328 : decode cX11_init 328 = .ok (.newarray .int, 2) := by decide +kernel
theorem dX11_init_330 : decode cX11_init 330 = .ok (.putfield 123, 3) := by decide +kernel
theorem dX11_init_333 : decode cX11_init 333 = .ok (.aload_n 0, 1) := by decide +kernel
theorem dX11_init_334 : decode cX11_init 334 = .ok (.iconst 1, 1) := by decide +kernel
theorem dX11_init_335 : decode cX11_init 335 = .ok (.putfield 126, 3) := by decide +kernel
theorem dX11_init_338 : decode cX11_init 338 = .ok (.iconst 0, 1) := by decide +kernel
theorem dX11_init_339 : decode cX11_init 339 = .ok (.istore_n 1, 1) := by decide +kernel
theorem dX11_init_340 : decode cX11_init 340 = .ok (.iload_n 1, 1) := by decide +kernel
theorem dX11_init_341 : decode cX11_init 341 = .ok (.sipush 240, 3) := by decide +kernel
theorem dX11_init_344 : decode cX11_init 344 = .ok (.if_icmp .ge 16, 3) := by decide +kernel
theorem dX11_init_347 : decode cX11_init 347 = .ok (.aload_n 0, 1) := by decide +kernel
theorem dX11_init_348 : decode cX11_init 348 = .ok (.getfield 65, 3) := by decide +kernel
theorem dX11_init_351 : decode cX11_init 351 = .ok (.iload_n 1, 1) := by decide +kernel
theorem dX11_init_352 : decode cX11_init 352 = .ok (.iconst (-1), 1) := by decide +kernel
theorem dX11_init_353 : decode cX11_init 353 = .ok (.iastore, 1) := by decide +kernel
theorem dX11_init_354 : decode cX11_init 354 = .ok (.iinc 1 1, 3) := by decide +kernel
theorem dX11_init_357 : decode cX11_init 357 = .ok (.goto (-17), 3) := by decide +kernel
theorem dX11_init_360 : decode cX11_init 360 = .ok (.aload_n 0, 1) := by decide +kernel
theorem dX11_init_361 : decode cX11_init 361 = .ok (.invokevirtual 130, 3) := by decide +kernel
theorem dX11_init_364 : decode cX11_init 364 = .ok (.return_, 1) := by decide +kernel
theorem dX11_thrown_0 : decode cX11_thrown 0 = .ok (.aload_n 0, 1) := by decide +kernel
theorem dX11_thrown_1 : decode cX11_thrown 1 = .ok (.getfield 133, 3) := by decide +kernel
theorem dX11_thrown_4 : decode cX11_thrown 4 = .ok (.ireturn, 1) := by decide +kernel
theorem dX11_bad_0 : decode cX11_bad 0 = .ok (.iload_n 1, 1) := by decide +kernel
theorem dX11_bad_1 : decode cX11_bad 1 = .ok (.ifCond .eq 8, 3) := by decide +kernel
theorem dX11_bad_4 : decode cX11_bad 4 = .ok (.aload_n 0, 1) := by decide +kernel
theorem dX11_bad_5 : decode cX11_bad 5 = .ok (.iload_n 2, 1) := by decide +kernel
theorem dX11_bad_6 : decode cX11_bad 6 = .ok (.putfield 133, 3) := by decide +kernel
theorem dX11_bad_9 : decode cX11_bad 9 = .ok (.iload_n 1, 1) := by decide +kernel
theorem dX11_bad_10 : decode cX11_bad 10 = .ok (.ireturn, 1) := by decide +kernel
theorem dX11_isCall_0 : decode cX11_isCall 0 = .ok (.iload_n 0, 1) := by decide +kernel
theorem dX11_isCall_1 : decode cX11_isCall 1 = .ok (.ifCond .lt 13, 3) := by decide +kernel
theorem dX11_isCall_4 : decode cX11_isCall 4 = .ok (.iload_n 0, 1) := by decide +kernel
theorem dX11_isCall_5 : decode cX11_isCall 5 = .ok (.bipush 8, 2) := by decide +kernel
theorem dX11_isCall_7 : decode cX11_isCall 7 = .ok (.if_icmp .ge 7, 3) := by decide +kernel
theorem dX11_isCall_10 : decode cX11_isCall 10 = .ok (.iconst 1, 1) := by decide +kernel
theorem dX11_isCall_11 : decode cX11_isCall 11 = .ok (.goto 4, 3) := by decide +kernel
theorem dX11_isCall_14 : decode cX11_isCall 14 = .ok (.iconst 0, 1) := by decide +kernel
theorem dX11_isCall_15 : decode cX11_isCall 15 = .ok (.ireturn, 1) := by decide +kernel
theorem dX11_push_0 : decode cX11_push 0 = .ok (.aload_n 0, 1) := by decide +kernel
theorem dX11_push_1 : decode cX11_push 1 = .ok (.iconst 0, 1) := by decide +kernel
theorem dX11_push_2 : decode cX11_push 2 = .ok (.putfield 133, 3) := by decide +kernel
theorem dX11_push_5 : decode cX11_push 5 = .ok (.aload_n 0, 1) := by decide +kernel
theorem dX11_push_6 : decode cX11_push 6 = .ok (.iload_n 1, 1) := by decide +kernel
theorem dX11_push_7 : decode cX11_push 7 = .ok (.invokestatic 136, 3) := by decide +kernel
theorem dX11_push_10 : decode cX11_push 10 = .ok (.ifCond .ne 7, 3) := by decide +kernel
theorem dX11_push_13 : decode cX11_push 13 = .ok (.iconst 1, 1) := by decide +kernel
theorem dX11_push_14 : decode cX11_push 14 = .ok (.goto 4, 3) := by decide +kernel
theorem dX11_push_17 : decode cX11_push 17 = .ok (.iconst 0, 1) := by decide +kernel
theorem dX11_push_18 : decode cX11_push 18 = .ok (.iconst 1, 1) := by decide +kernel
theorem dX11_push_19 : decode cX11_push 19 = .ok (.invokevirtual 140, 3) := by decide +kernel
theorem dX11_push_22 : decode cX11_push 22 = .ok (.ifCond .eq 5, 3) := by decide +kernel
theorem dX11_push_25 : decode cX11_push 25 = .ok (.iconst 0, 1) := by decide +kernel
theorem dX11_push_26 : decode cX11_push 26 = .ok (.ireturn, 1) := by decide +kernel
theorem dX11_push_27 : decode cX11_push 27 = .ok (.aload_n 0, 1) := by decide +kernel
theorem dX11_push_28 : decode cX11_push 28 = .ok (.getfield 144, 3) := by decide +kernel
theorem dX11_push_31 : decode cX11_push 31 = .ok (.bipush 12, 2) := by decide +kernel
theorem dX11_push_33 : decode cX11_push 33 = .ok (.if_icmp .ne 5, 3) := by decide +kernel
theorem dX11_push_36 : decode cX11_push 36 = .ok (.iconst (-1), 1) := by decide +kernel
theorem dX11_push_37 : decode cX11_push 37 = .ok (.ireturn, 1) := by decide +kernel
theorem dX11_push_38 : decode cX11_push 38 = .ok (.aload_n 0, 1) := by decide +kernel
theorem dX11_push_39 : decode cX11_push 39 = .ok (.getfield 9, 3) := by decide +kernel
theorem dX11_push_42 : decode cX11_push 42 = .ok (.aload_n 0, 1) := by decide +kernel
theorem dX11_push_43 : decode cX11_push 43 = .ok (.getfield 144, 3) := by decide +kernel
theorem dX11_push_46 : decode cX11_push 46 = .ok (.iload_n 1, 1) := by decide +kernel
theorem dX11_push_47 : decode cX11_push 47 = .ok (.iastore, 1) := by decide +kernel
theorem dX11_push_48 : decode cX11_push 48 = .ok (.aload_n 0, 1) := by decide +kernel
theorem dX11_push_49 : decode cX11_push 49 = .ok (.dup, 1) := by decide +kernel
theorem dX11_push_50 : decode cX11_push 50 = .ok (.getfield 144, 3) := by decide +kernel
theorem dX11_push_53 : decode cX11_push 53 = .ok (.iconst 1, 1) := by decide +kernel
theorem dX11_push_54 : decode cX11_push 54 = .ok (.iadd, 1) := by decide +kernel
theorem dX11_push_55 : decode cX11_push 55 = .ok (.putfield 144, 3) := by decide +kernel
theorem dX11_push_58 : decode cX11_push 58 = .ok (.aload_n 0, 1) := by decide +kernel
theorem dX11_push_59 : decode cX11_push 59 = .ok (.getfield 144, 3) := by decide +kernel
theorem dX11_push_62 : decode cX11_push 62 = .ok (.ireturn, 1) := by decide +kernel
theorem dX11_empty_0 : decode cX11_empty 0 = .ok (.aload_n 0, 1) := by decide +kernel
theorem dX11_empty_1 : decode cX11_empty 1 = .ok (.iconst 0, 1) := by decide +kernel
theorem dX11_empty_2 : decode cX11_empty 2 = .ok (.putfield 133, 3) := by decide +kernel
theorem dX11_empty_5 : decode cX11_empty 5 = .ok (.aload_n 0, 1) := by decide +kernel
theorem dX11_empty_6 : decode cX11_empty 6 = .ok (.getfield 144, 3) := by decide +kernel
theorem dX11_empty_9 : decode cX11_empty 9 = .ok (.istore_n 1, 1) := by decide +kernel
theorem dX11_empty_10 : decode cX11_empty 10 = .ok (.aload_n 0, 1) := by decide +kernel
theorem dX11_empty_11 : decode cX11_empty 11 = .ok (.iconst 0, 1) := by decide +kernel
theorem dX11_empty_12 : decode cX11_empty 12 = .ok (.putfield 144, 3) := by decide +kernel
theorem dX11_empty_15 : decode cX11_empty 15 = .ok (.iload_n 1, 1) := by decide +kernel
theorem dX11_empty_16 : decode cX11_empty 16 = .ok (.ireturn, 1) := by decide +kernel
theorem dX11_hand_0 : decode cX11_hand 0 = .ok (.aload_n 0, 1) := by decide +kernel
theorem dX11_hand_1 : decode cX11_hand 1 = .ok (.iconst 0, 1) := by decide +kernel
theorem dX11_hand_2 : decode cX11_hand 2 = .ok (.putfield 133, 3) := by decide +kernel
theorem dX11_hand_5 : decode cX11_hand 5 = .ok (.iload_n 1, 1) := by decide +kernel
theorem dX11_hand_6 : decode cX11_hand 6 = .ok (.ifCond .lt 20, 3) := by decide +kernel
theorem dX11_hand_9 : decode cX11_hand 9 = .ok (.iload_n 1, 1) := by decide +kernel
theorem dX11_hand_10 : decode cX11_hand 10 = .ok (.aload_n 0, 1) := by decide +kernel
theorem dX11_hand_11 : decode cX11_hand 11 = .ok (.getfield 144, 3) := by decide +kernel
theorem dX11_hand_14 : decode cX11_hand 14 = .ok (.if_icmp .ge 12, 3) := by decide +kernel
theorem dX11_hand_17 : decode cX11_hand 17 = .ok (.aload_n 0, 1) := by decide +kernel
theorem dX11_hand_18 : decode cX11_hand 18 = .ok (.getfield 9, 3) := by decide +kernel
theorem dX11_hand_21 : decode cX11_hand 21 = .ok (.iload_n 1, 1) := by decide +kernel
theorem dX11_hand_22 : decode cX11_hand 22 = .ok (.iaload, 1) := by decide +kernel
theorem dX11_hand_23 : decode cX11_hand 23 = .ok (.goto 4, 3) := by decide +kernel
theorem dX11_hand_26 : decode cX11_hand 26 = .ok (.iconst (-1), 1) := by decide +kernel
theorem dX11_hand_27 : decode cX11_hand 27 = .ok (.ireturn, 1) := by decide +kernel
theorem dX11_row_0 : decode cX11_row 0 = .ok (.aload_n 0, 1) := by decide +kernel
theorem dX11_row_1 : decode cX11_row 1 = .ok (.iconst 0, 1) := by decide +kernel
theorem dX11_row_2 : decode cX11_row 2 = .ok (.putfield 133, 3) := by decide +kernel
theorem dX11_row_5 : decode cX11_row 5 = .ok (.iload_n 1, 1) := by decide +kernel
theorem dX11_row_6 : decode cX11_row 6 = .ok (.ifCond .ne 12, 3) := by decide +kernel
theorem dX11_row_9 : decode cX11_row 9 = .ok (.aload_n 0, 1) := by decide +kernel
theorem dX11_row_10 : decode cX11_row 10 = .ok (.getfield 144, 3) := by decide +kernel
theorem dX11_row_13 : decode cX11_row 13 = .ok (.ifCond .ne 5, 3) := by decide +kernel
theorem dX11_row_16 : decode cX11_row 16 = .ok (.iconst (-1), 1) := by decide +kernel
theorem dX11_row_17 : decode cX11_row 17 = .ok (.ireturn, 1) := by decide +kernel
theorem dX11_row_18 : decode cX11_row 18 = .ok (.aload_n 0, 1) := by decide +kernel
theorem dX11_row_19 : decode cX11_row 19 = .ok (.getfield 147, 3) := by decide +kernel
theorem dX11_row_22 : decode cX11_row 22 = .ok (.bipush 60, 2) := by decide +kernel
theorem dX11_row_24 : decode cX11_row 24 = .ok (.if_icmp .ne 6, 3) := by decide +kernel
theorem dX11_row_27 : decode cX11_row 27 = .ok (.bipush (-2), 2) := by decide +kernel
theorem dX11_row_29 : decode cX11_row 29 = .ok (.ireturn, 1) := by decide +kernel
theorem dX11_row_30 : decode cX11_row 30 = .ok (.iconst 0, 1) := by decide +kernel
theorem dX11_row_31 : decode cX11_row 31 = .ok (.istore_n 2, 1) := by decide +kernel
theorem dX11_row_32 : decode cX11_row 32 = .ok (.iload_n 2, 1) := by decide +kernel
theorem dX11_row_33 : decode cX11_row 33 = .ok (.aload_n 0, 1) := by decide +kernel
theorem dX11_row_34 : decode cX11_row 34 = .ok (.getfield 144, 3) := by decide +kernel
theorem dX11_row_37 : decode cX11_row 37 = .ok (.if_icmp .ge 29, 3) := by decide +kernel
theorem dX11_row_40 : decode cX11_row 40 = .ok (.aload_n 0, 1) := by decide +kernel
theorem dX11_row_41 : decode cX11_row 41 = .ok (.getfield 13, 3) := by decide +kernel
theorem dX11_row_44 : decode cX11_row 44 = .ok (.bipush 12, 2) := by decide +kernel
theorem dX11_row_46 : decode cX11_row 46 = .ok (.aload_n 0, 1) := by decide +kernel
theorem dX11_row_47 : decode cX11_row 47 = .ok (.getfield 147, 3) := by decide +kernel
theorem dX11_row_50 : decode cX11_row 50 = .ok (.imul, 1) := by decide +kernel
theorem dX11_row_51 : decode cX11_row 51 = .ok (.iload_n 2, 1) := by decide +kernel
theorem dX11_row_52 : decode cX11_row 52 = .ok (.iadd, 1) := by decide +kernel
theorem dX11_row_53 : decode cX11_row 53 = .ok (.aload_n 0, 1) := by decide +kernel
theorem dX11_row_54 : decode cX11_row 54 = .ok (.getfield 9, 3) := by decide +kernel
theorem dX11_row_57 : decode cX11_row 57 = .ok (.iload_n 2, 1) := by decide +kernel
theorem dX11_row_58 : decode cX11_row 58 = .ok (.iaload, 1) := by decide +kernel
theorem dX11_row_59 : decode cX11_row 59 = .ok (.iastore, 1) := by decide +kernel
theorem dX11_row_60 : decode cX11_row 60 = .ok (.iinc 2 1, 3) := by decide +kernel
theorem dX11_row_63 : decode cX11_row 63 = .ok (.goto (-31), 3) := by decide +kernel
theorem dX11_row_66 : decode cX11_row 66 = .ok (.aload_n 0, 1) := by decide +kernel
theorem dX11_row_67 : decode cX11_row 67 = .ok (.getfield 16, 3) := by decide +kernel
theorem dX11_row_70 : decode cX11_row 70 = .ok (.aload_n 0, 1) := by decide +kernel
theorem dX11_row_71 : decode cX11_row 71 = .ok (.getfield 147, 3) := by decide +kernel
theorem dX11_row_74 : decode cX11_row 74 = .ok (.aload_n 0, 1) := by decide +kernel
theorem dX11_row_75 : decode cX11_row 75 = .ok (.getfield 144, 3) := by decide +kernel
theorem dX11_row_78 : decode cX11_row 78 = .ok (.iastore, 1) := by decide +kernel
theorem dX11_row_79 : decode cX11_row 79 = .ok (.aload_n 0, 1) := by decide +kernel
theorem dX11_row_80 : decode cX11_row 80 = .ok (.getfield 19, 3) := by decide +kernel
theorem dX11_row_83 : decode cX11_row 83 = .ok (.aload_n 0, 1) := by decide +kernel
theorem dX11_row_84 : decode cX11_row 84 = .ok (.getfield 147, 3) := by decide +kernel
theorem dX11_row_87 : decode cX11_row 87 = .ok (.iload_n 1, 1) := by decide +kernel
theorem dX11_row_88 : decode cX11_row 88 = .ok (.bastore, 1) := by decide +kernel
theorem dX11_row_89 : decode cX11_row 89 = .ok (.aload_n 0, 1) := by decide +kernel
theorem dX11_row_90 : decode cX11_row 90 = .ok (.getfield 23, 3) := by decide +kernel
theorem dX11_row_93 : decode cX11_row 93 = .ok (.aload_n 0, 1) := by decide +kernel
theorem dX11_row_94 : decode cX11_row 94 = .ok (.getfield 147, 3) := by decide +kernel
theorem dX11_row_97 : decode cX11_row 97 = .ok (.iconst 1, 1) := by decide +kernel
theorem dX11_row_98 : decode cX11_row 98 = .ok (.bastore, 1) := by decide +kernel
theorem dX11_row_99 : decode cX11_row 99 = .ok (.aload_n 0, 1) := by decide +kernel
theorem dX11_row_100 : decode cX11_row 100 = .ok (.iconst 0, 1) := by decide +kernel
theorem dX11_row_101 : decode cX11_row 101 = .ok (.putfield 144, 3) := by decide +kernel
theorem dX11_row_104 : decode cX11_row 104 = .ok (.aload_n 0, 1) := by decide +kernel
theorem dX11_row_105 : decode cX11_row 105 = .ok (.dup, 1) := by decide +kernel
theorem dX11_row_106 : decode cX11_row 106 = .ok (.getfield 147, 3) := by decide +kernel
theorem dX11_row_109 : decode cX11_row 109 = .ok (.iconst 1, 1) := by decide +kernel
theorem dX11_row_110 : decode cX11_row 110 = .ok (.iadd, 1) := by decide +kernel
theorem dX11_row_111 : decode cX11_row 111 = .ok (.putfield 147, 3) := by decide +kernel
theorem dX11_row_114 : decode cX11_row 114 = .ok (.aload_n 0, 1) := by decide +kernel
theorem dX11_row_115 : decode cX11_row 115 = .ok (.getfield 147, 3) := by decide +kernel
theorem dX11_row_118 : decode cX11_row 118 = .ok (.iconst 1, 1) := by decide +kernel
theorem dX11_row_119 : decode cX11_row 119 = .ok (.isub, 1) := by decide +kernel
theorem dX11_row_120 : decode cX11_row 120 = .ok (.ireturn, 1) := by decide +kernel
theorem dX11_isRow_0 : decode cX11_isRow 0 = .ok (.aload_n 0, 1) := by decide +kernel
theorem dX11_isRow_1 : decode cX11_isRow 1 = .ok (.iload_n 1, 1) := by decide +kernel
theorem dX11_isRow_2 : decode cX11_isRow 2 = .ok (.ifCond .lt 11, 3) := by decide +kernel
theorem dX11_isRow_5 : decode cX11_isRow 5 = .ok (.iload_n 1, 1) := by decide +kernel
theorem dX11_isRow_6 : decode cX11_isRow 6 = .ok (.aload_n 0, 1) := by decide +kernel
theorem dX11_isRow_7 : decode cX11_isRow 7 = .ok (.getfield 147, 3) := by decide +kernel
theorem dX11_isRow_10 : decode cX11_isRow 10 = .ok (.if_icmp .lt 7, 3) := by decide +kernel
theorem dX11_isRow_13 : decode cX11_isRow 13 = .ok (.iconst 1, 1) := by decide +kernel
theorem dX11_isRow_14 : decode cX11_isRow 14 = .ok (.goto 4, 3) := by decide +kernel
theorem dX11_isRow_17 : decode cX11_isRow 17 = .ok (.iconst 0, 1) := by decide +kernel
theorem dX11_isRow_18 : decode cX11_isRow 18 = .ok (.putfield 133, 3) := by decide +kernel
theorem dX11_isRow_21 : decode cX11_isRow 21 = .ok (.aload_n 0, 1) := by decide +kernel
theorem dX11_isRow_22 : decode cX11_isRow 22 = .ok (.getfield 133, 3) := by decide +kernel
theorem dX11_isRow_25 : decode cX11_isRow 25 = .ok (.ifCond .ne 7, 3) := by decide +kernel
theorem dX11_isRow_28 : decode cX11_isRow 28 = .ok (.iconst 1, 1) := by decide +kernel
theorem dX11_isRow_29 : decode cX11_isRow 29 = .ok (.goto 4, 3) := by decide +kernel
theorem dX11_isRow_32 : decode cX11_isRow 32 = .ok (.iconst 0, 1) := by decide +kernel
theorem dX11_isRow_33 : decode cX11_isRow 33 = .ok (.ireturn, 1) := by decide +kernel
theorem dX11_drop_0 : decode cX11_drop 0 = .ok (.aload_n 0, 1) := by decide +kernel
theorem dX11_drop_1 : decode cX11_drop 1 = .ok (.iload_n 1, 1) := by decide +kernel
theorem dX11_drop_2 : decode cX11_drop 2 = .ok (.invokevirtual 150, 3) := by decide +kernel
theorem dX11_drop_5 : decode cX11_drop 5 = .ok (.ifCond .ne 5, 3) := by decide +kernel
theorem dX11_drop_8 : decode cX11_drop 8 = .ok (.iconst 0, 1) := by decide +kernel
theorem dX11_drop_9 : decode cX11_drop 9 = .ok (.ireturn, 1) := by decide +kernel
theorem dX11_drop_10 : decode cX11_drop 10 = .ok (.aload_n 0, 1) := by decide +kernel
theorem dX11_drop_11 : decode cX11_drop 11 = .ok (.getfield 23, 3) := by decide +kernel
theorem dX11_drop_14 : decode cX11_drop 14 = .ok (.iload_n 1, 1) := by decide +kernel
theorem dX11_drop_15 : decode cX11_drop 15 = .ok (.baload, 1) := by decide +kernel
theorem dX11_drop_16 : decode cX11_drop 16 = .ok (.istore_n 2, 1) := by decide +kernel
theorem dX11_drop_17 : decode cX11_drop 17 = .ok (.aload_n 0, 1) := by decide +kernel
theorem dX11_drop_18 : decode cX11_drop 18 = .ok (.getfield 23, 3) := by decide +kernel
theorem dX11_drop_21 : decode cX11_drop 21 = .ok (.iload_n 1, 1) := by decide +kernel
theorem dX11_drop_22 : decode cX11_drop 22 = .ok (.iconst 0, 1) := by decide +kernel
theorem dX11_drop_23 : decode cX11_drop 23 = .ok (.bastore, 1) := by decide +kernel
theorem dX11_drop_24 : decode cX11_drop 24 = .ok (.iload_n 2, 1) := by decide +kernel
theorem dX11_drop_25 : decode cX11_drop 25 = .ok (.ireturn, 1) := by decide +kernel
theorem dX11_quarrels_0 : decode cX11_quarrels 0 = .ok (.aload_n 0, 1) := by decide +kernel
theorem dX11_quarrels_1 : decode cX11_quarrels 1 = .ok (.getfield 23, 3) := by decide +kernel
theorem dX11_quarrels_4 : decode cX11_quarrels 4 = .ok (.iload_n 1, 1) := by decide +kernel
theorem dX11_quarrels_5 : decode cX11_quarrels 5 = .ok (.baload, 1) := by decide +kernel
theorem dX11_quarrels_6 : decode cX11_quarrels 6 = .ok (.ifCond .eq 49, 3) := by decide +kernel
theorem dX11_quarrels_9 : decode cX11_quarrels 9 = .ok (.aload_n 0, 1) := by decide +kernel
theorem dX11_quarrels_10 : decode cX11_quarrels 10 = .ok (.getfield 23, 3) := by decide +kernel
theorem dX11_quarrels_13 : decode cX11_quarrels 13 = .ok (.iload_n 2, 1) := by decide +kernel
theorem dX11_quarrels_14 : decode cX11_quarrels 14 = .ok (.baload, 1) := by decide +kernel
theorem dX11_quarrels_15 : decode cX11_quarrels 15 = .ok (.ifCond .eq 40, 3) := by decide +kernel
theorem dX11_quarrels_18 : decode cX11_quarrels 18 = .ok (.aload_n 0, 1) := by decide +kernel
theorem dX11_quarrels_19 : decode cX11_quarrels 19 = .ok (.getfield 19, 3) := by decide +kernel
theorem dX11_quarrels_22 : decode cX11_quarrels 22 = .ok (.iload_n 1, 1) := by decide +kernel
theorem dX11_quarrels_23 : decode cX11_quarrels 23 = .ok (.baload, 1) := by decide +kernel
theorem dX11_quarrels_24 : decode cX11_quarrels 24 = .ok (.ifCond .ne 31, 3) := by decide +kernel
theorem dX11_quarrels_27 : decode cX11_quarrels 27 = .ok (.aload_n 0, 1) := by decide +kernel
theorem dX11_quarrels_28 : decode cX11_quarrels 28 = .ok (.getfield 19, 3) := by decide +kernel
theorem dX11_quarrels_31 : decode cX11_quarrels 31 = .ok (.iload_n 2, 1) := by decide +kernel
theorem dX11_quarrels_32 : decode cX11_quarrels 32 = .ok (.baload, 1) := by decide +kernel
theorem dX11_quarrels_33 : decode cX11_quarrels 33 = .ok (.ifCond .eq 22, 3) := by decide +kernel
theorem dX11_quarrels_36 : decode cX11_quarrels 36 = .ok (.aload_n 0, 1) := by decide +kernel
theorem dX11_quarrels_37 : decode cX11_quarrels 37 = .ok (.getfield 16, 3) := by decide +kernel
theorem dX11_quarrels_40 : decode cX11_quarrels 40 = .ok (.iload_n 1, 1) := by decide +kernel
theorem dX11_quarrels_41 : decode cX11_quarrels 41 = .ok (.iaload, 1) := by decide +kernel
theorem dX11_quarrels_42 : decode cX11_quarrels 42 = .ok (.aload_n 0, 1) := by decide +kernel
theorem dX11_quarrels_43 : decode cX11_quarrels 43 = .ok (.getfield 16, 3) := by decide +kernel
theorem dX11_quarrels_46 : decode cX11_quarrels 46 = .ok (.iload_n 2, 1) := by decide +kernel
theorem dX11_quarrels_47 : decode cX11_quarrels 47 = .ok (.iaload, 1) := by decide +kernel
theorem dX11_quarrels_48 : decode cX11_quarrels 48 = .ok (.if_icmp .gt 7, 3) := by decide +kernel
theorem dX11_quarrels_51 : decode cX11_quarrels 51 = .ok (.iconst 1, 1) := by decide +kernel
theorem dX11_quarrels_52 : decode cX11_quarrels 52 = .ok (.goto 4, 3) := by decide +kernel
theorem dX11_quarrels_55 : decode cX11_quarrels 55 = .ok (.iconst 0, 1) := by decide +kernel
theorem dX11_quarrels_56 : decode cX11_quarrels 56 = .ok (.istore_n 3, 1) := by decide +kernel
theorem dX11_quarrels_57 : decode cX11_quarrels 57 = .ok (.iconst 0, 1) := by decide +kernel
theorem dX11_quarrels_58 : decode cX11_quarrels 58 = .ok (.istore 4, 2) := by decide +kernel
theorem dX11_quarrels_60 : decode cX11_quarrels 60 = .ok (.iload 4, 2) := by decide +kernel
theorem dX11_quarrels_62 : decode cX11_quarrels 62 = .ok (.aload_n 0, 1) := by decide +kernel
theorem dX11_quarrels_63 : decode cX11_quarrels 63 = .ok (.getfield 16, 3) := by decide +kernel
theorem dX11_quarrels_66 : decode cX11_quarrels 66 = .ok (.iload_n 1, 1) := by decide +kernel
theorem dX11_quarrels_67 : decode cX11_quarrels 67 = .ok (.iaload, 1) := by decide +kernel
theorem dX11_quarrels_68 : decode cX11_quarrels 68 = .ok (.if_icmp .ge 46, 3) := by decide +kernel
theorem dX11_quarrels_71 : decode cX11_quarrels 71 = .ok (.iload_n 3, 1) := by decide +kernel
theorem dX11_quarrels_72 : decode cX11_quarrels 72 = .ok (.ifCond .eq 42, 3) := by decide +kernel
theorem dX11_quarrels_75 : decode cX11_quarrels 75 = .ok (.aload_n 0, 1) := by decide +kernel
theorem dX11_quarrels_76 : decode cX11_quarrels 76 = .ok (.getfield 13, 3) := by decide +kernel
theorem dX11_quarrels_79 : decode cX11_quarrels 79 = .ok (.bipush 12, 2) := by decide +kernel
theorem dX11_quarrels_81 : decode cX11_quarrels 81 = .ok (.iload_n 1, 1) := by decide +kernel
theorem dX11_quarrels_82 : decode cX11_quarrels 82 = .ok (.imul, 1) := by decide +kernel
theorem dX11_quarrels_83 : decode cX11_quarrels 83 = .ok (.iload 4, 2) := by decide +kernel
theorem dX11_quarrels_85 : decode cX11_quarrels 85 = .ok (.iadd, 1) := by decide +kernel
theorem dX11_quarrels_86 : decode cX11_quarrels 86 = .ok (.iaload, 1) := by decide +kernel
theorem dX11_quarrels_87 : decode cX11_quarrels 87 = .ok (.aload_n 0, 1) := by decide +kernel
theorem dX11_quarrels_88 : decode cX11_quarrels 88 = .ok (.getfield 13, 3) := by decide +kernel
theorem dX11_quarrels_91 : decode cX11_quarrels 91 = .ok (.bipush 12, 2) := by decide +kernel
theorem dX11_quarrels_93 : decode cX11_quarrels 93 = .ok (.iload_n 2, 1) := by decide +kernel
theorem dX11_quarrels_94 : decode cX11_quarrels 94 = .ok (.imul, 1) := by decide +kernel
theorem dX11_quarrels_95 : decode cX11_quarrels 95 = .ok (.iload 4, 2) := by decide +kernel
theorem dX11_quarrels_97 : decode cX11_quarrels 97 = .ok (.iadd, 1) := by decide +kernel
theorem dX11_quarrels_98 : decode cX11_quarrels 98 = .ok (.iaload, 1) := by decide +kernel
theorem dX11_quarrels_99 : decode cX11_quarrels 99 = .ok (.if_icmp .ne 7, 3) := by decide +kernel
theorem dX11_quarrels_102 : decode cX11_quarrels 102 = .ok (.iconst 1, 1) := by decide +kernel
theorem dX11_quarrels_103 : decode cX11_quarrels 103 = .ok (.goto 4, 3) := by decide +kernel
theorem dX11_quarrels_106 : decode cX11_quarrels 106 = .ok (.iconst 0, 1) := by decide +kernel
theorem dX11_quarrels_107 : decode cX11_quarrels 107 = .ok (.istore_n 3, 1) := by decide +kernel
theorem dX11_quarrels_108 : decode cX11_quarrels 108 = .ok (.iinc 4 1, 3) := by decide +kernel
theorem dX11_quarrels_111 : decode cX11_quarrels 111 = .ok (.goto (-51), 3) := by decide +kernel
theorem dX11_quarrels_114 : decode cX11_quarrels 114 = .ok (.iload_n 3, 1) := by decide +kernel
theorem dX11_quarrels_115 : decode cX11_quarrels 115 = .ok (.ireturn, 1) := by decide +kernel
theorem dX11_cutOf_0 : decode cX11_cutOf 0 = .ok (.aload_n 0, 1) := by decide +kernel
theorem dX11_cutOf_1 : decode cX11_cutOf 1 = .ok (.getfield 16, 3) := by decide +kernel
theorem dX11_cutOf_4 : decode cX11_cutOf 4 = .ok (.iload_n 1, 1) := by decide +kernel
theorem dX11_cutOf_5 : decode cX11_cutOf 5 = .ok (.iaload, 1) := by decide +kernel
theorem dX11_cutOf_6 : decode cX11_cutOf 6 = .ok (.istore_n 2, 1) := by decide +kernel
theorem dX11_cutOf_7 : decode cX11_cutOf 7 = .ok (.iconst 0, 1) := by decide +kernel
theorem dX11_cutOf_8 : decode cX11_cutOf 8 = .ok (.istore_n 3, 1) := by decide +kernel
theorem dX11_cutOf_9 : decode cX11_cutOf 9 = .ok (.iload_n 3, 1) := by decide +kernel
theorem dX11_cutOf_10 : decode cX11_cutOf 10 = .ok (.aload_n 0, 1) := by decide +kernel
theorem dX11_cutOf_11 : decode cX11_cutOf 11 = .ok (.getfield 147, 3) := by decide +kernel
theorem dX11_cutOf_14 : decode cX11_cutOf 14 = .ok (.if_icmp .ge 39, 3) := by decide +kernel
theorem dX11_cutOf_17 : decode cX11_cutOf 17 = .ok (.aload_n 0, 1) := by decide +kernel
theorem dX11_cutOf_18 : decode cX11_cutOf 18 = .ok (.iload_n 3, 1) := by decide +kernel
theorem dX11_cutOf_19 : decode cX11_cutOf 19 = .ok (.iload_n 1, 1) := by decide +kernel
theorem dX11_cutOf_20 : decode cX11_cutOf 20 = .ok (.invokevirtual 153, 3) := by decide +kernel
theorem dX11_cutOf_23 : decode cX11_cutOf 23 = .ok (.ifCond .eq 24, 3) := by decide +kernel
theorem dX11_cutOf_26 : decode cX11_cutOf 26 = .ok (.aload_n 0, 1) := by decide +kernel
theorem dX11_cutOf_27 : decode cX11_cutOf 27 = .ok (.getfield 16, 3) := by decide +kernel
theorem dX11_cutOf_30 : decode cX11_cutOf 30 = .ok (.iload_n 3, 1) := by decide +kernel
theorem dX11_cutOf_31 : decode cX11_cutOf 31 = .ok (.iaload, 1) := by decide +kernel
theorem dX11_cutOf_32 : decode cX11_cutOf 32 = .ok (.iconst 1, 1) := by decide +kernel
theorem dX11_cutOf_33 : decode cX11_cutOf 33 = .ok (.isub, 1) := by decide +kernel
theorem dX11_cutOf_34 : decode cX11_cutOf 34 = .ok (.iload_n 2, 1) := by decide +kernel
theorem dX11_cutOf_35 : decode cX11_cutOf 35 = .ok (.if_icmp .ge 12, 3) := by decide +kernel
theorem dX11_cutOf_38 : decode cX11_cutOf 38 = .ok (.aload_n 0, 1) := by decide +kernel
theorem dX11_cutOf_39 : decode cX11_cutOf 39 = .ok (.getfield 16, 3) := by decide +kernel
theorem dX11_cutOf_42 : decode cX11_cutOf 42 = .ok (.iload_n 3, 1) := by decide +kernel
theorem dX11_cutOf_43 : decode cX11_cutOf 43 = .ok (.iaload, 1) := by decide +kernel
theorem dX11_cutOf_44 : decode cX11_cutOf 44 = .ok (.iconst 1, 1) := by decide +kernel
theorem dX11_cutOf_45 : decode cX11_cutOf 45 = .ok (.isub, 1) := by decide +kernel
theorem dX11_cutOf_46 : decode cX11_cutOf 46 = .ok (.istore_n 2, 1) := by decide +kernel
theorem dX11_cutOf_47 : decode cX11_cutOf 47 = .ok (.iinc 3 1, 3) := by decide +kernel
theorem dX11_cutOf_50 : decode cX11_cutOf 50 = .ok (.goto (-41), 3) := by decide +kernel
theorem dX11_cutOf_53 : decode cX11_cutOf 53 = .ok (.iload_n 2, 1) := by decide +kernel
theorem dX11_cutOf_54 : decode cX11_cutOf 54 = .ok (.ireturn, 1) := by decide +kernel
theorem dX11_isLeftOut_0 : decode cX11_isLeftOut 0 = .ok (.iconst 0, 1) := by decide +kernel
theorem dX11_isLeftOut_1 : decode cX11_isLeftOut 1 = .ok (.istore_n 2, 1) := by decide +kernel
theorem dX11_isLeftOut_2 : decode cX11_isLeftOut 2 = .ok (.iconst 0, 1) := by decide +kernel
theorem dX11_isLeftOut_3 : decode cX11_isLeftOut 3 = .ok (.istore_n 3, 1) := by decide +kernel
theorem dX11_isLeftOut_4 : decode cX11_isLeftOut 4 = .ok (.iload_n 3, 1) := by decide +kernel
theorem dX11_isLeftOut_5 : decode cX11_isLeftOut 5 = .ok (.aload_n 0, 1) := by decide +kernel
theorem dX11_isLeftOut_6 : decode cX11_isLeftOut 6 = .ok (.getfield 147, 3) := by decide +kernel
theorem dX11_isLeftOut_9 : decode cX11_isLeftOut 9 = .ok (.if_icmp .ge 28, 3) := by decide +kernel
theorem dX11_isLeftOut_12 : decode cX11_isLeftOut 12 = .ok (.iload_n 2, 1) := by decide +kernel
theorem dX11_isLeftOut_13 : decode cX11_isLeftOut 13 = .ok (.ifCond .ne 12, 3) := by decide +kernel
theorem dX11_isLeftOut_16 : decode cX11_isLeftOut 16 = .ok (.aload_n 0, 1) := by decide +kernel
theorem dX11_isLeftOut_17 : decode cX11_isLeftOut 17 = .ok (.iload_n 1, 1) := by decide +kernel
theorem dX11_isLeftOut_18 : decode cX11_isLeftOut 18 = .ok (.iload_n 3, 1) := by decide +kernel
theorem dX11_isLeftOut_19 : decode cX11_isLeftOut 19 = .ok (.invokevirtual 153, 3) := by decide +kernel
theorem dX11_isLeftOut_22 : decode cX11_isLeftOut 22 = .ok (.ifCond .eq 7, 3) := by decide +kernel
theorem dX11_isLeftOut_25 : decode cX11_isLeftOut 25 = .ok (.iconst 1, 1) := by decide +kernel
theorem dX11_isLeftOut_26 : decode cX11_isLeftOut 26 = .ok (.goto 4, 3) := by decide +kernel
theorem dX11_isLeftOut_29 : decode cX11_isLeftOut 29 = .ok (.iconst 0, 1) := by decide +kernel
theorem dX11_isLeftOut_30 : decode cX11_isLeftOut 30 = .ok (.istore_n 2, 1) := by decide +kernel
theorem dX11_isLeftOut_31 : decode cX11_isLeftOut 31 = .ok (.iinc 3 1, 3) := by decide +kernel
theorem dX11_isLeftOut_34 : decode cX11_isLeftOut 34 = .ok (.goto (-30), 3) := by decide +kernel
theorem dX11_isLeftOut_37 : decode cX11_isLeftOut 37 = .ok (.iload_n 2, 1) := by decide +kernel
theorem dX11_isLeftOut_38 : decode cX11_isLeftOut 38 = .ok (.ireturn, 1) := by decide +kernel
theorem dX11_told_0 : decode cX11_told 0 = .ok (.aload_n 0, 1) := by decide +kernel
theorem dX11_told_1 : decode cX11_told 1 = .ok (.iload_n 1, 1) := by decide +kernel
theorem dX11_told_2 : decode cX11_told 2 = .ok (.invokevirtual 150, 3) := by decide +kernel
theorem dX11_told_5 : decode cX11_told 5 = .ok (.ifCond .eq 25, 3) := by decide +kernel
theorem dX11_told_8 : decode cX11_told 8 = .ok (.aload_n 0, 1) := by decide +kernel
theorem dX11_told_9 : decode cX11_told 9 = .ok (.iload_n 2, 1) := by decide +kernel
theorem dX11_told_10 : decode cX11_told 10 = .ok (.ifCond .lt 8, 3) := by decide +kernel
theorem dX11_told_13 : decode cX11_told 13 = .ok (.iload_n 2, 1) := by decide +kernel
theorem dX11_told_14 : decode cX11_told 14 = .ok (.iconst 3, 1) := by decide +kernel
theorem dX11_told_15 : decode cX11_told 15 = .ok (.if_icmp .le 7, 3) := by decide +kernel
theorem dX11_told_18 : decode cX11_told 18 = .ok (.iconst 1, 1) := by decide +kernel
theorem dX11_told_19 : decode cX11_told 19 = .ok (.goto 4, 3) := by decide +kernel
theorem dX11_told_22 : decode cX11_told 22 = .ok (.iconst 0, 1) := by decide +kernel
theorem dX11_told_23 : decode cX11_told 23 = .ok (.iconst 2, 1) := by decide +kernel
theorem dX11_told_24 : decode cX11_told 24 = .ok (.invokevirtual 140, 3) := by decide +kernel
theorem dX11_told_27 : decode cX11_told 27 = .ok (.ifCond .eq 5, 3) := by decide +kernel
theorem dX11_told_30 : decode cX11_told 30 = .ok (.iconst 0, 1) := by decide +kernel
theorem dX11_told_31 : decode cX11_told 31 = .ok (.ireturn, 1) := by decide +kernel
theorem dX11_told_32 : decode cX11_told 32 = .ok (.iload_n 2, 1) := by decide +kernel
theorem dX11_told_33 : decode cX11_told 33 = .ok (.tableswitch 64 0 2 #[27, 42, 57], 27) := by decide +kernel
theorem dX11_told_60 : decode cX11_told 60 = .ok (.aload_n 0, 1) := by decide +kernel
theorem dX11_told_61 : decode cX11_told 61 = .ok (.getfield 23, 3) := by decide +kernel
theorem dX11_told_64 : decode cX11_told 64 = .ok (.iload_n 1, 1) := by decide +kernel
theorem dX11_told_65 : decode cX11_told 65 = .ok (.baload, 1) := by decide +kernel
theorem dX11_told_66 : decode cX11_told 66 = .ok (.ifCond .eq 7, 3) := by decide +kernel
theorem dX11_told_69 : decode cX11_told 69 = .ok (.iconst 1, 1) := by decide +kernel
theorem dX11_told_70 : decode cX11_told 70 = .ok (.goto 4, 3) := by decide +kernel
theorem dX11_told_73 : decode cX11_told 73 = .ok (.iconst 0, 1) := by decide +kernel
theorem dX11_told_74 : decode cX11_told 74 = .ok (.ireturn, 1) := by decide +kernel
theorem dX11_told_75 : decode cX11_told 75 = .ok (.aload_n 0, 1) := by decide +kernel
theorem dX11_told_76 : decode cX11_told 76 = .ok (.getfield 19, 3) := by decide +kernel
theorem dX11_told_79 : decode cX11_told 79 = .ok (.iload_n 1, 1) := by decide +kernel
theorem dX11_told_80 : decode cX11_told 80 = .ok (.baload, 1) := by decide +kernel
theorem dX11_told_81 : decode cX11_told 81 = .ok (.ifCond .eq 7, 3) := by decide +kernel
theorem dX11_told_84 : decode cX11_told 84 = .ok (.iconst 1, 1) := by decide +kernel
theorem dX11_told_85 : decode cX11_told 85 = .ok (.goto 4, 3) := by decide +kernel
theorem dX11_told_88 : decode cX11_told 88 = .ok (.iconst 0, 1) := by decide +kernel
theorem dX11_told_89 : decode cX11_told 89 = .ok (.ireturn, 1) := by decide +kernel
theorem dX11_told_90 : decode cX11_told 90 = .ok (.aload_n 0, 1) := by decide +kernel
theorem dX11_told_91 : decode cX11_told 91 = .ok (.getfield 16, 3) := by decide +kernel
theorem dX11_told_94 : decode cX11_told 94 = .ok (.iload_n 1, 1) := by decide +kernel
theorem dX11_told_95 : decode cX11_told 95 = .ok (.iaload, 1) := by decide +kernel
theorem dX11_told_96 : decode cX11_told 96 = .ok (.ireturn, 1) := by decide +kernel
theorem dX11_told_97 : decode cX11_told 97 = .ok (.aload_n 0, 1) := by decide +kernel
theorem dX11_told_98 : decode cX11_told 98 = .ok (.getfield 23, 3) := by decide +kernel
theorem dX11_told_101 : decode cX11_told 101 = .ok (.iload_n 1, 1) := by decide +kernel
theorem dX11_told_102 : decode cX11_told 102 = .ok (.baload, 1) := by decide +kernel
theorem dX11_told_103 : decode cX11_told 103 = .ok (.ifCond .ne 7, 3) := by decide +kernel
theorem dX11_told_106 : decode cX11_told 106 = .ok (.iconst 0, 1) := by decide +kernel
theorem dX11_told_107 : decode cX11_told 107 = .ok (.goto 33, 3) := by decide +kernel
theorem dX11_told_110 : decode cX11_told 110 = .ok (.aload_n 0, 1) := by decide +kernel
theorem dX11_told_111 : decode cX11_told 111 = .ok (.getfield 19, 3) := by decide +kernel
theorem dX11_told_114 : decode cX11_told 114 = .ok (.iload_n 1, 1) := by decide +kernel
theorem dX11_told_115 : decode cX11_told 115 = .ok (.baload, 1) := by decide +kernel
theorem dX11_told_116 : decode cX11_told 116 = .ok (.ifCond .eq 11, 3) := by decide +kernel
theorem dX11_told_119 : decode cX11_told 119 = .ok (.aload_n 0, 1) := by decide +kernel
theorem dX11_told_120 : decode cX11_told 120 = .ok (.iload_n 1, 1) := by decide +kernel
theorem dX11_told_121 : decode cX11_told 121 = .ok (.invokevirtual 157, 3) := by decide +kernel
theorem dX11_told_124 : decode cX11_told 124 = .ok (.goto 16, 3) := by decide +kernel
theorem dX11_told_127 : decode cX11_told 127 = .ok (.aload_n 0, 1) := by decide +kernel
theorem dX11_told_128 : decode cX11_told 128 = .ok (.iload_n 1, 1) := by decide +kernel
theorem dX11_told_129 : decode cX11_told 129 = .ok (.invokevirtual 161, 3) := by decide +kernel
theorem dX11_told_132 : decode cX11_told 132 = .ok (.ifCond .eq 7, 3) := by decide +kernel
theorem dX11_told_135 : decode cX11_told 135 = .ok (.iconst 1, 1) := by decide +kernel
theorem dX11_told_136 : decode cX11_told 136 = .ok (.goto 4, 3) := by decide +kernel
theorem dX11_told_139 : decode cX11_told 139 = .ok (.iconst 0, 1) := by decide +kernel
theorem dX11_told_140 : decode cX11_told 140 = .ok (.ireturn, 1) := by decide +kernel
theorem dX11_tree_0 : decode cX11_tree 0 = .ok (.iconst 1, 1) := by decide +kernel
theorem dX11_tree_1 : decode cX11_tree 1 = .ok (.istore_n 1, 1) := by decide +kernel
theorem dX11_tree_2 : decode cX11_tree 2 = .ok (.iconst 0, 1) := by decide +kernel
theorem dX11_tree_3 : decode cX11_tree 3 = .ok (.istore_n 2, 1) := by decide +kernel
theorem dX11_tree_4 : decode cX11_tree 4 = .ok (.iload_n 2, 1) := by decide +kernel
theorem dX11_tree_5 : decode cX11_tree 5 = .ok (.bipush 8, 2) := by decide +kernel
theorem dX11_tree_7 : decode cX11_tree 7 = .ok (.if_icmp .ge 16, 3) := by decide +kernel
theorem dX11_tree_10 : decode cX11_tree 10 = .ok (.aload_n 0, 1) := by decide +kernel
theorem dX11_tree_11 : decode cX11_tree 11 = .ok (.getfield 41, 3) := by decide +kernel
theorem dX11_tree_14 : decode cX11_tree 14 = .ok (.iload_n 2, 1) := by decide +kernel
theorem dX11_tree_15 : decode cX11_tree 15 = .ok (.iconst (-1), 1) := by decide +kernel
theorem dX11_tree_16 : decode cX11_tree 16 = .ok (.iastore, 1) := by decide +kernel
theorem dX11_tree_17 : decode cX11_tree 17 = .ok (.iinc 2 1, 3) := by decide +kernel
theorem dX11_tree_20 : decode cX11_tree 20 = .ok (.goto (-16), 3) := by decide +kernel
theorem dX11_tree_23 : decode cX11_tree 23 = .ok (.iconst 0, 1) := by decide +kernel
theorem dX11_tree_24 : decode cX11_tree 24 = .ok (.istore_n 2, 1) := by decide +kernel
theorem dX11_tree_25 : decode cX11_tree 25 = .ok (.iload_n 2, 1) := by decide +kernel
theorem dX11_tree_26 : decode cX11_tree 26 = .ok (.aload_n 0, 1) := by decide +kernel
theorem dX11_tree_27 : decode cX11_tree 27 = .ok (.getfield 147, 3) := by decide +kernel
theorem dX11_tree_30 : decode cX11_tree 30 = .ok (.if_icmp .ge 188, 3) := by decide +kernel
theorem dX11_tree_33 : decode cX11_tree 33 = .ok (.aload_n 0, 1) := by decide +kernel
theorem dX11_tree_34 : decode cX11_tree 34 = .ok (.getfield 29, 3) := by decide +kernel
theorem dX11_tree_37 : decode cX11_tree 37 = .ok (.iload_n 2, 1) := by decide +kernel
theorem dX11_tree_38 : decode cX11_tree 38 = .ok (.aload_n 0, 1) := by decide +kernel
theorem dX11_tree_39 : decode cX11_tree 39 = .ok (.getfield 23, 3) := by decide +kernel
theorem dX11_tree_42 : decode cX11_tree 42 = .ok (.iload_n 2, 1) := by decide +kernel
theorem dX11_tree_43 : decode cX11_tree 43 = .ok (.baload, 1) := by decide +kernel
theorem dX11_tree_44 : decode cX11_tree 44 = .ok (.ifCond .eq 24, 3) := by decide +kernel
theorem dX11_tree_47 : decode cX11_tree 47 = .ok (.aload_n 0, 1) := by decide +kernel
theorem dX11_tree_48 : decode cX11_tree 48 = .ok (.getfield 19, 3) := by decide +kernel
theorem dX11_tree_51 : decode cX11_tree 51 = .ok (.iload_n 2, 1) := by decide +kernel
theorem dX11_tree_52 : decode cX11_tree 52 = .ok (.baload, 1) := by decide +kernel
theorem dX11_tree_53 : decode cX11_tree 53 = .ok (.ifCond .ne 15, 3) := by decide +kernel
theorem dX11_tree_56 : decode cX11_tree 56 = .ok (.aload_n 0, 1) := by decide +kernel
theorem dX11_tree_57 : decode cX11_tree 57 = .ok (.iload_n 2, 1) := by decide +kernel
theorem dX11_tree_58 : decode cX11_tree 58 = .ok (.invokevirtual 161, 3) := by decide +kernel
theorem dX11_tree_61 : decode cX11_tree 61 = .ok (.ifCond .ne 7, 3) := by decide +kernel
theorem dX11_tree_64 : decode cX11_tree 64 = .ok (.iconst 1, 1) := by decide +kernel
theorem dX11_tree_65 : decode cX11_tree 65 = .ok (.goto 4, 3) := by decide +kernel
theorem dX11_tree_68 : decode cX11_tree 68 = .ok (.iconst 0, 1) := by decide +kernel
theorem dX11_tree_69 : decode cX11_tree 69 = .ok (.bastore, 1) := by decide +kernel
theorem dX11_tree_70 : decode cX11_tree 70 = .ok (.aload_n 0, 1) := by decide +kernel
theorem dX11_tree_71 : decode cX11_tree 71 = .ok (.getfield 26, 3) := by decide +kernel
theorem dX11_tree_74 : decode cX11_tree 74 = .ok (.iload_n 2, 1) := by decide +kernel
theorem dX11_tree_75 : decode cX11_tree 75 = .ok (.aload_n 0, 1) := by decide +kernel
theorem dX11_tree_76 : decode cX11_tree 76 = .ok (.getfield 23, 3) := by decide +kernel
theorem dX11_tree_79 : decode cX11_tree 79 = .ok (.iload_n 2, 1) := by decide +kernel
theorem dX11_tree_80 : decode cX11_tree 80 = .ok (.baload, 1) := by decide +kernel
theorem dX11_tree_81 : decode cX11_tree 81 = .ok (.ifCond .eq 20, 3) := by decide +kernel
theorem dX11_tree_84 : decode cX11_tree 84 = .ok (.aload_n 0, 1) := by decide +kernel
theorem dX11_tree_85 : decode cX11_tree 85 = .ok (.getfield 19, 3) := by decide +kernel
theorem dX11_tree_88 : decode cX11_tree 88 = .ok (.iload_n 2, 1) := by decide +kernel
theorem dX11_tree_89 : decode cX11_tree 89 = .ok (.baload, 1) := by decide +kernel
theorem dX11_tree_90 : decode cX11_tree 90 = .ok (.ifCond .eq 11, 3) := by decide +kernel
theorem dX11_tree_93 : decode cX11_tree 93 = .ok (.aload_n 0, 1) := by decide +kernel
theorem dX11_tree_94 : decode cX11_tree 94 = .ok (.iload_n 2, 1) := by decide +kernel
theorem dX11_tree_95 : decode cX11_tree 95 = .ok (.invokevirtual 157, 3) := by decide +kernel
theorem dX11_tree_98 : decode cX11_tree 98 = .ok (.goto 4, 3) := by decide +kernel
theorem dX11_tree_101 : decode cX11_tree 101 = .ok (.iconst (-1), 1) := by decide +kernel
theorem dX11_tree_102 : decode cX11_tree 102 = .ok (.iastore, 1) := by decide +kernel
theorem dX11_tree_103 : decode cX11_tree 103 = .ok (.iconst 0, 1) := by decide +kernel
theorem dX11_tree_104 : decode cX11_tree 104 = .ok (.istore_n 3, 1) := by decide +kernel
theorem dX11_tree_105 : decode cX11_tree 105 = .ok (.iconst 0, 1) := by decide +kernel
theorem dX11_tree_106 : decode cX11_tree 106 = .ok (.istore 4, 2) := by decide +kernel
theorem dX11_tree_108 : decode cX11_tree 108 = .ok (.iload 4, 2) := by decide +kernel
theorem dX11_tree_110 : decode cX11_tree 110 = .ok (.aload_n 0, 1) := by decide +kernel
theorem dX11_tree_111 : decode cX11_tree 111 = .ok (.getfield 26, 3) := by decide +kernel
theorem dX11_tree_114 : decode cX11_tree 114 = .ok (.iload_n 2, 1) := by decide +kernel
theorem dX11_tree_115 : decode cX11_tree 115 = .ok (.iaload, 1) := by decide +kernel
theorem dX11_tree_116 : decode cX11_tree 116 = .ok (.if_icmp .ge 96, 3) := by decide +kernel
theorem dX11_tree_119 : decode cX11_tree 119 = .ok (.aload_n 0, 1) := by decide +kernel
theorem dX11_tree_120 : decode cX11_tree 120 = .ok (.getfield 13, 3) := by decide +kernel
theorem dX11_tree_123 : decode cX11_tree 123 = .ok (.bipush 12, 2) := by decide +kernel
theorem dX11_tree_125 : decode cX11_tree 125 = .ok (.iload_n 2, 1) := by decide +kernel
theorem dX11_tree_126 : decode cX11_tree 126 = .ok (.imul, 1) := by decide +kernel
theorem dX11_tree_127 : decode cX11_tree 127 = .ok (.iload 4, 2) := by decide +kernel
theorem dX11_tree_129 : decode cX11_tree 129 = .ok (.iadd, 1) := by decide +kernel
theorem dX11_tree_130 : decode cX11_tree 130 = .ok (.iaload, 1) := by decide +kernel
theorem dX11_tree_131 : decode cX11_tree 131 = .ok (.istore 5, 2) := by decide +kernel
theorem dX11_tree_133 : decode cX11_tree 133 = .ok (.aload_n 0, 1) := by decide +kernel
theorem dX11_tree_134 : decode cX11_tree 134 = .ok (.getfield 41, 3) := by decide +kernel
theorem dX11_tree_137 : decode cX11_tree 137 = .ok (.bipush 8, 2) := by decide +kernel
theorem dX11_tree_139 : decode cX11_tree 139 = .ok (.iload_n 3, 1) := by decide +kernel
theorem dX11_tree_140 : decode cX11_tree 140 = .ok (.imul, 1) := by decide +kernel
theorem dX11_tree_141 : decode cX11_tree 141 = .ok (.iload 5, 2) := by decide +kernel
theorem dX11_tree_143 : decode cX11_tree 143 = .ok (.iadd, 1) := by decide +kernel
theorem dX11_tree_144 : decode cX11_tree 144 = .ok (.iaload, 1) := by decide +kernel
theorem dX11_tree_145 : decode cX11_tree 145 = .ok (.ifCond .ge 48, 3) := by decide +kernel
theorem dX11_tree_148 : decode cX11_tree 148 = .ok (.iconst 0, 1) := by decide +kernel
theorem dX11_tree_149 : decode cX11_tree 149 = .ok (.istore 6, 2) := by decide +kernel
theorem dX11_tree_151 : decode cX11_tree 151 = .ok (.iload 6, 2) := by decide +kernel
theorem dX11_tree_153 : decode cX11_tree 153 = .ok (.bipush 8, 2) := by decide +kernel
theorem dX11_tree_155 : decode cX11_tree 155 = .ok (.if_icmp .ge 22, 3) := by decide +kernel
theorem dX11_tree_158 : decode cX11_tree 158 = .ok (.aload_n 0, 1) := by decide +kernel
theorem dX11_tree_159 : decode cX11_tree 159 = .ok (.getfield 41, 3) := by decide +kernel
theorem dX11_tree_162 : decode cX11_tree 162 = .ok (.bipush 8, 2) := by decide +kernel
theorem dX11_tree_164 : decode cX11_tree 164 = .ok (.iload_n 1, 1) := by decide +kernel
theorem dX11_tree_165 : decode cX11_tree 165 = .ok (.imul, 1) := by decide +kernel
theorem dX11_tree_166 : decode cX11_tree 166 = .ok (.iload 6, 2) := by decide +kernel
theorem dX11_tree_168 : decode cX11_tree 168 = .ok (.iadd, 1) := by decide +kernel
theorem dX11_tree_169 : decode cX11_tree 169 = .ok (.iconst (-1), 1) := by decide +kernel
theorem dX11_tree_170 : decode cX11_tree 170 = .ok (.iastore, 1) := by decide +kernel
theorem dX11_tree_171 : decode cX11_tree 171 = .ok (.iinc 6 1, 3) := by decide +kernel
theorem dX11_tree_174 : decode cX11_tree 174 = .ok (.goto (-23), 3) := by decide +kernel
theorem dX11_tree_177 : decode cX11_tree 177 = .ok (.aload_n 0, 1) := by decide +kernel
theorem dX11_tree_178 : decode cX11_tree 178 = .ok (.getfield 41, 3) := by decide +kernel
theorem dX11_tree_181 : decode cX11_tree 181 = .ok (.bipush 8, 2) := by decide +kernel
theorem dX11_tree_183 : decode cX11_tree 183 = .ok (.iload_n 3, 1) := by decide +kernel
theorem dX11_tree_184 : decode cX11_tree 184 = .ok (.imul, 1) := by decide +kernel
theorem dX11_tree_185 : decode cX11_tree 185 = .ok (.iload 5, 2) := by decide +kernel
theorem dX11_tree_187 : decode cX11_tree 187 = .ok (.iadd, 1) := by decide +kernel
theorem dX11_tree_188 : decode cX11_tree 188 = .ok (.iload_n 1, 1) := by decide +kernel
theorem dX11_tree_189 : decode cX11_tree 189 = .ok (.iastore, 1) := by decide +kernel
theorem dX11_tree_190 : decode cX11_tree 190 = .ok (.iinc 1 1, 3) := by decide +kernel
theorem dX11_tree_193 : decode cX11_tree 193 = .ok (.aload_n 0, 1) := by decide +kernel
theorem dX11_tree_194 : decode cX11_tree 194 = .ok (.getfield 41, 3) := by decide +kernel
theorem dX11_tree_197 : decode cX11_tree 197 = .ok (.bipush 8, 2) := by decide +kernel
theorem dX11_tree_199 : decode cX11_tree 199 = .ok (.iload_n 3, 1) := by decide +kernel
theorem dX11_tree_200 : decode cX11_tree 200 = .ok (.imul, 1) := by decide +kernel
theorem dX11_tree_201 : decode cX11_tree 201 = .ok (.iload 5, 2) := by decide +kernel
theorem dX11_tree_203 : decode cX11_tree 203 = .ok (.iadd, 1) := by decide +kernel
theorem dX11_tree_204 : decode cX11_tree 204 = .ok (.iaload, 1) := by decide +kernel
theorem dX11_tree_205 : decode cX11_tree 205 = .ok (.istore_n 3, 1) := by decide +kernel
theorem dX11_tree_206 : decode cX11_tree 206 = .ok (.iinc 4 1, 3) := by decide +kernel
theorem dX11_tree_209 : decode cX11_tree 209 = .ok (.goto (-101), 3) := by decide +kernel
theorem dX11_tree_212 : decode cX11_tree 212 = .ok (.iinc 2 1, 3) := by decide +kernel
theorem dX11_tree_215 : decode cX11_tree 215 = .ok (.goto (-190), 3) := by decide +kernel
theorem dX11_tree_218 : decode cX11_tree 218 = .ok (.aload_n 0, 1) := by decide +kernel
theorem dX11_tree_219 : decode cX11_tree 219 = .ok (.iconst 1, 1) := by decide +kernel
theorem dX11_tree_220 : decode cX11_tree 220 = .ok (.putfield 164, 3) := by decide +kernel
theorem dX11_tree_223 : decode cX11_tree 223 = .ok (.aload_n 0, 1) := by decide +kernel
theorem dX11_tree_224 : decode cX11_tree 224 = .ok (.getfield 44, 3) := by decide +kernel
theorem dX11_tree_227 : decode cX11_tree 227 = .ok (.iconst 0, 1) := by decide +kernel
theorem dX11_tree_228 : decode cX11_tree 228 = .ok (.iconst 0, 1) := by decide +kernel
theorem dX11_tree_229 : decode cX11_tree 229 = .ok (.iastore, 1) := by decide +kernel
theorem dX11_tree_230 : decode cX11_tree 230 = .ok (.aload_n 0, 1) := by decide +kernel
theorem dX11_tree_231 : decode cX11_tree 231 = .ok (.getfield 35, 3) := by decide +kernel
theorem dX11_tree_234 : decode cX11_tree 234 = .ok (.iconst 0, 1) := by decide +kernel
theorem dX11_tree_235 : decode cX11_tree 235 = .ok (.iconst (-1), 1) := by decide +kernel
theorem dX11_tree_236 : decode cX11_tree 236 = .ok (.iastore, 1) := by decide +kernel
theorem dX11_tree_237 : decode cX11_tree 237 = .ok (.iconst 0, 1) := by decide +kernel
theorem dX11_tree_238 : decode cX11_tree 238 = .ok (.istore_n 2, 1) := by decide +kernel
theorem dX11_tree_239 : decode cX11_tree 239 = .ok (.iload_n 2, 1) := by decide +kernel
theorem dX11_tree_240 : decode cX11_tree 240 = .ok (.aload_n 0, 1) := by decide +kernel
theorem dX11_tree_241 : decode cX11_tree 241 = .ok (.getfield 164, 3) := by decide +kernel
theorem dX11_tree_244 : decode cX11_tree 244 = .ok (.if_icmp .ge 127, 3) := by decide +kernel
theorem dX11_tree_247 : decode cX11_tree 247 = .ok (.iconst 0, 1) := by decide +kernel
theorem dX11_tree_248 : decode cX11_tree 248 = .ok (.istore_n 3, 1) := by decide +kernel
theorem dX11_tree_249 : decode cX11_tree 249 = .ok (.iload_n 3, 1) := by decide +kernel
theorem dX11_tree_250 : decode cX11_tree 250 = .ok (.bipush 8, 2) := by decide +kernel
theorem dX11_tree_252 : decode cX11_tree 252 = .ok (.if_icmp .ge 113, 3) := by decide +kernel
theorem dX11_tree_255 : decode cX11_tree 255 = .ok (.aload_n 0, 1) := by decide +kernel
theorem dX11_tree_256 : decode cX11_tree 256 = .ok (.getfield 32, 3) := by decide +kernel
theorem dX11_tree_259 : decode cX11_tree 259 = .ok (.bipush 8, 2) := by decide +kernel
theorem dX11_tree_261 : decode cX11_tree 261 = .ok (.iload_n 2, 1) := by decide +kernel
theorem dX11_tree_262 : decode cX11_tree 262 = .ok (.imul, 1) := by decide +kernel
theorem dX11_tree_263 : decode cX11_tree 263 = .ok (.iload_n 3, 1) := by decide +kernel
theorem dX11_tree_264 : decode cX11_tree 264 = .ok (.iadd, 1) := by decide +kernel
theorem dX11_tree_265 : decode cX11_tree 265 = .ok (.iconst (-1), 1) := by decide +kernel
theorem dX11_tree_266 : decode cX11_tree 266 = .ok (.iastore, 1) := by decide +kernel
theorem dX11_tree_267 : decode cX11_tree 267 = .ok (.aload_n 0, 1) := by decide +kernel
theorem dX11_tree_268 : decode cX11_tree 268 = .ok (.getfield 41, 3) := by decide +kernel
theorem dX11_tree_271 : decode cX11_tree 271 = .ok (.bipush 8, 2) := by decide +kernel
theorem dX11_tree_273 : decode cX11_tree 273 = .ok (.aload_n 0, 1) := by decide +kernel
theorem dX11_tree_274 : decode cX11_tree 274 = .ok (.getfield 44, 3) := by decide +kernel
theorem dX11_tree_277 : decode cX11_tree 277 = .ok (.iload_n 2, 1) := by decide +kernel
theorem dX11_tree_278 : decode cX11_tree 278 = .ok (.iaload, 1) := by decide +kernel
theorem dX11_tree_279 : decode cX11_tree 279 = .ok (.imul, 1) := by decide +kernel
theorem dX11_tree_280 : decode cX11_tree 280 = .ok (.iload_n 3, 1) := by decide +kernel
theorem dX11_tree_281 : decode cX11_tree 281 = .ok (.iadd, 1) := by decide +kernel
theorem dX11_tree_282 : decode cX11_tree 282 = .ok (.iaload, 1) := by decide +kernel
theorem dX11_tree_283 : decode cX11_tree 283 = .ok (.ifCond .ge 6, 3) := by decide +kernel
theorem dX11_tree_286 : decode cX11_tree 286 = .ok (.goto 73, 3) := by decide +kernel
theorem dX11_tree_289 : decode cX11_tree 289 = .ok (.aload_n 0, 1) := by decide +kernel
theorem dX11_tree_290 : decode cX11_tree 290 = .ok (.getfield 32, 3) := by decide +kernel
theorem dX11_tree_293 : decode cX11_tree 293 = .ok (.bipush 8, 2) := by decide +kernel
theorem dX11_tree_295 : decode cX11_tree 295 = .ok (.iload_n 2, 1) := by decide +kernel
theorem dX11_tree_296 : decode cX11_tree 296 = .ok (.imul, 1) := by decide +kernel
theorem dX11_tree_297 : decode cX11_tree 297 = .ok (.iload_n 3, 1) := by decide +kernel
theorem dX11_tree_298 : decode cX11_tree 298 = .ok (.iadd, 1) := by decide +kernel
theorem dX11_tree_299 : decode cX11_tree 299 = .ok (.aload_n 0, 1) := by decide +kernel
theorem dX11_tree_300 : decode cX11_tree 300 = .ok (.getfield 164, 3) := by decide +kernel
theorem dX11_tree_303 : decode cX11_tree 303 = .ok (.iastore, 1) := by decide +kernel
theorem dX11_tree_304 : decode cX11_tree 304 = .ok (.aload_n 0, 1) := by decide +kernel
theorem dX11_tree_305 : decode cX11_tree 305 = .ok (.getfield 44, 3) := by decide +kernel
theorem dX11_tree_308 : decode cX11_tree 308 = .ok (.aload_n 0, 1) := by decide +kernel
theorem dX11_tree_309 : decode cX11_tree 309 = .ok (.getfield 164, 3) := by decide +kernel
theorem dX11_tree_312 : decode cX11_tree 312 = .ok (.aload_n 0, 1) := by decide +kernel
theorem dX11_tree_313 : decode cX11_tree 313 = .ok (.getfield 41, 3) := by decide +kernel
theorem dX11_tree_316 : decode cX11_tree 316 = .ok (.bipush 8, 2) := by decide +kernel
theorem dX11_tree_318 : decode cX11_tree 318 = .ok (.aload_n 0, 1) := by decide +kernel
theorem dX11_tree_319 : decode cX11_tree 319 = .ok (.getfield 44, 3) := by decide +kernel
theorem dX11_tree_322 : decode cX11_tree 322 = .ok (.iload_n 2, 1) := by decide +kernel
theorem dX11_tree_323 : decode cX11_tree 323 = .ok (.iaload, 1) := by decide +kernel
theorem dX11_tree_324 : decode cX11_tree 324 = .ok (.imul, 1) := by decide +kernel
theorem dX11_tree_325 : decode cX11_tree 325 = .ok (.iload_n 3, 1) := by decide +kernel
theorem dX11_tree_326 : decode cX11_tree 326 = .ok (.iadd, 1) := by decide +kernel
theorem dX11_tree_327 : decode cX11_tree 327 = .ok (.iaload, 1) := by decide +kernel
theorem dX11_tree_328 : decode cX11_tree 328 = .ok (.iastore, 1) := by decide +kernel
theorem dX11_tree_329 : decode cX11_tree 329 = .ok (.aload_n 0, 1) := by decide +kernel
theorem dX11_tree_330 : decode cX11_tree 330 = .ok (.getfield 35, 3) := by decide +kernel
theorem dX11_tree_333 : decode cX11_tree 333 = .ok (.aload_n 0, 1) := by decide +kernel
theorem dX11_tree_334 : decode cX11_tree 334 = .ok (.getfield 164, 3) := by decide +kernel
theorem dX11_tree_337 : decode cX11_tree 337 = .ok (.iload_n 2, 1) := by decide +kernel
theorem dX11_tree_338 : decode cX11_tree 338 = .ok (.iastore, 1) := by decide +kernel
theorem dX11_tree_339 : decode cX11_tree 339 = .ok (.aload_n 0, 1) := by decide +kernel
theorem dX11_tree_340 : decode cX11_tree 340 = .ok (.getfield 38, 3) := by decide +kernel
theorem dX11_tree_343 : decode cX11_tree 343 = .ok (.aload_n 0, 1) := by decide +kernel
theorem dX11_tree_344 : decode cX11_tree 344 = .ok (.getfield 164, 3) := by decide +kernel
theorem dX11_tree_347 : decode cX11_tree 347 = .ok (.iload_n 3, 1) := by decide +kernel
theorem dX11_tree_348 : decode cX11_tree 348 = .ok (.iastore, 1) := by decide +kernel
theorem dX11_tree_349 : decode cX11_tree 349 = .ok (.aload_n 0, 1) := by decide +kernel
theorem dX11_tree_350 : decode cX11_tree 350 = .ok (.dup, 1) := by decide +kernel
theorem dX11_tree_351 : decode cX11_tree 351 = .ok (.getfield 164, 3) := by decide +kernel
theorem dX11_tree_354 : decode cX11_tree 354 = .ok (.iconst 1, 1) := by decide +kernel
theorem dX11_tree_355 : decode cX11_tree 355 = .ok (.iadd, 1) := by decide +kernel
theorem dX11_tree_356 : decode cX11_tree 356 = .ok (.putfield 164, 3) := by decide +kernel
theorem dX11_tree_359 : decode cX11_tree 359 = .ok (.iinc 3 1, 3) := by decide +kernel
theorem dX11_tree_362 : decode cX11_tree 362 = .ok (.goto (-113), 3) := by decide +kernel
theorem dX11_tree_365 : decode cX11_tree 365 = .ok (.iinc 2 1, 3) := by decide +kernel
theorem dX11_tree_368 : decode cX11_tree 368 = .ok (.goto (-129), 3) := by decide +kernel
theorem dX11_tree_371 : decode cX11_tree 371 = .ok (.return_, 1) := by decide +kernel
theorem dX11_leastOf_0 : decode cX11_leastOf 0 = .ok (.iload_n 1, 1) := by decide +kernel
theorem dX11_leastOf_1 : decode cX11_leastOf 1 = .ok (.istore_n 2, 1) := by decide +kernel
theorem dX11_leastOf_2 : decode cX11_leastOf 2 = .ok (.aload_n 0, 1) := by decide +kernel
theorem dX11_leastOf_3 : decode cX11_leastOf 3 = .ok (.getfield 47, 3) := by decide +kernel
theorem dX11_leastOf_6 : decode cX11_leastOf 6 = .ok (.iload_n 2, 1) := by decide +kernel
theorem dX11_leastOf_7 : decode cX11_leastOf 7 = .ok (.iaload, 1) := by decide +kernel
theorem dX11_leastOf_8 : decode cX11_leastOf 8 = .ok (.iload_n 2, 1) := by decide +kernel
theorem dX11_leastOf_9 : decode cX11_leastOf 9 = .ok (.if_icmp .eq 13, 3) := by decide +kernel
theorem dX11_leastOf_12 : decode cX11_leastOf 12 = .ok (.aload_n 0, 1) := by decide +kernel
theorem dX11_leastOf_13 : decode cX11_leastOf 13 = .ok (.getfield 47, 3) := by decide +kernel
theorem dX11_leastOf_16 : decode cX11_leastOf 16 = .ok (.iload_n 2, 1) := by decide +kernel
theorem dX11_leastOf_17 : decode cX11_leastOf 17 = .ok (.iaload, 1) := by decide +kernel
theorem dX11_leastOf_18 : decode cX11_leastOf 18 = .ok (.istore_n 2, 1) := by decide +kernel
theorem dX11_leastOf_19 : decode cX11_leastOf 19 = .ok (.goto (-17), 3) := by decide +kernel
theorem dX11_leastOf_22 : decode cX11_leastOf 22 = .ok (.iload_n 2, 1) := by decide +kernel
theorem dX11_leastOf_23 : decode cX11_leastOf 23 = .ok (.ireturn, 1) := by decide +kernel
theorem dX11_sets_0 : decode cX11_sets 0 = .ok (.aload_n 0, 1) := by decide +kernel
theorem dX11_sets_1 : decode cX11_sets 1 = .ok (.getfield 53, 3) := by decide +kernel
theorem dX11_sets_4 : decode cX11_sets 4 = .ok (.aload_n 0, 1) := by decide +kernel
theorem dX11_sets_5 : decode cX11_sets 5 = .ok (.getfield 167, 3) := by decide +kernel
theorem dX11_sets_8 : decode cX11_sets 8 = .ok (.iload_n 1, 1) := by decide +kernel
theorem dX11_sets_9 : decode cX11_sets 9 = .ok (.iastore, 1) := by decide +kernel
theorem dX11_sets_10 : decode cX11_sets 10 = .ok (.aload_n 0, 1) := by decide +kernel
theorem dX11_sets_11 : decode cX11_sets 11 = .ok (.getfield 56, 3) := by decide +kernel
theorem dX11_sets_14 : decode cX11_sets 14 = .ok (.aload_n 0, 1) := by decide +kernel
theorem dX11_sets_15 : decode cX11_sets 15 = .ok (.getfield 167, 3) := by decide +kernel
theorem dX11_sets_18 : decode cX11_sets 18 = .ok (.iload_n 1, 1) := by decide +kernel
theorem dX11_sets_19 : decode cX11_sets 19 = .ok (.sipush 722, 3) := by decide +kernel
theorem dX11_sets_22 : decode cX11_sets 22 = .ok (.if_icmp .ge 12, 3) := by decide +kernel
theorem dX11_sets_25 : decode cX11_sets 25 = .ok (.aload_n 0, 1) := by decide +kernel
theorem dX11_sets_26 : decode cX11_sets 26 = .ok (.getfield 47, 3) := by decide +kernel
theorem dX11_sets_29 : decode cX11_sets 29 = .ok (.iload_n 1, 1) := by decide +kernel
theorem dX11_sets_30 : decode cX11_sets 30 = .ok (.iaload, 1) := by decide +kernel
theorem dX11_sets_31 : decode cX11_sets 31 = .ok (.goto 13, 3) := by decide +kernel
theorem dX11_sets_34 : decode cX11_sets 34 = .ok (.aload_n 0, 1) := by decide +kernel
theorem dX11_sets_35 : decode cX11_sets 35 = .ok (.getfield 50, 3) := by decide +kernel
theorem dX11_sets_38 : decode cX11_sets 38 = .ok (.iload_n 1, 1) := by decide +kernel
theorem dX11_sets_39 : decode cX11_sets 39 = .ok (.sipush 722, 3) := by decide +kernel
theorem dX11_sets_42 : decode cX11_sets 42 = .ok (.isub, 1) := by decide +kernel
theorem dX11_sets_43 : decode cX11_sets 43 = .ok (.iaload, 1) := by decide +kernel
theorem dX11_sets_44 : decode cX11_sets 44 = .ok (.iastore, 1) := by decide +kernel
theorem dX11_sets_45 : decode cX11_sets 45 = .ok (.aload_n 0, 1) := by decide +kernel
theorem dX11_sets_46 : decode cX11_sets 46 = .ok (.dup, 1) := by decide +kernel
theorem dX11_sets_47 : decode cX11_sets 47 = .ok (.getfield 167, 3) := by decide +kernel
theorem dX11_sets_50 : decode cX11_sets 50 = .ok (.iconst 1, 1) := by decide +kernel
theorem dX11_sets_51 : decode cX11_sets 51 = .ok (.iadd, 1) := by decide +kernel
theorem dX11_sets_52 : decode cX11_sets 52 = .ok (.putfield 167, 3) := by decide +kernel
theorem dX11_sets_55 : decode cX11_sets 55 = .ok (.iload_n 1, 1) := by decide +kernel
theorem dX11_sets_56 : decode cX11_sets 56 = .ok (.sipush 722, 3) := by decide +kernel
theorem dX11_sets_59 : decode cX11_sets 59 = .ok (.if_icmp .ge 13, 3) := by decide +kernel
theorem dX11_sets_62 : decode cX11_sets 62 = .ok (.aload_n 0, 1) := by decide +kernel
theorem dX11_sets_63 : decode cX11_sets 63 = .ok (.getfield 47, 3) := by decide +kernel
theorem dX11_sets_66 : decode cX11_sets 66 = .ok (.iload_n 1, 1) := by decide +kernel
theorem dX11_sets_67 : decode cX11_sets 67 = .ok (.iload_n 2, 1) := by decide +kernel
theorem dX11_sets_68 : decode cX11_sets 68 = .ok (.iastore, 1) := by decide +kernel
theorem dX11_sets_69 : decode cX11_sets 69 = .ok (.goto 14, 3) := by decide +kernel
theorem dX11_sets_72 : decode cX11_sets 72 = .ok (.aload_n 0, 1) := by decide +kernel
theorem dX11_sets_73 : decode cX11_sets 73 = .ok (.getfield 50, 3) := by decide +kernel
theorem dX11_sets_76 : decode cX11_sets 76 = .ok (.iload_n 1, 1) := by decide +kernel
theorem dX11_sets_77 : decode cX11_sets 77 = .ok (.sipush 722, 3) := by decide +kernel
theorem dX11_sets_80 : decode cX11_sets 80 = .ok (.isub, 1) := by decide +kernel
theorem dX11_sets_81 : decode cX11_sets 81 = .ok (.iload_n 2, 1) := by decide +kernel
theorem dX11_sets_82 : decode cX11_sets 82 = .ok (.iastore, 1) := by decide +kernel
theorem dX11_sets_83 : decode cX11_sets 83 = .ok (.return_, 1) := by decide +kernel
theorem dX11_takesBack_0 : decode cX11_takesBack 0 = .ok (.aload_n 0, 1) := by decide +kernel
theorem dX11_takesBack_1 : decode cX11_takesBack 1 = .ok (.getfield 167, 3) := by decide +kernel
theorem dX11_takesBack_4 : decode cX11_takesBack 4 = .ok (.ifCond .le 84, 3) := by decide +kernel
theorem dX11_takesBack_7 : decode cX11_takesBack 7 = .ok (.aload_n 0, 1) := by decide +kernel
theorem dX11_takesBack_8 : decode cX11_takesBack 8 = .ok (.dup, 1) := by decide +kernel
theorem dX11_takesBack_9 : decode cX11_takesBack 9 = .ok (.getfield 167, 3) := by decide +kernel
theorem dX11_takesBack_12 : decode cX11_takesBack 12 = .ok (.iconst 1, 1) := by decide +kernel
theorem dX11_takesBack_13 : decode cX11_takesBack 13 = .ok (.isub, 1) := by decide +kernel
theorem dX11_takesBack_14 : decode cX11_takesBack 14 = .ok (.putfield 167, 3) := by decide +kernel
theorem dX11_takesBack_17 : decode cX11_takesBack 17 = .ok (.aload_n 0, 1) := by decide +kernel
theorem dX11_takesBack_18 : decode cX11_takesBack 18 = .ok (.getfield 53, 3) := by decide +kernel
theorem dX11_takesBack_21 : decode cX11_takesBack 21 = .ok (.aload_n 0, 1) := by decide +kernel
theorem dX11_takesBack_22 : decode cX11_takesBack 22 = .ok (.getfield 167, 3) := by decide +kernel
theorem dX11_takesBack_25 : decode cX11_takesBack 25 = .ok (.iaload, 1) := by decide +kernel
theorem dX11_takesBack_26 : decode cX11_takesBack 26 = .ok (.sipush 722, 3) := by decide +kernel
theorem dX11_takesBack_29 : decode cX11_takesBack 29 = .ok (.if_icmp .ge 29, 3) := by decide +kernel
theorem dX11_takesBack_32 : decode cX11_takesBack 32 = .ok (.aload_n 0, 1) := by decide +kernel
theorem dX11_takesBack_33 : decode cX11_takesBack 33 = .ok (.getfield 47, 3) := by decide +kernel
theorem dX11_takesBack_36 : decode cX11_takesBack 36 = .ok (.aload_n 0, 1) := by decide +kernel
theorem dX11_takesBack_37 : decode cX11_takesBack 37 = .ok (.getfield 53, 3) := by decide +kernel
theorem dX11_takesBack_40 : decode cX11_takesBack 40 = .ok (.aload_n 0, 1) := by decide +kernel
theorem dX11_takesBack_41 : decode cX11_takesBack 41 = .ok (.getfield 167, 3) := by decide +kernel
theorem dX11_takesBack_44 : decode cX11_takesBack 44 = .ok (.iaload, 1) := by decide +kernel
theorem dX11_takesBack_45 : decode cX11_takesBack 45 = .ok (.aload_n 0, 1) := by decide +kernel
theorem dX11_takesBack_46 : decode cX11_takesBack 46 = .ok (.getfield 56, 3) := by decide +kernel
theorem dX11_takesBack_49 : decode cX11_takesBack 49 = .ok (.aload_n 0, 1) := by decide +kernel
theorem dX11_takesBack_50 : decode cX11_takesBack 50 = .ok (.getfield 167, 3) := by decide +kernel
theorem dX11_takesBack_53 : decode cX11_takesBack 53 = .ok (.iaload, 1) := by decide +kernel
theorem dX11_takesBack_54 : decode cX11_takesBack 54 = .ok (.iastore, 1) := by decide +kernel
theorem dX11_takesBack_55 : decode cX11_takesBack 55 = .ok (.goto (-55), 3) := by decide +kernel
theorem dX11_takesBack_58 : decode cX11_takesBack 58 = .ok (.aload_n 0, 1) := by decide +kernel
theorem dX11_takesBack_59 : decode cX11_takesBack 59 = .ok (.getfield 50, 3) := by decide +kernel
theorem dX11_takesBack_62 : decode cX11_takesBack 62 = .ok (.aload_n 0, 1) := by decide +kernel
theorem dX11_takesBack_63 : decode cX11_takesBack 63 = .ok (.getfield 53, 3) := by decide +kernel
theorem dX11_takesBack_66 : decode cX11_takesBack 66 = .ok (.aload_n 0, 1) := by decide +kernel
theorem dX11_takesBack_67 : decode cX11_takesBack 67 = .ok (.getfield 167, 3) := by decide +kernel
theorem dX11_takesBack_70 : decode cX11_takesBack 70 = .ok (.iaload, 1) := by decide +kernel
theorem dX11_takesBack_71 : decode cX11_takesBack 71 = .ok (.sipush 722, 3) := by decide +kernel
theorem dX11_takesBack_74 : decode cX11_takesBack 74 = .ok (.isub, 1) := by decide +kernel
theorem dX11_takesBack_75 : decode cX11_takesBack 75 = .ok (.aload_n 0, 1) := by decide +kernel
theorem dX11_takesBack_76 : decode cX11_takesBack 76 = .ok (.getfield 56, 3) := by decide +kernel
theorem dX11_takesBack_79 : decode cX11_takesBack 79 = .ok (.aload_n 0, 1) := by decide +kernel
theorem dX11_takesBack_80 : decode cX11_takesBack 80 = .ok (.getfield 167, 3) := by decide +kernel
theorem dX11_takesBack_83 : decode cX11_takesBack 83 = .ok (.iaload, 1) := by decide +kernel
theorem dX11_takesBack_84 : decode cX11_takesBack 84 = .ok (.iastore, 1) := by decide +kernel
theorem dX11_takesBack_85 : decode cX11_takesBack 85 = .ok (.goto (-85), 3) := by decide +kernel
theorem dX11_takesBack_88 : decode cX11_takesBack 88 = .ok (.return_, 1) := by decide +kernel
theorem dX11_melts_0 : decode cX11_melts 0 = .ok (.aload_n 0, 1) := by decide +kernel
theorem dX11_melts_1 : decode cX11_melts 1 = .ok (.iconst 0, 1) := by decide +kernel
theorem dX11_melts_2 : decode cX11_melts 2 = .ok (.putfield 167, 3) := by decide +kernel
theorem dX11_melts_5 : decode cX11_melts 5 = .ok (.aload_n 0, 1) := by decide +kernel
theorem dX11_melts_6 : decode cX11_melts 6 = .ok (.getfield 59, 3) := by decide +kernel
theorem dX11_melts_9 : decode cX11_melts 9 = .ok (.iconst 0, 1) := by decide +kernel
theorem dX11_melts_10 : decode cX11_melts 10 = .ok (.iload_n 1, 1) := by decide +kernel
theorem dX11_melts_11 : decode cX11_melts 11 = .ok (.iastore, 1) := by decide +kernel
theorem dX11_melts_12 : decode cX11_melts 12 = .ok (.aload_n 0, 1) := by decide +kernel
theorem dX11_melts_13 : decode cX11_melts 13 = .ok (.getfield 62, 3) := by decide +kernel
theorem dX11_melts_16 : decode cX11_melts 16 = .ok (.iconst 0, 1) := by decide +kernel
theorem dX11_melts_17 : decode cX11_melts 17 = .ok (.iload_n 2, 1) := by decide +kernel
theorem dX11_melts_18 : decode cX11_melts 18 = .ok (.iastore, 1) := by decide +kernel
theorem dX11_melts_19 : decode cX11_melts 19 = .ok (.iconst 1, 1) := by decide +kernel
theorem dX11_melts_20 : decode cX11_melts 20 = .ok (.istore_n 3, 1) := by decide +kernel
theorem dX11_melts_21 : decode cX11_melts 21 = .ok (.iload_n 3, 1) := by decide +kernel
theorem dX11_melts_22 : decode cX11_melts 22 = .ok (.ifCond .le 176, 3) := by decide +kernel
theorem dX11_melts_25 : decode cX11_melts 25 = .ok (.iinc 3 (-1), 3) := by decide +kernel
theorem dX11_melts_28 : decode cX11_melts 28 = .ok (.aload_n 0, 1) := by decide +kernel
theorem dX11_melts_29 : decode cX11_melts 29 = .ok (.aload_n 0, 1) := by decide +kernel
theorem dX11_melts_30 : decode cX11_melts 30 = .ok (.getfield 59, 3) := by decide +kernel
theorem dX11_melts_33 : decode cX11_melts 33 = .ok (.iload_n 3, 1) := by decide +kernel
theorem dX11_melts_34 : decode cX11_melts 34 = .ok (.iaload, 1) := by decide +kernel
theorem dX11_melts_35 : decode cX11_melts 35 = .ok (.invokevirtual 170, 3) := by decide +kernel
theorem dX11_melts_38 : decode cX11_melts 38 = .ok (.istore 4, 2) := by decide +kernel
theorem dX11_melts_40 : decode cX11_melts 40 = .ok (.aload_n 0, 1) := by decide +kernel
theorem dX11_melts_41 : decode cX11_melts 41 = .ok (.aload_n 0, 1) := by decide +kernel
theorem dX11_melts_42 : decode cX11_melts 42 = .ok (.getfield 62, 3) := by decide +kernel
theorem dX11_melts_45 : decode cX11_melts 45 = .ok (.iload_n 3, 1) := by decide +kernel
theorem dX11_melts_46 : decode cX11_melts 46 = .ok (.iaload, 1) := by decide +kernel
theorem dX11_melts_47 : decode cX11_melts 47 = .ok (.invokevirtual 170, 3) := by decide +kernel
theorem dX11_melts_50 : decode cX11_melts 50 = .ok (.istore 5, 2) := by decide +kernel
theorem dX11_melts_52 : decode cX11_melts 52 = .ok (.iload 4, 2) := by decide +kernel
theorem dX11_melts_54 : decode cX11_melts 54 = .ok (.iload 5, 2) := by decide +kernel
theorem dX11_melts_56 : decode cX11_melts 56 = .ok (.if_icmp .ne 6, 3) := by decide +kernel
theorem dX11_melts_59 : decode cX11_melts 59 = .ok (.goto (-38), 3) := by decide +kernel
theorem dX11_melts_62 : decode cX11_melts 62 = .ok (.iload 4, 2) := by decide +kernel
theorem dX11_melts_64 : decode cX11_melts 64 = .ok (.iload 5, 2) := by decide +kernel
theorem dX11_melts_66 : decode cX11_melts 66 = .ok (.if_icmp .le 15, 3) := by decide +kernel
theorem dX11_melts_69 : decode cX11_melts 69 = .ok (.iload 4, 2) := by decide +kernel
theorem dX11_melts_71 : decode cX11_melts 71 = .ok (.istore 6, 2) := by decide +kernel
theorem dX11_melts_73 : decode cX11_melts 73 = .ok (.iload 5, 2) := by decide +kernel
theorem dX11_melts_75 : decode cX11_melts 75 = .ok (.istore 4, 2) := by decide +kernel
theorem dX11_melts_77 : decode cX11_melts 77 = .ok (.iload 6, 2) := by decide +kernel
theorem dX11_melts_79 : decode cX11_melts 79 = .ok (.istore 5, 2) := by decide +kernel
theorem dX11_melts_81 : decode cX11_melts 81 = .ok (.aload_n 0, 1) := by decide +kernel
theorem dX11_melts_82 : decode cX11_melts 82 = .ok (.iload 5, 2) := by decide +kernel
theorem dX11_melts_84 : decode cX11_melts 84 = .ok (.iload 4, 2) := by decide +kernel
theorem dX11_melts_86 : decode cX11_melts 86 = .ok (.invokevirtual 173, 3) := by decide +kernel
theorem dX11_melts_89 : decode cX11_melts 89 = .ok (.iconst 0, 1) := by decide +kernel
theorem dX11_melts_90 : decode cX11_melts 90 = .ok (.istore 6, 2) := by decide +kernel
theorem dX11_melts_92 : decode cX11_melts 92 = .ok (.iload 6, 2) := by decide +kernel
theorem dX11_melts_94 : decode cX11_melts 94 = .ok (.bipush 8, 2) := by decide +kernel
theorem dX11_melts_96 : decode cX11_melts 96 = .ok (.if_icmp .ge 99, 3) := by decide +kernel
theorem dX11_melts_99 : decode cX11_melts 99 = .ok (.aload_n 0, 1) := by decide +kernel
theorem dX11_melts_100 : decode cX11_melts 100 = .ok (.getfield 50, 3) := by decide +kernel
theorem dX11_melts_103 : decode cX11_melts 103 = .ok (.bipush 8, 2) := by decide +kernel
theorem dX11_melts_105 : decode cX11_melts 105 = .ok (.iload 5, 2) := by decide +kernel
theorem dX11_melts_107 : decode cX11_melts 107 = .ok (.imul, 1) := by decide +kernel
theorem dX11_melts_108 : decode cX11_melts 108 = .ok (.iload 6, 2) := by decide +kernel
theorem dX11_melts_110 : decode cX11_melts 110 = .ok (.iadd, 1) := by decide +kernel
theorem dX11_melts_111 : decode cX11_melts 111 = .ok (.iaload, 1) := by decide +kernel
theorem dX11_melts_112 : decode cX11_melts 112 = .ok (.istore 7, 2) := by decide +kernel
theorem dX11_melts_114 : decode cX11_melts 114 = .ok (.iload 7, 2) := by decide +kernel
theorem dX11_melts_116 : decode cX11_melts 116 = .ok (.ifCond .ge 6, 3) := by decide +kernel
theorem dX11_melts_119 : decode cX11_melts 119 = .ok (.goto 70, 3) := by decide +kernel
theorem dX11_melts_122 : decode cX11_melts 122 = .ok (.aload_n 0, 1) := by decide +kernel
theorem dX11_melts_123 : decode cX11_melts 123 = .ok (.getfield 50, 3) := by decide +kernel
theorem dX11_melts_126 : decode cX11_melts 126 = .ok (.bipush 8, 2) := by decide +kernel
theorem dX11_melts_128 : decode cX11_melts 128 = .ok (.iload 4, 2) := by decide +kernel
theorem dX11_melts_130 : decode cX11_melts 130 = .ok (.imul, 1) := by decide +kernel
theorem dX11_melts_131 : decode cX11_melts 131 = .ok (.iload 6, 2) := by decide +kernel
theorem dX11_melts_133 : decode cX11_melts 133 = .ok (.iadd, 1) := by decide +kernel
theorem dX11_melts_134 : decode cX11_melts 134 = .ok (.iaload, 1) := by decide +kernel
theorem dX11_melts_135 : decode cX11_melts 135 = .ok (.ifCond .ge 24, 3) := by decide +kernel
theorem dX11_melts_138 : decode cX11_melts 138 = .ok (.aload_n 0, 1) := by decide +kernel
theorem dX11_melts_139 : decode cX11_melts 139 = .ok (.sipush 722, 3) := by decide +kernel
theorem dX11_melts_142 : decode cX11_melts 142 = .ok (.bipush 8, 2) := by decide +kernel
theorem dX11_melts_144 : decode cX11_melts 144 = .ok (.iload 4, 2) := by decide +kernel
theorem dX11_melts_146 : decode cX11_melts 146 = .ok (.imul, 1) := by decide +kernel
theorem dX11_melts_147 : decode cX11_melts 147 = .ok (.iadd, 1) := by decide +kernel
theorem dX11_melts_148 : decode cX11_melts 148 = .ok (.iload 6, 2) := by decide +kernel
theorem dX11_melts_150 : decode cX11_melts 150 = .ok (.iadd, 1) := by decide +kernel
theorem dX11_melts_151 : decode cX11_melts 151 = .ok (.iload 7, 2) := by decide +kernel
theorem dX11_melts_153 : decode cX11_melts 153 = .ok (.invokevirtual 173, 3) := by decide +kernel
theorem dX11_melts_156 : decode cX11_melts 156 = .ok (.goto 33, 3) := by decide +kernel
theorem dX11_melts_159 : decode cX11_melts 159 = .ok (.aload_n 0, 1) := by decide +kernel
theorem dX11_melts_160 : decode cX11_melts 160 = .ok (.getfield 59, 3) := by decide +kernel
theorem dX11_melts_163 : decode cX11_melts 163 = .ok (.iload_n 3, 1) := by decide +kernel
theorem dX11_melts_164 : decode cX11_melts 164 = .ok (.aload_n 0, 1) := by decide +kernel
theorem dX11_melts_165 : decode cX11_melts 165 = .ok (.getfield 50, 3) := by decide +kernel
theorem dX11_melts_168 : decode cX11_melts 168 = .ok (.bipush 8, 2) := by decide +kernel
theorem dX11_melts_170 : decode cX11_melts 170 = .ok (.iload 4, 2) := by decide +kernel
theorem dX11_melts_172 : decode cX11_melts 172 = .ok (.imul, 1) := by decide +kernel
theorem dX11_melts_173 : decode cX11_melts 173 = .ok (.iload 6, 2) := by decide +kernel
theorem dX11_melts_175 : decode cX11_melts 175 = .ok (.iadd, 1) := by decide +kernel
theorem dX11_melts_176 : decode cX11_melts 176 = .ok (.iaload, 1) := by decide +kernel
theorem dX11_melts_177 : decode cX11_melts 177 = .ok (.iastore, 1) := by decide +kernel
theorem dX11_melts_178 : decode cX11_melts 178 = .ok (.aload_n 0, 1) := by decide +kernel
theorem dX11_melts_179 : decode cX11_melts 179 = .ok (.getfield 62, 3) := by decide +kernel
theorem dX11_melts_182 : decode cX11_melts 182 = .ok (.iload_n 3, 1) := by decide +kernel
theorem dX11_melts_183 : decode cX11_melts 183 = .ok (.iload 7, 2) := by decide +kernel
theorem dX11_melts_185 : decode cX11_melts 185 = .ok (.iastore, 1) := by decide +kernel
theorem dX11_melts_186 : decode cX11_melts 186 = .ok (.iinc 3 1, 3) := by decide +kernel
theorem dX11_melts_189 : decode cX11_melts 189 = .ok (.iinc 6 1, 3) := by decide +kernel
theorem dX11_melts_192 : decode cX11_melts 192 = .ok (.goto (-100), 3) := by decide +kernel
theorem dX11_melts_195 : decode cX11_melts 195 = .ok (.goto (-174), 3) := by decide +kernel
theorem dX11_melts_198 : decode cX11_melts 198 = .ok (.return_, 1) := by decide +kernel
theorem dX11_takesWrong_0 : decode cX11_takesWrong 0 = .ok (.iconst 0, 1) := by decide +kernel
theorem dX11_takesWrong_1 : decode cX11_takesWrong 1 = .ok (.istore_n 1, 1) := by decide +kernel
theorem dX11_takesWrong_2 : decode cX11_takesWrong 2 = .ok (.iload_n 1, 1) := by decide +kernel
theorem dX11_takesWrong_3 : decode cX11_takesWrong 3 = .ok (.aload_n 0, 1) := by decide +kernel
theorem dX11_takesWrong_4 : decode cX11_takesWrong 4 = .ok (.getfield 147, 3) := by decide +kernel
theorem dX11_takesWrong_7 : decode cX11_takesWrong 7 = .ok (.if_icmp .ge 103, 3) := by decide +kernel
theorem dX11_takesWrong_10 : decode cX11_takesWrong 10 = .ok (.aload_n 0, 1) := by decide +kernel
theorem dX11_takesWrong_11 : decode cX11_takesWrong 11 = .ok (.getfield 29, 3) := by decide +kernel
theorem dX11_takesWrong_14 : decode cX11_takesWrong 14 = .ok (.iload_n 1, 1) := by decide +kernel
theorem dX11_takesWrong_15 : decode cX11_takesWrong 15 = .ok (.baload, 1) := by decide +kernel
theorem dX11_takesWrong_16 : decode cX11_takesWrong 16 = .ok (.ifCond .ne 6, 3) := by decide +kernel
theorem dX11_takesWrong_19 : decode cX11_takesWrong 19 = .ok (.goto 85, 3) := by decide +kernel
theorem dX11_takesWrong_22 : decode cX11_takesWrong 22 = .ok (.iconst 0, 1) := by decide +kernel
theorem dX11_takesWrong_23 : decode cX11_takesWrong 23 = .ok (.istore_n 2, 1) := by decide +kernel
theorem dX11_takesWrong_24 : decode cX11_takesWrong 24 = .ok (.iconst 0, 1) := by decide +kernel
theorem dX11_takesWrong_25 : decode cX11_takesWrong 25 = .ok (.istore_n 3, 1) := by decide +kernel
theorem dX11_takesWrong_26 : decode cX11_takesWrong 26 = .ok (.iload_n 3, 1) := by decide +kernel
theorem dX11_takesWrong_27 : decode cX11_takesWrong 27 = .ok (.aload_n 0, 1) := by decide +kernel
theorem dX11_takesWrong_28 : decode cX11_takesWrong 28 = .ok (.getfield 16, 3) := by decide +kernel
theorem dX11_takesWrong_31 : decode cX11_takesWrong 31 = .ok (.iload_n 1, 1) := by decide +kernel
theorem dX11_takesWrong_32 : decode cX11_takesWrong 32 = .ok (.iaload, 1) := by decide +kernel
theorem dX11_takesWrong_33 : decode cX11_takesWrong 33 = .ok (.if_icmp .ge 59, 3) := by decide +kernel
theorem dX11_takesWrong_36 : decode cX11_takesWrong 36 = .ok (.aload_n 0, 1) := by decide +kernel
theorem dX11_takesWrong_37 : decode cX11_takesWrong 37 = .ok (.getfield 50, 3) := by decide +kernel
theorem dX11_takesWrong_40 : decode cX11_takesWrong 40 = .ok (.bipush 8, 2) := by decide +kernel
theorem dX11_takesWrong_42 : decode cX11_takesWrong 42 = .ok (.iload_n 2, 1) := by decide +kernel
theorem dX11_takesWrong_43 : decode cX11_takesWrong 43 = .ok (.imul, 1) := by decide +kernel
theorem dX11_takesWrong_44 : decode cX11_takesWrong 44 = .ok (.aload_n 0, 1) := by decide +kernel
theorem dX11_takesWrong_45 : decode cX11_takesWrong 45 = .ok (.getfield 13, 3) := by decide +kernel
theorem dX11_takesWrong_48 : decode cX11_takesWrong 48 = .ok (.bipush 12, 2) := by decide +kernel
theorem dX11_takesWrong_50 : decode cX11_takesWrong 50 = .ok (.iload_n 1, 1) := by decide +kernel
theorem dX11_takesWrong_51 : decode cX11_takesWrong 51 = .ok (.imul, 1) := by decide +kernel
theorem dX11_takesWrong_52 : decode cX11_takesWrong 52 = .ok (.iload_n 3, 1) := by decide +kernel
theorem dX11_takesWrong_53 : decode cX11_takesWrong 53 = .ok (.iadd, 1) := by decide +kernel
theorem dX11_takesWrong_54 : decode cX11_takesWrong 54 = .ok (.iaload, 1) := by decide +kernel
theorem dX11_takesWrong_55 : decode cX11_takesWrong 55 = .ok (.iadd, 1) := by decide +kernel
theorem dX11_takesWrong_56 : decode cX11_takesWrong 56 = .ok (.iaload, 1) := by decide +kernel
theorem dX11_takesWrong_57 : decode cX11_takesWrong 57 = .ok (.ifCond .lt 35, 3) := by decide +kernel
theorem dX11_takesWrong_60 : decode cX11_takesWrong 60 = .ok (.aload_n 0, 1) := by decide +kernel
theorem dX11_takesWrong_61 : decode cX11_takesWrong 61 = .ok (.aload_n 0, 1) := by decide +kernel
theorem dX11_takesWrong_62 : decode cX11_takesWrong 62 = .ok (.getfield 50, 3) := by decide +kernel
theorem dX11_takesWrong_65 : decode cX11_takesWrong 65 = .ok (.bipush 8, 2) := by decide +kernel
theorem dX11_takesWrong_67 : decode cX11_takesWrong 67 = .ok (.iload_n 2, 1) := by decide +kernel
theorem dX11_takesWrong_68 : decode cX11_takesWrong 68 = .ok (.imul, 1) := by decide +kernel
theorem dX11_takesWrong_69 : decode cX11_takesWrong 69 = .ok (.aload_n 0, 1) := by decide +kernel
theorem dX11_takesWrong_70 : decode cX11_takesWrong 70 = .ok (.getfield 13, 3) := by decide +kernel
theorem dX11_takesWrong_73 : decode cX11_takesWrong 73 = .ok (.bipush 12, 2) := by decide +kernel
theorem dX11_takesWrong_75 : decode cX11_takesWrong 75 = .ok (.iload_n 1, 1) := by decide +kernel
theorem dX11_takesWrong_76 : decode cX11_takesWrong 76 = .ok (.imul, 1) := by decide +kernel
theorem dX11_takesWrong_77 : decode cX11_takesWrong 77 = .ok (.iload_n 3, 1) := by decide +kernel
theorem dX11_takesWrong_78 : decode cX11_takesWrong 78 = .ok (.iadd, 1) := by decide +kernel
theorem dX11_takesWrong_79 : decode cX11_takesWrong 79 = .ok (.iaload, 1) := by decide +kernel
theorem dX11_takesWrong_80 : decode cX11_takesWrong 80 = .ok (.iadd, 1) := by decide +kernel
theorem dX11_takesWrong_81 : decode cX11_takesWrong 81 = .ok (.iaload, 1) := by decide +kernel
theorem dX11_takesWrong_82 : decode cX11_takesWrong 82 = .ok (.invokevirtual 170, 3) := by decide +kernel
theorem dX11_takesWrong_85 : decode cX11_takesWrong 85 = .ok (.istore_n 2, 1) := by decide +kernel
theorem dX11_takesWrong_86 : decode cX11_takesWrong 86 = .ok (.iinc 3 1, 3) := by decide +kernel
theorem dX11_takesWrong_89 : decode cX11_takesWrong 89 = .ok (.goto (-63), 3) := by decide +kernel
theorem dX11_takesWrong_92 : decode cX11_takesWrong 92 = .ok (.iload_n 3, 1) := by decide +kernel
theorem dX11_takesWrong_93 : decode cX11_takesWrong 93 = .ok (.aload_n 0, 1) := by decide +kernel
theorem dX11_takesWrong_94 : decode cX11_takesWrong 94 = .ok (.getfield 16, 3) := by decide +kernel
theorem dX11_takesWrong_97 : decode cX11_takesWrong 97 = .ok (.iload_n 1, 1) := by decide +kernel
theorem dX11_takesWrong_98 : decode cX11_takesWrong 98 = .ok (.iaload, 1) := by decide +kernel
theorem dX11_takesWrong_99 : decode cX11_takesWrong 99 = .ok (.if_icmp .ne 5, 3) := by decide +kernel
theorem dX11_takesWrong_102 : decode cX11_takesWrong 102 = .ok (.iconst 1, 1) := by decide +kernel
theorem dX11_takesWrong_103 : decode cX11_takesWrong 103 = .ok (.ireturn, 1) := by decide +kernel
theorem dX11_takesWrong_104 : decode cX11_takesWrong 104 = .ok (.iinc 1 1, 3) := by decide +kernel
theorem dX11_takesWrong_107 : decode cX11_takesWrong 107 = .ok (.goto (-105), 3) := by decide +kernel
theorem dX11_takesWrong_110 : decode cX11_takesWrong 110 = .ok (.iconst 0, 1) := by decide +kernel
theorem dX11_takesWrong_111 : decode cX11_takesWrong 111 = .ok (.ireturn, 1) := by decide +kernel
theorem dX11_learn_0 : decode cX11_learn 0 = .ok (.aload_n 0, 1) := by decide +kernel
theorem dX11_learn_1 : decode cX11_learn 1 = .ok (.iconst 0, 1) := by decide +kernel
theorem dX11_learn_2 : decode cX11_learn 2 = .ok (.putfield 133, 3) := by decide +kernel
theorem dX11_learn_5 : decode cX11_learn 5 = .ok (.aload_n 0, 1) := by decide +kernel
theorem dX11_learn_6 : decode cX11_learn 6 = .ok (.invokevirtual 177, 3) := by decide +kernel
theorem dX11_learn_9 : decode cX11_learn 9 = .ok (.iconst 0, 1) := by decide +kernel
theorem dX11_learn_10 : decode cX11_learn 10 = .ok (.istore_n 1, 1) := by decide +kernel
theorem dX11_learn_11 : decode cX11_learn 11 = .ok (.iload_n 1, 1) := by decide +kernel
theorem dX11_learn_12 : decode cX11_learn 12 = .ok (.aload_n 0, 1) := by decide +kernel
theorem dX11_learn_13 : decode cX11_learn 13 = .ok (.getfield 164, 3) := by decide +kernel
theorem dX11_learn_16 : decode cX11_learn 16 = .ok (.if_icmp .ge 52, 3) := by decide +kernel
theorem dX11_learn_19 : decode cX11_learn 19 = .ok (.aload_n 0, 1) := by decide +kernel
theorem dX11_learn_20 : decode cX11_learn 20 = .ok (.getfield 47, 3) := by decide +kernel
theorem dX11_learn_23 : decode cX11_learn 23 = .ok (.iload_n 1, 1) := by decide +kernel
theorem dX11_learn_24 : decode cX11_learn 24 = .ok (.iload_n 1, 1) := by decide +kernel
theorem dX11_learn_25 : decode cX11_learn 25 = .ok (.iastore, 1) := by decide +kernel
theorem dX11_learn_26 : decode cX11_learn 26 = .ok (.iconst 0, 1) := by decide +kernel
theorem dX11_learn_27 : decode cX11_learn 27 = .ok (.istore_n 2, 1) := by decide +kernel
theorem dX11_learn_28 : decode cX11_learn 28 = .ok (.iload_n 2, 1) := by decide +kernel
theorem dX11_learn_29 : decode cX11_learn 29 = .ok (.bipush 8, 2) := by decide +kernel
theorem dX11_learn_31 : decode cX11_learn 31 = .ok (.if_icmp .ge 31, 3) := by decide +kernel
theorem dX11_learn_34 : decode cX11_learn 34 = .ok (.aload_n 0, 1) := by decide +kernel
theorem dX11_learn_35 : decode cX11_learn 35 = .ok (.getfield 50, 3) := by decide +kernel
theorem dX11_learn_38 : decode cX11_learn 38 = .ok (.bipush 8, 2) := by decide +kernel
theorem dX11_learn_40 : decode cX11_learn 40 = .ok (.iload_n 1, 1) := by decide +kernel
theorem dX11_learn_41 : decode cX11_learn 41 = .ok (.imul, 1) := by decide +kernel
theorem dX11_learn_42 : decode cX11_learn 42 = .ok (.iload_n 2, 1) := by decide +kernel
theorem dX11_learn_43 : decode cX11_learn 43 = .ok (.iadd, 1) := by decide +kernel
theorem dX11_learn_44 : decode cX11_learn 44 = .ok (.aload_n 0, 1) := by decide +kernel
theorem dX11_learn_45 : decode cX11_learn 45 = .ok (.getfield 32, 3) := by decide +kernel
theorem dX11_learn_48 : decode cX11_learn 48 = .ok (.bipush 8, 2) := by decide +kernel
theorem dX11_learn_50 : decode cX11_learn 50 = .ok (.iload_n 1, 1) := by decide +kernel
theorem dX11_learn_51 : decode cX11_learn 51 = .ok (.imul, 1) := by decide +kernel
theorem dX11_learn_52 : decode cX11_learn 52 = .ok (.iload_n 2, 1) := by decide +kernel
theorem dX11_learn_53 : decode cX11_learn 53 = .ok (.iadd, 1) := by decide +kernel
theorem dX11_learn_54 : decode cX11_learn 54 = .ok (.iaload, 1) := by decide +kernel
theorem dX11_learn_55 : decode cX11_learn 55 = .ok (.iastore, 1) := by decide +kernel
theorem dX11_learn_56 : decode cX11_learn 56 = .ok (.iinc 2 1, 3) := by decide +kernel
theorem dX11_learn_59 : decode cX11_learn 59 = .ok (.goto (-31), 3) := by decide +kernel
theorem dX11_learn_62 : decode cX11_learn 62 = .ok (.iinc 1 1, 3) := by decide +kernel
theorem dX11_learn_65 : decode cX11_learn 65 = .ok (.goto (-54), 3) := by decide +kernel
theorem dX11_learn_68 : decode cX11_learn 68 = .ok (.aload_n 0, 1) := by decide +kernel
theorem dX11_learn_69 : decode cX11_learn 69 = .ok (.getfield 71, 3) := by decide +kernel
theorem dX11_learn_72 : decode cX11_learn 72 = .ok (.iconst 0, 1) := by decide +kernel
theorem dX11_learn_73 : decode cX11_learn 73 = .ok (.iconst 0, 1) := by decide +kernel
theorem dX11_learn_74 : decode cX11_learn 74 = .ok (.iastore, 1) := by decide +kernel
theorem dX11_learn_75 : decode cX11_learn 75 = .ok (.iconst 1, 1) := by decide +kernel
theorem dX11_learn_76 : decode cX11_learn 76 = .ok (.istore_n 1, 1) := by decide +kernel
theorem dX11_learn_77 : decode cX11_learn 77 = .ok (.iconst 1, 1) := by decide +kernel
theorem dX11_learn_78 : decode cX11_learn 78 = .ok (.istore_n 2, 1) := by decide +kernel
theorem dX11_learn_79 : decode cX11_learn 79 = .ok (.iload_n 2, 1) := by decide +kernel
theorem dX11_learn_80 : decode cX11_learn 80 = .ok (.aload_n 0, 1) := by decide +kernel
theorem dX11_learn_81 : decode cX11_learn 81 = .ok (.getfield 164, 3) := by decide +kernel
theorem dX11_learn_84 : decode cX11_learn 84 = .ok (.if_icmp .ge 101, 3) := by decide +kernel
theorem dX11_learn_87 : decode cX11_learn 87 = .ok (.aload_n 0, 1) := by decide +kernel
theorem dX11_learn_88 : decode cX11_learn 88 = .ok (.getfield 47, 3) := by decide +kernel
theorem dX11_learn_91 : decode cX11_learn 91 = .ok (.iload_n 2, 1) := by decide +kernel
theorem dX11_learn_92 : decode cX11_learn 92 = .ok (.iaload, 1) := by decide +kernel
theorem dX11_learn_93 : decode cX11_learn 93 = .ok (.iload_n 2, 1) := by decide +kernel
theorem dX11_learn_94 : decode cX11_learn 94 = .ok (.if_icmp .eq 6, 3) := by decide +kernel
theorem dX11_learn_97 : decode cX11_learn 97 = .ok (.goto 82, 3) := by decide +kernel
theorem dX11_learn_100 : decode cX11_learn 100 = .ok (.iconst 0, 1) := by decide +kernel
theorem dX11_learn_101 : decode cX11_learn 101 = .ok (.istore_n 3, 1) := by decide +kernel
theorem dX11_learn_102 : decode cX11_learn 102 = .ok (.iconst 0, 1) := by decide +kernel
theorem dX11_learn_103 : decode cX11_learn 103 = .ok (.istore 4, 2) := by decide +kernel
theorem dX11_learn_105 : decode cX11_learn 105 = .ok (.iload 4, 2) := by decide +kernel
theorem dX11_learn_107 : decode cX11_learn 107 = .ok (.iload_n 1, 1) := by decide +kernel
theorem dX11_learn_108 : decode cX11_learn 108 = .ok (.if_icmp .ge 46, 3) := by decide +kernel
theorem dX11_learn_111 : decode cX11_learn 111 = .ok (.iload_n 3, 1) := by decide +kernel
theorem dX11_learn_112 : decode cX11_learn 112 = .ok (.ifCond .ne 42, 3) := by decide +kernel
theorem dX11_learn_115 : decode cX11_learn 115 = .ok (.aload_n 0, 1) := by decide +kernel
theorem dX11_learn_116 : decode cX11_learn 116 = .ok (.aload_n 0, 1) := by decide +kernel
theorem dX11_learn_117 : decode cX11_learn 117 = .ok (.getfield 71, 3) := by decide +kernel
theorem dX11_learn_120 : decode cX11_learn 120 = .ok (.iload 4, 2) := by decide +kernel
theorem dX11_learn_122 : decode cX11_learn 122 = .ok (.iaload, 1) := by decide +kernel
theorem dX11_learn_123 : decode cX11_learn 123 = .ok (.iload_n 2, 1) := by decide +kernel
theorem dX11_learn_124 : decode cX11_learn 124 = .ok (.invokevirtual 180, 3) := by decide +kernel
theorem dX11_learn_127 : decode cX11_learn 127 = .ok (.aload_n 0, 1) := by decide +kernel
theorem dX11_learn_128 : decode cX11_learn 128 = .ok (.invokevirtual 183, 3) := by decide +kernel
theorem dX11_learn_131 : decode cX11_learn 131 = .ok (.ifCond .ne 7, 3) := by decide +kernel
theorem dX11_learn_134 : decode cX11_learn 134 = .ok (.iconst 1, 1) := by decide +kernel
theorem dX11_learn_135 : decode cX11_learn 135 = .ok (.goto 4, 3) := by decide +kernel
theorem dX11_learn_138 : decode cX11_learn 138 = .ok (.iconst 0, 1) := by decide +kernel
theorem dX11_learn_139 : decode cX11_learn 139 = .ok (.istore_n 3, 1) := by decide +kernel
theorem dX11_learn_140 : decode cX11_learn 140 = .ok (.iload_n 3, 1) := by decide +kernel
theorem dX11_learn_141 : decode cX11_learn 141 = .ok (.ifCond .ne 7, 3) := by decide +kernel
theorem dX11_learn_144 : decode cX11_learn 144 = .ok (.aload_n 0, 1) := by decide +kernel
theorem dX11_learn_145 : decode cX11_learn 145 = .ok (.invokevirtual 187, 3) := by decide +kernel
theorem dX11_learn_148 : decode cX11_learn 148 = .ok (.iinc 4 1, 3) := by decide +kernel
theorem dX11_learn_151 : decode cX11_learn 151 = .ok (.goto (-46), 3) := by decide +kernel
theorem dX11_learn_154 : decode cX11_learn 154 = .ok (.iload_n 3, 1) := by decide +kernel
theorem dX11_learn_155 : decode cX11_learn 155 = .ok (.ifCond .eq 6, 3) := by decide +kernel
theorem dX11_learn_158 : decode cX11_learn 158 = .ok (.goto 21, 3) := by decide +kernel
theorem dX11_learn_161 : decode cX11_learn 161 = .ok (.iload_n 1, 1) := by decide +kernel
theorem dX11_learn_162 : decode cX11_learn 162 = .ok (.bipush 30, 2) := by decide +kernel
theorem dX11_learn_164 : decode cX11_learn 164 = .ok (.if_icmp .ne 5, 3) := by decide +kernel
theorem dX11_learn_167 : decode cX11_learn 167 = .ok (.iconst (-1), 1) := by decide +kernel
theorem dX11_learn_168 : decode cX11_learn 168 = .ok (.ireturn, 1) := by decide +kernel
theorem dX11_learn_169 : decode cX11_learn 169 = .ok (.aload_n 0, 1) := by decide +kernel
theorem dX11_learn_170 : decode cX11_learn 170 = .ok (.getfield 71, 3) := by decide +kernel
theorem dX11_learn_173 : decode cX11_learn 173 = .ok (.iload_n 1, 1) := by decide +kernel
theorem dX11_learn_174 : decode cX11_learn 174 = .ok (.iload_n 2, 1) := by decide +kernel
theorem dX11_learn_175 : decode cX11_learn 175 = .ok (.iastore, 1) := by decide +kernel
theorem dX11_learn_176 : decode cX11_learn 176 = .ok (.iinc 1 1, 3) := by decide +kernel
theorem dX11_learn_179 : decode cX11_learn 179 = .ok (.iinc 2 1, 3) := by decide +kernel
theorem dX11_learn_182 : decode cX11_learn 182 = .ok (.goto (-103), 3) := by decide +kernel
theorem dX11_learn_185 : decode cX11_learn 185 = .ok (.aload_n 0, 1) := by decide +kernel
theorem dX11_learn_186 : decode cX11_learn 186 = .ok (.iload_n 1, 1) := by decide +kernel
theorem dX11_learn_187 : decode cX11_learn 187 = .ok (.putfield 126, 3) := by decide +kernel
theorem dX11_learn_190 : decode cX11_learn 190 = .ok (.iconst 0, 1) := by decide +kernel
theorem dX11_learn_191 : decode cX11_learn 191 = .ok (.istore_n 2, 1) := by decide +kernel
theorem dX11_learn_192 : decode cX11_learn 192 = .ok (.iload_n 2, 1) := by decide +kernel
theorem dX11_learn_193 : decode cX11_learn 193 = .ok (.iload_n 1, 1) := by decide +kernel
theorem dX11_learn_194 : decode cX11_learn 194 = .ok (.if_icmp .ge 84, 3) := by decide +kernel
theorem dX11_learn_197 : decode cX11_learn 197 = .ok (.iconst 0, 1) := by decide +kernel
theorem dX11_learn_198 : decode cX11_learn 198 = .ok (.istore_n 3, 1) := by decide +kernel
theorem dX11_learn_199 : decode cX11_learn 199 = .ok (.iload_n 3, 1) := by decide +kernel
theorem dX11_learn_200 : decode cX11_learn 200 = .ok (.bipush 8, 2) := by decide +kernel
theorem dX11_learn_202 : decode cX11_learn 202 = .ok (.if_icmp .ge 70, 3) := by decide +kernel
theorem dX11_learn_205 : decode cX11_learn 205 = .ok (.aload_n 0, 1) := by decide +kernel
theorem dX11_learn_206 : decode cX11_learn 206 = .ok (.getfield 68, 3) := by decide +kernel
theorem dX11_learn_209 : decode cX11_learn 209 = .ok (.bipush 8, 2) := by decide +kernel
theorem dX11_learn_211 : decode cX11_learn 211 = .ok (.iload_n 2, 1) := by decide +kernel
theorem dX11_learn_212 : decode cX11_learn 212 = .ok (.imul, 1) := by decide +kernel
theorem dX11_learn_213 : decode cX11_learn 213 = .ok (.iload_n 3, 1) := by decide +kernel
theorem dX11_learn_214 : decode cX11_learn 214 = .ok (.iadd, 1) := by decide +kernel
theorem dX11_learn_215 : decode cX11_learn 215 = .ok (.iconst 0, 1) := by decide +kernel
theorem dX11_learn_216 : decode cX11_learn 216 = .ok (.iastore, 1) := by decide +kernel
theorem dX11_learn_217 : decode cX11_learn 217 = .ok (.aload_n 0, 1) := by decide +kernel
theorem dX11_learn_218 : decode cX11_learn 218 = .ok (.getfield 50, 3) := by decide +kernel
theorem dX11_learn_221 : decode cX11_learn 221 = .ok (.bipush 8, 2) := by decide +kernel
theorem dX11_learn_223 : decode cX11_learn 223 = .ok (.aload_n 0, 1) := by decide +kernel
theorem dX11_learn_224 : decode cX11_learn 224 = .ok (.getfield 71, 3) := by decide +kernel
theorem dX11_learn_227 : decode cX11_learn 227 = .ok (.iload_n 2, 1) := by decide +kernel
theorem dX11_learn_228 : decode cX11_learn 228 = .ok (.iaload, 1) := by decide +kernel
theorem dX11_learn_229 : decode cX11_learn 229 = .ok (.imul, 1) := by decide +kernel
theorem dX11_learn_230 : decode cX11_learn 230 = .ok (.iload_n 3, 1) := by decide +kernel
theorem dX11_learn_231 : decode cX11_learn 231 = .ok (.iadd, 1) := by decide +kernel
theorem dX11_learn_232 : decode cX11_learn 232 = .ok (.iaload, 1) := by decide +kernel
theorem dX11_learn_233 : decode cX11_learn 233 = .ok (.istore 4, 2) := by decide +kernel
theorem dX11_learn_235 : decode cX11_learn 235 = .ok (.aload_n 0, 1) := by decide +kernel
theorem dX11_learn_236 : decode cX11_learn 236 = .ok (.getfield 65, 3) := by decide +kernel
theorem dX11_learn_239 : decode cX11_learn 239 = .ok (.bipush 8, 2) := by decide +kernel
theorem dX11_learn_241 : decode cX11_learn 241 = .ok (.iload_n 2, 1) := by decide +kernel
theorem dX11_learn_242 : decode cX11_learn 242 = .ok (.imul, 1) := by decide +kernel
theorem dX11_learn_243 : decode cX11_learn 243 = .ok (.iload_n 3, 1) := by decide +kernel
theorem dX11_learn_244 : decode cX11_learn 244 = .ok (.iadd, 1) := by decide +kernel
theorem dX11_learn_245 : decode cX11_learn 245 = .ok (.iload 4, 2) := by decide +kernel
theorem dX11_learn_247 : decode cX11_learn 247 = .ok (.ifCond .ge 7, 3) := by decide +kernel
theorem dX11_learn_250 : decode cX11_learn 250 = .ok (.iconst (-1), 1) := by decide +kernel
theorem dX11_learn_251 : decode cX11_learn 251 = .ok (.goto 14, 3) := by decide +kernel
theorem dX11_learn_254 : decode cX11_learn 254 = .ok (.aload_n 0, 1) := by decide +kernel
theorem dX11_learn_255 : decode cX11_learn 255 = .ok (.aload_n 0, 1) := by decide +kernel
theorem dX11_learn_256 : decode cX11_learn 256 = .ok (.iload 4, 2) := by decide +kernel
theorem dX11_learn_258 : decode cX11_learn 258 = .ok (.invokevirtual 170, 3) := by decide +kernel
theorem dX11_learn_261 : decode cX11_learn 261 = .ok (.iload_n 1, 1) := by decide +kernel
theorem dX11_learn_262 : decode cX11_learn 262 = .ok (.invokevirtual 190, 3) := by decide +kernel
theorem dX11_learn_265 : decode cX11_learn 265 = .ok (.iastore, 1) := by decide +kernel
theorem dX11_learn_266 : decode cX11_learn 266 = .ok (.iinc 3 1, 3) := by decide +kernel
theorem dX11_learn_269 : decode cX11_learn 269 = .ok (.goto (-70), 3) := by decide +kernel
theorem dX11_learn_272 : decode cX11_learn 272 = .ok (.iinc 2 1, 3) := by decide +kernel
theorem dX11_learn_275 : decode cX11_learn 275 = .ok (.goto (-83), 3) := by decide +kernel
theorem dX11_learn_278 : decode cX11_learn 278 = .ok (.iconst 0, 1) := by decide +kernel
theorem dX11_learn_279 : decode cX11_learn 279 = .ok (.istore_n 2, 1) := by decide +kernel
theorem dX11_learn_280 : decode cX11_learn 280 = .ok (.iload_n 2, 1) := by decide +kernel
theorem dX11_learn_281 : decode cX11_learn 281 = .ok (.aload_n 0, 1) := by decide +kernel
theorem dX11_learn_282 : decode cX11_learn 282 = .ok (.getfield 147, 3) := by decide +kernel
theorem dX11_learn_285 : decode cX11_learn 285 = .ok (.if_icmp .ge 69, 3) := by decide +kernel
theorem dX11_learn_288 : decode cX11_learn 288 = .ok (.iconst 0, 1) := by decide +kernel
theorem dX11_learn_289 : decode cX11_learn 289 = .ok (.istore_n 3, 1) := by decide +kernel
theorem dX11_learn_290 : decode cX11_learn 290 = .ok (.iconst 0, 1) := by decide +kernel
theorem dX11_learn_291 : decode cX11_learn 291 = .ok (.istore 4, 2) := by decide +kernel
theorem dX11_learn_293 : decode cX11_learn 293 = .ok (.iload 4, 2) := by decide +kernel
theorem dX11_learn_295 : decode cX11_learn 295 = .ok (.aload_n 0, 1) := by decide +kernel
theorem dX11_learn_296 : decode cX11_learn 296 = .ok (.getfield 26, 3) := by decide +kernel
theorem dX11_learn_299 : decode cX11_learn 299 = .ok (.iload_n 2, 1) := by decide +kernel
theorem dX11_learn_300 : decode cX11_learn 300 = .ok (.iaload, 1) := by decide +kernel
theorem dX11_learn_301 : decode cX11_learn 301 = .ok (.if_icmp .ge 47, 3) := by decide +kernel
theorem dX11_learn_304 : decode cX11_learn 304 = .ok (.bipush 8, 2) := by decide +kernel
theorem dX11_learn_306 : decode cX11_learn 306 = .ok (.iload_n 3, 1) := by decide +kernel
theorem dX11_learn_307 : decode cX11_learn 307 = .ok (.imul, 1) := by decide +kernel
theorem dX11_learn_308 : decode cX11_learn 308 = .ok (.aload_n 0, 1) := by decide +kernel
theorem dX11_learn_309 : decode cX11_learn 309 = .ok (.getfield 13, 3) := by decide +kernel
theorem dX11_learn_312 : decode cX11_learn 312 = .ok (.bipush 12, 2) := by decide +kernel
theorem dX11_learn_314 : decode cX11_learn 314 = .ok (.iload_n 2, 1) := by decide +kernel
theorem dX11_learn_315 : decode cX11_learn 315 = .ok (.imul, 1) := by decide +kernel
theorem dX11_learn_316 : decode cX11_learn 316 = .ok (.iload 4, 2) := by decide +kernel
theorem dX11_learn_318 : decode cX11_learn 318 = .ok (.iadd, 1) := by decide +kernel
theorem dX11_learn_319 : decode cX11_learn 319 = .ok (.iaload, 1) := by decide +kernel
theorem dX11_learn_320 : decode cX11_learn 320 = .ok (.iadd, 1) := by decide +kernel
theorem dX11_learn_321 : decode cX11_learn 321 = .ok (.istore 5, 2) := by decide +kernel
theorem dX11_learn_323 : decode cX11_learn 323 = .ok (.aload_n 0, 1) := by decide +kernel
theorem dX11_learn_324 : decode cX11_learn 324 = .ok (.getfield 68, 3) := by decide +kernel
theorem dX11_learn_327 : decode cX11_learn 327 = .ok (.iload 5, 2) := by decide +kernel
theorem dX11_learn_329 : decode cX11_learn 329 = .ok (.dup2, 1) := by decide +kernel
theorem dX11_learn_330 : decode cX11_learn 330 = .ok (.iaload, 1) := by decide +kernel
theorem dX11_learn_331 : decode cX11_learn 331 = .ok (.iconst 1, 1) := by decide +kernel
theorem dX11_learn_332 : decode cX11_learn 332 = .ok (.iadd, 1) := by decide +kernel
theorem dX11_learn_333 : decode cX11_learn 333 = .ok (.iastore, 1) := by decide +kernel
theorem dX11_learn_334 : decode cX11_learn 334 = .ok (.aload_n 0, 1) := by decide +kernel
theorem dX11_learn_335 : decode cX11_learn 335 = .ok (.getfield 65, 3) := by decide +kernel
theorem dX11_learn_338 : decode cX11_learn 338 = .ok (.iload 5, 2) := by decide +kernel
theorem dX11_learn_340 : decode cX11_learn 340 = .ok (.iaload, 1) := by decide +kernel
theorem dX11_learn_341 : decode cX11_learn 341 = .ok (.istore_n 3, 1) := by decide +kernel
theorem dX11_learn_342 : decode cX11_learn 342 = .ok (.iinc 4 1, 3) := by decide +kernel
theorem dX11_learn_345 : decode cX11_learn 345 = .ok (.goto (-52), 3) := by decide +kernel
theorem dX11_learn_348 : decode cX11_learn 348 = .ok (.iinc 2 1, 3) := by decide +kernel
theorem dX11_learn_351 : decode cX11_learn 351 = .ok (.goto (-71), 3) := by decide +kernel
theorem dX11_learn_354 : decode cX11_learn 354 = .ok (.aload_n 0, 1) := by decide +kernel
theorem dX11_learn_355 : decode cX11_learn 355 = .ok (.getfield 126, 3) := by decide +kernel
theorem dX11_learn_358 : decode cX11_learn 358 = .ok (.ireturn, 1) := by decide +kernel
theorem dX11_placeOf_0 : decode cX11_placeOf 0 = .ok (.iconst 0, 1) := by decide +kernel
theorem dX11_placeOf_1 : decode cX11_placeOf 1 = .ok (.istore_n 3, 1) := by decide +kernel
theorem dX11_placeOf_2 : decode cX11_placeOf 2 = .ok (.iload_n 3, 1) := by decide +kernel
theorem dX11_placeOf_3 : decode cX11_placeOf 3 = .ok (.iload_n 2, 1) := by decide +kernel
theorem dX11_placeOf_4 : decode cX11_placeOf 4 = .ok (.if_icmp .ge 19, 3) := by decide +kernel
theorem dX11_placeOf_7 : decode cX11_placeOf 7 = .ok (.aload_n 0, 1) := by decide +kernel
theorem dX11_placeOf_8 : decode cX11_placeOf 8 = .ok (.getfield 71, 3) := by decide +kernel
theorem dX11_placeOf_11 : decode cX11_placeOf 11 = .ok (.iload_n 3, 1) := by decide +kernel
theorem dX11_placeOf_12 : decode cX11_placeOf 12 = .ok (.iaload, 1) := by decide +kernel
theorem dX11_placeOf_13 : decode cX11_placeOf 13 = .ok (.iload_n 1, 1) := by decide +kernel
theorem dX11_placeOf_14 : decode cX11_placeOf 14 = .ok (.if_icmp .eq 9, 3) := by decide +kernel
theorem dX11_placeOf_17 : decode cX11_placeOf 17 = .ok (.iinc 3 1, 3) := by decide +kernel
theorem dX11_placeOf_20 : decode cX11_placeOf 20 = .ok (.goto (-18), 3) := by decide +kernel
theorem dX11_placeOf_23 : decode cX11_placeOf 23 = .ok (.iload_n 3, 1) := by decide +kernel
theorem dX11_placeOf_24 : decode cX11_placeOf 24 = .ok (.ireturn, 1) := by decide +kernel
theorem dX11_isStep_0 : decode cX11_isStep 0 = .ok (.aload_n 0, 1) := by decide +kernel
theorem dX11_isStep_1 : decode cX11_isStep 1 = .ok (.iload_n 1, 1) := by decide +kernel
theorem dX11_isStep_2 : decode cX11_isStep 2 = .ok (.ifCond .lt 11, 3) := by decide +kernel
theorem dX11_isStep_5 : decode cX11_isStep 5 = .ok (.iload_n 1, 1) := by decide +kernel
theorem dX11_isStep_6 : decode cX11_isStep 6 = .ok (.aload_n 0, 1) := by decide +kernel
theorem dX11_isStep_7 : decode cX11_isStep 7 = .ok (.getfield 126, 3) := by decide +kernel
theorem dX11_isStep_10 : decode cX11_isStep 10 = .ok (.if_icmp .lt 7, 3) := by decide +kernel
theorem dX11_isStep_13 : decode cX11_isStep 13 = .ok (.iconst 1, 1) := by decide +kernel
theorem dX11_isStep_14 : decode cX11_isStep 14 = .ok (.goto 15, 3) := by decide +kernel
theorem dX11_isStep_17 : decode cX11_isStep 17 = .ok (.iload_n 2, 1) := by decide +kernel
theorem dX11_isStep_18 : decode cX11_isStep 18 = .ok (.invokestatic 136, 3) := by decide +kernel
theorem dX11_isStep_21 : decode cX11_isStep 21 = .ok (.ifCond .ne 7, 3) := by decide +kernel
theorem dX11_isStep_24 : decode cX11_isStep 24 = .ok (.iconst 2, 1) := by decide +kernel
theorem dX11_isStep_25 : decode cX11_isStep 25 = .ok (.goto 4, 3) := by decide +kernel
theorem dX11_isStep_28 : decode cX11_isStep 28 = .ok (.iconst 0, 1) := by decide +kernel
theorem dX11_isStep_29 : decode cX11_isStep 29 = .ok (.putfield 133, 3) := by decide +kernel
theorem dX11_isStep_32 : decode cX11_isStep 32 = .ok (.aload_n 0, 1) := by decide +kernel
theorem dX11_isStep_33 : decode cX11_isStep 33 = .ok (.getfield 133, 3) := by decide +kernel
theorem dX11_isStep_36 : decode cX11_isStep 36 = .ok (.ifCond .ne 7, 3) := by decide +kernel
theorem dX11_isStep_39 : decode cX11_isStep 39 = .ok (.iconst 1, 1) := by decide +kernel
theorem dX11_isStep_40 : decode cX11_isStep 40 = .ok (.goto 4, 3) := by decide +kernel
theorem dX11_isStep_43 : decode cX11_isStep 43 = .ok (.iconst 0, 1) := by decide +kernel
theorem dX11_isStep_44 : decode cX11_isStep 44 = .ok (.ireturn, 1) := by decide +kernel
theorem dX11_step_0 : decode cX11_step 0 = .ok (.aload_n 0, 1) := by decide +kernel
theorem dX11_step_1 : decode cX11_step 1 = .ok (.iload_n 1, 1) := by decide +kernel
theorem dX11_step_2 : decode cX11_step 2 = .ok (.iload_n 2, 1) := by decide +kernel
theorem dX11_step_3 : decode cX11_step 3 = .ok (.invokevirtual 194, 3) := by decide +kernel
theorem dX11_step_6 : decode cX11_step 6 = .ok (.ifCond .eq 17, 3) := by decide +kernel
theorem dX11_step_9 : decode cX11_step 9 = .ok (.aload_n 0, 1) := by decide +kernel
theorem dX11_step_10 : decode cX11_step 10 = .ok (.getfield 65, 3) := by decide +kernel
theorem dX11_step_13 : decode cX11_step 13 = .ok (.bipush 8, 2) := by decide +kernel
theorem dX11_step_15 : decode cX11_step 15 = .ok (.iload_n 1, 1) := by decide +kernel
theorem dX11_step_16 : decode cX11_step 16 = .ok (.imul, 1) := by decide +kernel
theorem dX11_step_17 : decode cX11_step 17 = .ok (.iload_n 2, 1) := by decide +kernel
theorem dX11_step_18 : decode cX11_step 18 = .ok (.iadd, 1) := by decide +kernel
theorem dX11_step_19 : decode cX11_step 19 = .ok (.iaload, 1) := by decide +kernel
theorem dX11_step_20 : decode cX11_step 20 = .ok (.goto 4, 3) := by decide +kernel
theorem dX11_step_23 : decode cX11_step 23 = .ok (.iconst 0, 1) := by decide +kernel
theorem dX11_step_24 : decode cX11_step 24 = .ok (.ireturn, 1) := by decide +kernel
theorem dX11_seen_0 : decode cX11_seen 0 = .ok (.aload_n 0, 1) := by decide +kernel
theorem dX11_seen_1 : decode cX11_seen 1 = .ok (.iload_n 1, 1) := by decide +kernel
theorem dX11_seen_2 : decode cX11_seen 2 = .ok (.iload_n 2, 1) := by decide +kernel
theorem dX11_seen_3 : decode cX11_seen 3 = .ok (.invokevirtual 194, 3) := by decide +kernel
theorem dX11_seen_6 : decode cX11_seen 6 = .ok (.ifCond .eq 31, 3) := by decide +kernel
theorem dX11_seen_9 : decode cX11_seen 9 = .ok (.aload_n 0, 1) := by decide +kernel
theorem dX11_seen_10 : decode cX11_seen 10 = .ok (.getfield 65, 3) := by decide +kernel
theorem dX11_seen_13 : decode cX11_seen 13 = .ok (.bipush 8, 2) := by decide +kernel
theorem dX11_seen_15 : decode cX11_seen 15 = .ok (.iload_n 1, 1) := by decide +kernel
theorem dX11_seen_16 : decode cX11_seen 16 = .ok (.imul, 1) := by decide +kernel
theorem dX11_seen_17 : decode cX11_seen 17 = .ok (.iload_n 2, 1) := by decide +kernel
theorem dX11_seen_18 : decode cX11_seen 18 = .ok (.iadd, 1) := by decide +kernel
theorem dX11_seen_19 : decode cX11_seen 19 = .ok (.iaload, 1) := by decide +kernel
theorem dX11_seen_20 : decode cX11_seen 20 = .ok (.ifCond .lt 17, 3) := by decide +kernel
theorem dX11_seen_23 : decode cX11_seen 23 = .ok (.aload_n 0, 1) := by decide +kernel
theorem dX11_seen_24 : decode cX11_seen 24 = .ok (.getfield 68, 3) := by decide +kernel
theorem dX11_seen_27 : decode cX11_seen 27 = .ok (.bipush 8, 2) := by decide +kernel
theorem dX11_seen_29 : decode cX11_seen 29 = .ok (.iload_n 1, 1) := by decide +kernel
theorem dX11_seen_30 : decode cX11_seen 30 = .ok (.imul, 1) := by decide +kernel
theorem dX11_seen_31 : decode cX11_seen 31 = .ok (.iload_n 2, 1) := by decide +kernel
theorem dX11_seen_32 : decode cX11_seen 32 = .ok (.iadd, 1) := by decide +kernel
theorem dX11_seen_33 : decode cX11_seen 33 = .ok (.iaload, 1) := by decide +kernel
theorem dX11_seen_34 : decode cX11_seen 34 = .ok (.goto 4, 3) := by decide +kernel
theorem dX11_seen_37 : decode cX11_seen 37 = .ok (.iconst 0, 1) := by decide +kernel
theorem dX11_seen_38 : decode cX11_seen 38 = .ok (.ireturn, 1) := by decide +kernel
theorem dX11_doubt_0 : decode cX11_doubt 0 = .ok (.aload_n 0, 1) := by decide +kernel
theorem dX11_doubt_1 : decode cX11_doubt 1 = .ok (.iconst 0, 1) := by decide +kernel
theorem dX11_doubt_2 : decode cX11_doubt 2 = .ok (.putfield 133, 3) := by decide +kernel
theorem dX11_doubt_5 : decode cX11_doubt 5 = .ok (.iconst 0, 1) := by decide +kernel
theorem dX11_doubt_6 : decode cX11_doubt 6 = .ok (.istore_n 2, 1) := by decide +kernel
theorem dX11_doubt_7 : decode cX11_doubt 7 = .ok (.iconst 0, 1) := by decide +kernel
theorem dX11_doubt_8 : decode cX11_doubt 8 = .ok (.istore_n 3, 1) := by decide +kernel
theorem dX11_doubt_9 : decode cX11_doubt 9 = .ok (.iload_n 3, 1) := by decide +kernel
theorem dX11_doubt_10 : decode cX11_doubt 10 = .ok (.bipush 8, 2) := by decide +kernel
theorem dX11_doubt_12 : decode cX11_doubt 12 = .ok (.aload_n 0, 1) := by decide +kernel
theorem dX11_doubt_13 : decode cX11_doubt 13 = .ok (.getfield 126, 3) := by decide +kernel
theorem dX11_doubt_16 : decode cX11_doubt 16 = .ok (.imul, 1) := by decide +kernel
theorem dX11_doubt_17 : decode cX11_doubt 17 = .ok (.if_icmp .ge 36, 3) := by decide +kernel
theorem dX11_doubt_20 : decode cX11_doubt 20 = .ok (.iload_n 2, 1) := by decide +kernel
theorem dX11_doubt_21 : decode cX11_doubt 21 = .ok (.aload_n 0, 1) := by decide +kernel
theorem dX11_doubt_22 : decode cX11_doubt 22 = .ok (.getfield 65, 3) := by decide +kernel
theorem dX11_doubt_25 : decode cX11_doubt 25 = .ok (.iload_n 3, 1) := by decide +kernel
theorem dX11_doubt_26 : decode cX11_doubt 26 = .ok (.iaload, 1) := by decide +kernel
theorem dX11_doubt_27 : decode cX11_doubt 27 = .ok (.ifCond .lt 17, 3) := by decide +kernel
theorem dX11_doubt_30 : decode cX11_doubt 30 = .ok (.aload_n 0, 1) := by decide +kernel
theorem dX11_doubt_31 : decode cX11_doubt 31 = .ok (.getfield 68, 3) := by decide +kernel
theorem dX11_doubt_34 : decode cX11_doubt 34 = .ok (.iload_n 3, 1) := by decide +kernel
theorem dX11_doubt_35 : decode cX11_doubt 35 = .ok (.iaload, 1) := by decide +kernel
theorem dX11_doubt_36 : decode cX11_doubt 36 = .ok (.iload_n 1, 1) := by decide +kernel
theorem dX11_doubt_37 : decode cX11_doubt 37 = .ok (.if_icmp .ge 7, 3) := by decide +kernel
theorem dX11_doubt_40 : decode cX11_doubt 40 = .ok (.iconst 1, 1) := by decide +kernel
theorem dX11_doubt_41 : decode cX11_doubt 41 = .ok (.goto 4, 3) := by decide +kernel
theorem dX11_doubt_44 : decode cX11_doubt 44 = .ok (.iconst 0, 1) := by decide +kernel
theorem dX11_doubt_45 : decode cX11_doubt 45 = .ok (.iadd, 1) := by decide +kernel
theorem dX11_doubt_46 : decode cX11_doubt 46 = .ok (.istore_n 2, 1) := by decide +kernel
theorem dX11_doubt_47 : decode cX11_doubt 47 = .ok (.iinc 3 1, 3) := by decide +kernel
theorem dX11_doubt_50 : decode cX11_doubt 50 = .ok (.goto (-41), 3) := by decide +kernel
theorem dX11_doubt_53 : decode cX11_doubt 53 = .ok (.iload_n 2, 1) := by decide +kernel
theorem dX11_doubt_54 : decode cX11_doubt 54 = .ok (.ireturn, 1) := by decide +kernel
theorem dX11_takes_0 : decode cX11_takes 0 = .ok (.aload_n 0, 1) := by decide +kernel
theorem dX11_takes_1 : decode cX11_takes 1 = .ok (.iconst 0, 1) := by decide +kernel
theorem dX11_takes_2 : decode cX11_takes 2 = .ok (.putfield 133, 3) := by decide +kernel
theorem dX11_takes_5 : decode cX11_takes 5 = .ok (.iconst 0, 1) := by decide +kernel
theorem dX11_takes_6 : decode cX11_takes 6 = .ok (.istore_n 1, 1) := by decide +kernel
theorem dX11_takes_7 : decode cX11_takes 7 = .ok (.iconst 0, 1) := by decide +kernel
theorem dX11_takes_8 : decode cX11_takes 8 = .ok (.istore_n 2, 1) := by decide +kernel
theorem dX11_takes_9 : decode cX11_takes 9 = .ok (.iload_n 2, 1) := by decide +kernel
theorem dX11_takes_10 : decode cX11_takes 10 = .ok (.aload_n 0, 1) := by decide +kernel
theorem dX11_takes_11 : decode cX11_takes 11 = .ok (.getfield 144, 3) := by decide +kernel
theorem dX11_takes_14 : decode cX11_takes 14 = .ok (.if_icmp .ge 45, 3) := by decide +kernel
theorem dX11_takes_17 : decode cX11_takes 17 = .ok (.aload_n 0, 1) := by decide +kernel
theorem dX11_takes_18 : decode cX11_takes 18 = .ok (.getfield 65, 3) := by decide +kernel
theorem dX11_takes_21 : decode cX11_takes 21 = .ok (.bipush 8, 2) := by decide +kernel
theorem dX11_takes_23 : decode cX11_takes 23 = .ok (.iload_n 1, 1) := by decide +kernel
theorem dX11_takes_24 : decode cX11_takes 24 = .ok (.imul, 1) := by decide +kernel
theorem dX11_takes_25 : decode cX11_takes 25 = .ok (.aload_n 0, 1) := by decide +kernel
theorem dX11_takes_26 : decode cX11_takes 26 = .ok (.getfield 9, 3) := by decide +kernel
theorem dX11_takes_29 : decode cX11_takes 29 = .ok (.iload_n 2, 1) := by decide +kernel
theorem dX11_takes_30 : decode cX11_takes 30 = .ok (.iaload, 1) := by decide +kernel
theorem dX11_takes_31 : decode cX11_takes 31 = .ok (.iadd, 1) := by decide +kernel
theorem dX11_takes_32 : decode cX11_takes 32 = .ok (.iaload, 1) := by decide +kernel
theorem dX11_takes_33 : decode cX11_takes 33 = .ok (.ifCond .lt 26, 3) := by decide +kernel
theorem dX11_takes_36 : decode cX11_takes 36 = .ok (.aload_n 0, 1) := by decide +kernel
theorem dX11_takes_37 : decode cX11_takes 37 = .ok (.getfield 65, 3) := by decide +kernel
theorem dX11_takes_40 : decode cX11_takes 40 = .ok (.bipush 8, 2) := by decide +kernel
theorem dX11_takes_42 : decode cX11_takes 42 = .ok (.iload_n 1, 1) := by decide +kernel
theorem dX11_takes_43 : decode cX11_takes 43 = .ok (.imul, 1) := by decide +kernel
theorem dX11_takes_44 : decode cX11_takes 44 = .ok (.aload_n 0, 1) := by decide +kernel
theorem dX11_takes_45 : decode cX11_takes 45 = .ok (.getfield 9, 3) := by decide +kernel
theorem dX11_takes_48 : decode cX11_takes 48 = .ok (.iload_n 2, 1) := by decide +kernel
theorem dX11_takes_49 : decode cX11_takes 49 = .ok (.iaload, 1) := by decide +kernel
theorem dX11_takes_50 : decode cX11_takes 50 = .ok (.iadd, 1) := by decide +kernel
theorem dX11_takes_51 : decode cX11_takes 51 = .ok (.iaload, 1) := by decide +kernel
theorem dX11_takes_52 : decode cX11_takes 52 = .ok (.istore_n 1, 1) := by decide +kernel
theorem dX11_takes_53 : decode cX11_takes 53 = .ok (.iinc 2 1, 3) := by decide +kernel
theorem dX11_takes_56 : decode cX11_takes 56 = .ok (.goto (-47), 3) := by decide +kernel
theorem dX11_takes_59 : decode cX11_takes 59 = .ok (.iload_n 2, 1) := by decide +kernel
theorem dX11_takes_60 : decode cX11_takes 60 = .ok (.ireturn, 1) := by decide +kernel
theorem dX11_least_0 : decode cX11_least 0 = .ok (.aload_n 0, 1) := by decide +kernel
theorem dX11_least_1 : decode cX11_least 1 = .ok (.iconst 0, 1) := by decide +kernel
theorem dX11_least_2 : decode cX11_least 2 = .ok (.putfield 133, 3) := by decide +kernel
theorem dX11_least_5 : decode cX11_least 5 = .ok (.aload_n 0, 1) := by decide +kernel
theorem dX11_least_6 : decode cX11_least 6 = .ok (.invokevirtual 177, 3) := by decide +kernel
theorem dX11_least_9 : decode cX11_least 9 = .ok (.aload_n 0, 1) := by decide +kernel
theorem dX11_least_10 : decode cX11_least 10 = .ok (.getfield 164, 3) := by decide +kernel
theorem dX11_least_13 : decode cX11_least 13 = .ok (.bipush 16, 2) := by decide +kernel
theorem dX11_least_15 : decode cX11_least 15 = .ok (.if_icmp .le 5, 3) := by decide +kernel
theorem dX11_least_18 : decode cX11_least 18 = .ok (.iconst (-1), 1) := by decide +kernel
theorem dX11_least_19 : decode cX11_least 19 = .ok (.ireturn, 1) := by decide +kernel
theorem dX11_least_20 : decode cX11_least 20 = .ok (.iconst 1, 1) := by decide +kernel
theorem dX11_least_21 : decode cX11_least 21 = .ok (.istore_n 1, 1) := by decide +kernel
theorem dX11_least_22 : decode cX11_least 22 = .ok (.iload_n 1, 1) := by decide +kernel
theorem dX11_least_23 : decode cX11_least 23 = .ok (.iconst 4, 1) := by decide +kernel
theorem dX11_least_24 : decode cX11_least 24 = .ok (.if_icmp .ge 56, 3) := by decide +kernel
theorem dX11_least_27 : decode cX11_least 27 = .ok (.iconst 0, 1) := by decide +kernel
theorem dX11_least_28 : decode cX11_least 28 = .ok (.istore_n 2, 1) := by decide +kernel
theorem dX11_least_29 : decode cX11_least 29 = .ok (.iload_n 2, 1) := by decide +kernel
theorem dX11_least_30 : decode cX11_least 30 = .ok (.bipush 24, 2) := by decide +kernel
theorem dX11_least_32 : decode cX11_least 32 = .ok (.if_icmp .ge 16, 3) := by decide +kernel
theorem dX11_least_35 : decode cX11_least 35 = .ok (.aload_n 0, 1) := by decide +kernel
theorem dX11_least_36 : decode cX11_least 36 = .ok (.getfield 77, 3) := by decide +kernel
theorem dX11_least_39 : decode cX11_least 39 = .ok (.iload_n 2, 1) := by decide +kernel
theorem dX11_least_40 : decode cX11_least 40 = .ok (.iconst (-1), 1) := by decide +kernel
theorem dX11_least_41 : decode cX11_least 41 = .ok (.iastore, 1) := by decide +kernel
theorem dX11_least_42 : decode cX11_least 42 = .ok (.iinc 2 1, 3) := by decide +kernel
theorem dX11_least_45 : decode cX11_least 45 = .ok (.goto (-16), 3) := by decide +kernel
theorem dX11_least_48 : decode cX11_least 48 = .ok (.aload_n 0, 1) := by decide +kernel
theorem dX11_least_49 : decode cX11_least 49 = .ok (.getfield 74, 3) := by decide +kernel
theorem dX11_least_52 : decode cX11_least 52 = .ok (.iconst 0, 1) := by decide +kernel
theorem dX11_least_53 : decode cX11_least 53 = .ok (.iconst 0, 1) := by decide +kernel
theorem dX11_least_54 : decode cX11_least 54 = .ok (.iastore, 1) := by decide +kernel
theorem dX11_least_55 : decode cX11_least 55 = .ok (.aload_n 0, 1) := by decide +kernel
theorem dX11_least_56 : decode cX11_least 56 = .ok (.invokevirtual 197, 3) := by decide +kernel
theorem dX11_least_59 : decode cX11_least 59 = .ok (.ifCond .ne 15, 3) := by decide +kernel
theorem dX11_least_62 : decode cX11_least 62 = .ok (.aload_n 0, 1) := by decide +kernel
theorem dX11_least_63 : decode cX11_least 63 = .ok (.iconst 1, 1) := by decide +kernel
theorem dX11_least_64 : decode cX11_least 64 = .ok (.iload_n 1, 1) := by decide +kernel
theorem dX11_least_65 : decode cX11_least 65 = .ok (.iconst 1, 1) := by decide +kernel
theorem dX11_least_66 : decode cX11_least 66 = .ok (.invokevirtual 200, 3) := by decide +kernel
theorem dX11_least_69 : decode cX11_least 69 = .ok (.ifCond .eq 5, 3) := by decide +kernel
theorem dX11_least_72 : decode cX11_least 72 = .ok (.iload_n 1, 1) := by decide +kernel
theorem dX11_least_73 : decode cX11_least 73 = .ok (.ireturn, 1) := by decide +kernel
theorem dX11_least_74 : decode cX11_least 74 = .ok (.iinc 1 1, 3) := by decide +kernel
theorem dX11_least_77 : decode cX11_least 77 = .ok (.goto (-55), 3) := by decide +kernel
theorem dX11_least_80 : decode cX11_least 80 = .ok (.iconst 4, 1) := by decide +kernel
theorem dX11_least_81 : decode cX11_least 81 = .ok (.ireturn, 1) := by decide +kernel
theorem dX11_isWrongTaken_0 : decode cX11_isWrongTaken 0 = .ok (.iconst 0, 1) := by decide +kernel
theorem dX11_isWrongTaken_1 : decode cX11_isWrongTaken 1 = .ok (.istore_n 1, 1) := by decide +kernel
theorem dX11_isWrongTaken_2 : decode cX11_isWrongTaken 2 = .ok (.iload_n 1, 1) := by decide +kernel
theorem dX11_isWrongTaken_3 : decode cX11_isWrongTaken 3 = .ok (.aload_n 0, 1) := by decide +kernel
theorem dX11_isWrongTaken_4 : decode cX11_isWrongTaken 4 = .ok (.getfield 147, 3) := by decide +kernel
theorem dX11_isWrongTaken_7 : decode cX11_isWrongTaken 7 = .ok (.if_icmp .ge 99, 3) := by decide +kernel
theorem dX11_isWrongTaken_10 : decode cX11_isWrongTaken 10 = .ok (.aload_n 0, 1) := by decide +kernel
theorem dX11_isWrongTaken_11 : decode cX11_isWrongTaken 11 = .ok (.getfield 29, 3) := by decide +kernel
theorem dX11_isWrongTaken_14 : decode cX11_isWrongTaken 14 = .ok (.iload_n 1, 1) := by decide +kernel
theorem dX11_isWrongTaken_15 : decode cX11_isWrongTaken 15 = .ok (.baload, 1) := by decide +kernel
theorem dX11_isWrongTaken_16 : decode cX11_isWrongTaken 16 = .ok (.ifCond .ne 6, 3) := by decide +kernel
theorem dX11_isWrongTaken_19 : decode cX11_isWrongTaken 19 = .ok (.goto 81, 3) := by decide +kernel
theorem dX11_isWrongTaken_22 : decode cX11_isWrongTaken 22 = .ok (.iconst 0, 1) := by decide +kernel
theorem dX11_isWrongTaken_23 : decode cX11_isWrongTaken 23 = .ok (.istore_n 2, 1) := by decide +kernel
theorem dX11_isWrongTaken_24 : decode cX11_isWrongTaken 24 = .ok (.iconst 0, 1) := by decide +kernel
theorem dX11_isWrongTaken_25 : decode cX11_isWrongTaken 25 = .ok (.istore_n 3, 1) := by decide +kernel
theorem dX11_isWrongTaken_26 : decode cX11_isWrongTaken 26 = .ok (.iload_n 3, 1) := by decide +kernel
theorem dX11_isWrongTaken_27 : decode cX11_isWrongTaken 27 = .ok (.aload_n 0, 1) := by decide +kernel
theorem dX11_isWrongTaken_28 : decode cX11_isWrongTaken 28 = .ok (.getfield 16, 3) := by decide +kernel
theorem dX11_isWrongTaken_31 : decode cX11_isWrongTaken 31 = .ok (.iload_n 1, 1) := by decide +kernel
theorem dX11_isWrongTaken_32 : decode cX11_isWrongTaken 32 = .ok (.iaload, 1) := by decide +kernel
theorem dX11_isWrongTaken_33 : decode cX11_isWrongTaken 33 = .ok (.if_icmp .ge 55, 3) := by decide +kernel
theorem dX11_isWrongTaken_36 : decode cX11_isWrongTaken 36 = .ok (.aload_n 0, 1) := by decide +kernel
theorem dX11_isWrongTaken_37 : decode cX11_isWrongTaken 37 = .ok (.getfield 77, 3) := by decide +kernel
theorem dX11_isWrongTaken_40 : decode cX11_isWrongTaken 40 = .ok (.bipush 8, 2) := by decide +kernel
theorem dX11_isWrongTaken_42 : decode cX11_isWrongTaken 42 = .ok (.iload_n 2, 1) := by decide +kernel
theorem dX11_isWrongTaken_43 : decode cX11_isWrongTaken 43 = .ok (.imul, 1) := by decide +kernel
theorem dX11_isWrongTaken_44 : decode cX11_isWrongTaken 44 = .ok (.aload_n 0, 1) := by decide +kernel
theorem dX11_isWrongTaken_45 : decode cX11_isWrongTaken 45 = .ok (.getfield 13, 3) := by decide +kernel
theorem dX11_isWrongTaken_48 : decode cX11_isWrongTaken 48 = .ok (.bipush 12, 2) := by decide +kernel
theorem dX11_isWrongTaken_50 : decode cX11_isWrongTaken 50 = .ok (.iload_n 1, 1) := by decide +kernel
theorem dX11_isWrongTaken_51 : decode cX11_isWrongTaken 51 = .ok (.imul, 1) := by decide +kernel
theorem dX11_isWrongTaken_52 : decode cX11_isWrongTaken 52 = .ok (.iload_n 3, 1) := by decide +kernel
theorem dX11_isWrongTaken_53 : decode cX11_isWrongTaken 53 = .ok (.iadd, 1) := by decide +kernel
theorem dX11_isWrongTaken_54 : decode cX11_isWrongTaken 54 = .ok (.iaload, 1) := by decide +kernel
theorem dX11_isWrongTaken_55 : decode cX11_isWrongTaken 55 = .ok (.iadd, 1) := by decide +kernel
theorem dX11_isWrongTaken_56 : decode cX11_isWrongTaken 56 = .ok (.iaload, 1) := by decide +kernel
theorem dX11_isWrongTaken_57 : decode cX11_isWrongTaken 57 = .ok (.ifCond .lt 31, 3) := by decide +kernel
theorem dX11_isWrongTaken_60 : decode cX11_isWrongTaken 60 = .ok (.aload_n 0, 1) := by decide +kernel
theorem dX11_isWrongTaken_61 : decode cX11_isWrongTaken 61 = .ok (.getfield 77, 3) := by decide +kernel
theorem dX11_isWrongTaken_64 : decode cX11_isWrongTaken 64 = .ok (.bipush 8, 2) := by decide +kernel
theorem dX11_isWrongTaken_66 : decode cX11_isWrongTaken 66 = .ok (.iload_n 2, 1) := by decide +kernel
theorem dX11_isWrongTaken_67 : decode cX11_isWrongTaken 67 = .ok (.imul, 1) := by decide +kernel
theorem dX11_isWrongTaken_68 : decode cX11_isWrongTaken 68 = .ok (.aload_n 0, 1) := by decide +kernel
theorem dX11_isWrongTaken_69 : decode cX11_isWrongTaken 69 = .ok (.getfield 13, 3) := by decide +kernel
theorem dX11_isWrongTaken_72 : decode cX11_isWrongTaken 72 = .ok (.bipush 12, 2) := by decide +kernel
theorem dX11_isWrongTaken_74 : decode cX11_isWrongTaken 74 = .ok (.iload_n 1, 1) := by decide +kernel
theorem dX11_isWrongTaken_75 : decode cX11_isWrongTaken 75 = .ok (.imul, 1) := by decide +kernel
theorem dX11_isWrongTaken_76 : decode cX11_isWrongTaken 76 = .ok (.iload_n 3, 1) := by decide +kernel
theorem dX11_isWrongTaken_77 : decode cX11_isWrongTaken 77 = .ok (.iadd, 1) := by decide +kernel
theorem dX11_isWrongTaken_78 : decode cX11_isWrongTaken 78 = .ok (.iaload, 1) := by decide +kernel
theorem dX11_isWrongTaken_79 : decode cX11_isWrongTaken 79 = .ok (.iadd, 1) := by decide +kernel
theorem dX11_isWrongTaken_80 : decode cX11_isWrongTaken 80 = .ok (.iaload, 1) := by decide +kernel
theorem dX11_isWrongTaken_81 : decode cX11_isWrongTaken 81 = .ok (.istore_n 2, 1) := by decide +kernel
theorem dX11_isWrongTaken_82 : decode cX11_isWrongTaken 82 = .ok (.iinc 3 1, 3) := by decide +kernel
theorem dX11_isWrongTaken_85 : decode cX11_isWrongTaken 85 = .ok (.goto (-59), 3) := by decide +kernel
theorem dX11_isWrongTaken_88 : decode cX11_isWrongTaken 88 = .ok (.iload_n 3, 1) := by decide +kernel
theorem dX11_isWrongTaken_89 : decode cX11_isWrongTaken 89 = .ok (.aload_n 0, 1) := by decide +kernel
theorem dX11_isWrongTaken_90 : decode cX11_isWrongTaken 90 = .ok (.getfield 16, 3) := by decide +kernel
theorem dX11_isWrongTaken_93 : decode cX11_isWrongTaken 93 = .ok (.iload_n 1, 1) := by decide +kernel
theorem dX11_isWrongTaken_94 : decode cX11_isWrongTaken 94 = .ok (.iaload, 1) := by decide +kernel
theorem dX11_isWrongTaken_95 : decode cX11_isWrongTaken 95 = .ok (.if_icmp .ne 5, 3) := by decide +kernel
theorem dX11_isWrongTaken_98 : decode cX11_isWrongTaken 98 = .ok (.iconst 1, 1) := by decide +kernel
theorem dX11_isWrongTaken_99 : decode cX11_isWrongTaken 99 = .ok (.ireturn, 1) := by decide +kernel
theorem dX11_isWrongTaken_100 : decode cX11_isWrongTaken 100 = .ok (.iinc 1 1, 3) := by decide +kernel
theorem dX11_isWrongTaken_103 : decode cX11_isWrongTaken 103 = .ok (.goto (-101), 3) := by decide +kernel
theorem dX11_isWrongTaken_106 : decode cX11_isWrongTaken 106 = .ok (.iconst 0, 1) := by decide +kernel
theorem dX11_isWrongTaken_107 : decode cX11_isWrongTaken 107 = .ok (.ireturn, 1) := by decide +kernel
theorem dX11_can_0 : decode cX11_can 0 = .ok (.iload_n 1, 1) := by decide +kernel
theorem dX11_can_1 : decode cX11_can 1 = .ok (.aload_n 0, 1) := by decide +kernel
theorem dX11_can_2 : decode cX11_can 2 = .ok (.getfield 164, 3) := by decide +kernel
theorem dX11_can_5 : decode cX11_can 5 = .ok (.if_icmp .ne 5, 3) := by decide +kernel
theorem dX11_can_8 : decode cX11_can 8 = .ok (.iconst 1, 1) := by decide +kernel
theorem dX11_can_9 : decode cX11_can 9 = .ok (.ireturn, 1) := by decide +kernel
theorem dX11_can_10 : decode cX11_can 10 = .ok (.bipush 8, 2) := by decide +kernel
theorem dX11_can_12 : decode cX11_can 12 = .ok (.aload_n 0, 1) := by decide +kernel
theorem dX11_can_13 : decode cX11_can 13 = .ok (.getfield 74, 3) := by decide +kernel
theorem dX11_can_16 : decode cX11_can 16 = .ok (.aload_n 0, 1) := by decide +kernel
theorem dX11_can_17 : decode cX11_can 17 = .ok (.getfield 35, 3) := by decide +kernel
theorem dX11_can_20 : decode cX11_can 20 = .ok (.iload_n 1, 1) := by decide +kernel
theorem dX11_can_21 : decode cX11_can 21 = .ok (.iaload, 1) := by decide +kernel
theorem dX11_can_22 : decode cX11_can 22 = .ok (.iaload, 1) := by decide +kernel
theorem dX11_can_23 : decode cX11_can 23 = .ok (.imul, 1) := by decide +kernel
theorem dX11_can_24 : decode cX11_can 24 = .ok (.aload_n 0, 1) := by decide +kernel
theorem dX11_can_25 : decode cX11_can 25 = .ok (.getfield 38, 3) := by decide +kernel
theorem dX11_can_28 : decode cX11_can 28 = .ok (.iload_n 1, 1) := by decide +kernel
theorem dX11_can_29 : decode cX11_can 29 = .ok (.iaload, 1) := by decide +kernel
theorem dX11_can_30 : decode cX11_can 30 = .ok (.iadd, 1) := by decide +kernel
theorem dX11_can_31 : decode cX11_can 31 = .ok (.istore 4, 2) := by decide +kernel
theorem dX11_can_33 : decode cX11_can 33 = .ok (.aload_n 0, 1) := by decide +kernel
theorem dX11_can_34 : decode cX11_can 34 = .ok (.getfield 77, 3) := by decide +kernel
theorem dX11_can_37 : decode cX11_can 37 = .ok (.iload 4, 2) := by decide +kernel
theorem dX11_can_39 : decode cX11_can 39 = .ok (.iaload, 1) := by decide +kernel
theorem dX11_can_40 : decode cX11_can 40 = .ok (.ifCond .lt 26, 3) := by decide +kernel
theorem dX11_can_43 : decode cX11_can 43 = .ok (.aload_n 0, 1) := by decide +kernel
theorem dX11_can_44 : decode cX11_can 44 = .ok (.getfield 74, 3) := by decide +kernel
theorem dX11_can_47 : decode cX11_can 47 = .ok (.iload_n 1, 1) := by decide +kernel
theorem dX11_can_48 : decode cX11_can 48 = .ok (.aload_n 0, 1) := by decide +kernel
theorem dX11_can_49 : decode cX11_can 49 = .ok (.getfield 77, 3) := by decide +kernel
theorem dX11_can_52 : decode cX11_can 52 = .ok (.iload 4, 2) := by decide +kernel
theorem dX11_can_54 : decode cX11_can 54 = .ok (.iaload, 1) := by decide +kernel
theorem dX11_can_55 : decode cX11_can 55 = .ok (.iastore, 1) := by decide +kernel
theorem dX11_can_56 : decode cX11_can 56 = .ok (.aload_n 0, 1) := by decide +kernel
theorem dX11_can_57 : decode cX11_can 57 = .ok (.iload_n 1, 1) := by decide +kernel
theorem dX11_can_58 : decode cX11_can 58 = .ok (.iconst 1, 1) := by decide +kernel
theorem dX11_can_59 : decode cX11_can 59 = .ok (.iadd, 1) := by decide +kernel
theorem dX11_can_60 : decode cX11_can 60 = .ok (.iload_n 2, 1) := by decide +kernel
theorem dX11_can_61 : decode cX11_can 61 = .ok (.iload_n 3, 1) := by decide +kernel
theorem dX11_can_62 : decode cX11_can 62 = .ok (.invokevirtual 200, 3) := by decide +kernel
theorem dX11_can_65 : decode cX11_can 65 = .ok (.ireturn, 1) := by decide +kernel
theorem dX11_can_66 : decode cX11_can 66 = .ok (.iconst 0, 1) := by decide +kernel
theorem dX11_can_67 : decode cX11_can 67 = .ok (.istore 5, 2) := by decide +kernel
theorem dX11_can_69 : decode cX11_can 69 = .ok (.iload 5, 2) := by decide +kernel
theorem dX11_can_71 : decode cX11_can 71 = .ok (.iload_n 2, 1) := by decide +kernel
theorem dX11_can_72 : decode cX11_can 72 = .ok (.if_icmp .ge 65, 3) := by decide +kernel
theorem dX11_can_75 : decode cX11_can 75 = .ok (.iload 5, 2) := by decide +kernel
theorem dX11_can_77 : decode cX11_can 77 = .ok (.iload_n 3, 1) := by decide +kernel
theorem dX11_can_78 : decode cX11_can 78 = .ok (.if_icmp .gt 59, 3) := by decide +kernel
theorem dX11_can_81 : decode cX11_can 81 = .ok (.aload_n 0, 1) := by decide +kernel
theorem dX11_can_82 : decode cX11_can 82 = .ok (.getfield 77, 3) := by decide +kernel
theorem dX11_can_85 : decode cX11_can 85 = .ok (.iload 4, 2) := by decide +kernel
theorem dX11_can_87 : decode cX11_can 87 = .ok (.iload 5, 2) := by decide +kernel
theorem dX11_can_89 : decode cX11_can 89 = .ok (.iastore, 1) := by decide +kernel
theorem dX11_can_90 : decode cX11_can 90 = .ok (.aload_n 0, 1) := by decide +kernel
theorem dX11_can_91 : decode cX11_can 91 = .ok (.getfield 74, 3) := by decide +kernel
theorem dX11_can_94 : decode cX11_can 94 = .ok (.iload_n 1, 1) := by decide +kernel
theorem dX11_can_95 : decode cX11_can 95 = .ok (.iload 5, 2) := by decide +kernel
theorem dX11_can_97 : decode cX11_can 97 = .ok (.iastore, 1) := by decide +kernel
theorem dX11_can_98 : decode cX11_can 98 = .ok (.aload_n 0, 1) := by decide +kernel
theorem dX11_can_99 : decode cX11_can 99 = .ok (.invokevirtual 197, 3) := by decide +kernel
theorem dX11_can_102 : decode cX11_can 102 = .ok (.ifCond .ne 29, 3) := by decide +kernel
theorem dX11_can_105 : decode cX11_can 105 = .ok (.aload_n 0, 1) := by decide +kernel
theorem dX11_can_106 : decode cX11_can 106 = .ok (.iload_n 1, 1) := by decide +kernel
theorem dX11_can_107 : decode cX11_can 107 = .ok (.iconst 1, 1) := by decide +kernel
theorem dX11_can_108 : decode cX11_can 108 = .ok (.iadd, 1) := by decide +kernel
theorem dX11_can_109 : decode cX11_can 109 = .ok (.iload_n 2, 1) := by decide +kernel
theorem dX11_can_110 : decode cX11_can 110 = .ok (.iload 5, 2) := by decide +kernel
theorem dX11_can_112 : decode cX11_can 112 = .ok (.iload_n 3, 1) := by decide +kernel
theorem dX11_can_113 : decode cX11_can 113 = .ok (.if_icmp .ne 9, 3) := by decide +kernel
theorem dX11_can_116 : decode cX11_can 116 = .ok (.iload_n 3, 1) := by decide +kernel
theorem dX11_can_117 : decode cX11_can 117 = .ok (.iconst 1, 1) := by decide +kernel
theorem dX11_can_118 : decode cX11_can 118 = .ok (.iadd, 1) := by decide +kernel
theorem dX11_can_119 : decode cX11_can 119 = .ok (.goto 4, 3) := by decide +kernel
theorem dX11_can_122 : decode cX11_can 122 = .ok (.iload_n 3, 1) := by decide +kernel
theorem dX11_can_123 : decode cX11_can 123 = .ok (.invokevirtual 200, 3) := by decide +kernel
theorem dX11_can_126 : decode cX11_can 126 = .ok (.ifCond .eq 5, 3) := by decide +kernel
theorem dX11_can_129 : decode cX11_can 129 = .ok (.iconst 1, 1) := by decide +kernel
theorem dX11_can_130 : decode cX11_can 130 = .ok (.ireturn, 1) := by decide +kernel
theorem dX11_can_131 : decode cX11_can 131 = .ok (.iinc 5 1, 3) := by decide +kernel
theorem dX11_can_134 : decode cX11_can 134 = .ok (.goto (-65), 3) := by decide +kernel
theorem dX11_can_137 : decode cX11_can 137 = .ok (.aload_n 0, 1) := by decide +kernel
theorem dX11_can_138 : decode cX11_can 138 = .ok (.getfield 77, 3) := by decide +kernel
theorem dX11_can_141 : decode cX11_can 141 = .ok (.iload 4, 2) := by decide +kernel
theorem dX11_can_143 : decode cX11_can 143 = .ok (.iconst (-1), 1) := by decide +kernel
theorem dX11_can_144 : decode cX11_can 144 = .ok (.iastore, 1) := by decide +kernel
theorem dX11_can_145 : decode cX11_can 145 = .ok (.iconst 0, 1) := by decide +kernel
theorem dX11_can_146 : decode cX11_can 146 = .ok (.ireturn, 1) := by decide +kernel
theorem dX11_feed_0 : decode cX11_feed 0 = .ok (.aload_n 0, 1) := by decide +kernel
theorem dX11_feed_1 : decode cX11_feed 1 = .ok (.iconst 0, 1) := by decide +kernel
theorem dX11_feed_2 : decode cX11_feed 2 = .ok (.putfield 133, 3) := by decide +kernel
theorem dX11_feed_5 : decode cX11_feed 5 = .ok (.aload_n 0, 1) := by decide +kernel
theorem dX11_feed_6 : decode cX11_feed 6 = .ok (.getfield 204, 3) := by decide +kernel
theorem dX11_feed_9 : decode cX11_feed 9 = .ok (.bipush 20, 2) := by decide +kernel
theorem dX11_feed_11 : decode cX11_feed 11 = .ok (.iadd, 1) := by decide +kernel
theorem dX11_feed_12 : decode cX11_feed 12 = .ok (.sipush 200, 3) := by decide +kernel
theorem dX11_feed_15 : decode cX11_feed 15 = .ok (.if_icmp .le 5, 3) := by decide +kernel
theorem dX11_feed_18 : decode cX11_feed 18 = .ok (.iconst (-1), 1) := by decide +kernel
theorem dX11_feed_19 : decode cX11_feed 19 = .ok (.ireturn, 1) := by decide +kernel
theorem dX11_feed_20 : decode cX11_feed 20 = .ok (.iconst 0, 1) := by decide +kernel
theorem dX11_feed_21 : decode cX11_feed 21 = .ok (.istore 6, 2) := by decide +kernel
theorem dX11_feed_23 : decode cX11_feed 23 = .ok (.iload 6, 2) := by decide +kernel
theorem dX11_feed_25 : decode cX11_feed 25 = .ok (.iconst 5, 1) := by decide +kernel
theorem dX11_feed_26 : decode cX11_feed 26 = .ok (.if_icmp .ge 93, 3) := by decide +kernel
theorem dX11_feed_29 : decode cX11_feed 29 = .ok (.iload 6, 2) := by decide +kernel
theorem dX11_feed_31 : decode cX11_feed 31 = .ok (.ifCond .ne 7, 3) := by decide +kernel
theorem dX11_feed_34 : decode cX11_feed 34 = .ok (.iload_n 1, 1) := by decide +kernel
theorem dX11_feed_35 : decode cX11_feed 35 = .ok (.goto 36, 3) := by decide +kernel
theorem dX11_feed_38 : decode cX11_feed 38 = .ok (.iload 6, 2) := by decide +kernel
theorem dX11_feed_40 : decode cX11_feed 40 = .ok (.iconst 1, 1) := by decide +kernel
theorem dX11_feed_41 : decode cX11_feed 41 = .ok (.if_icmp .ne 7, 3) := by decide +kernel
theorem dX11_feed_44 : decode cX11_feed 44 = .ok (.iload_n 2, 1) := by decide +kernel
theorem dX11_feed_45 : decode cX11_feed 45 = .ok (.goto 26, 3) := by decide +kernel
theorem dX11_feed_48 : decode cX11_feed 48 = .ok (.iload 6, 2) := by decide +kernel
theorem dX11_feed_50 : decode cX11_feed 50 = .ok (.iconst 2, 1) := by decide +kernel
theorem dX11_feed_51 : decode cX11_feed 51 = .ok (.if_icmp .ne 7, 3) := by decide +kernel
theorem dX11_feed_54 : decode cX11_feed 54 = .ok (.iload_n 3, 1) := by decide +kernel
theorem dX11_feed_55 : decode cX11_feed 55 = .ok (.goto 16, 3) := by decide +kernel
theorem dX11_feed_58 : decode cX11_feed 58 = .ok (.iload 6, 2) := by decide +kernel
theorem dX11_feed_60 : decode cX11_feed 60 = .ok (.iconst 3, 1) := by decide +kernel
theorem dX11_feed_61 : decode cX11_feed 61 = .ok (.if_icmp .ne 8, 3) := by decide +kernel
theorem dX11_feed_64 : decode cX11_feed 64 = .ok (.iload 4, 2) := by decide +kernel
theorem dX11_feed_66 : decode cX11_feed 66 = .ok (.goto 5, 3) := by decide +kernel
theorem dX11_feed_69 : decode cX11_feed 69 = .ok (.iload 5, 2) := by decide +kernel
theorem dX11_feed_71 : decode cX11_feed 71 = .ok (.istore 7, 2) := by decide +kernel
theorem dX11_feed_73 : decode cX11_feed 73 = .ok (.bipush 24, 2) := by decide +kernel
theorem dX11_feed_75 : decode cX11_feed 75 = .ok (.istore 8, 2) := by decide +kernel
theorem dX11_feed_77 : decode cX11_feed 77 = .ok (.iload 8, 2) := by decide +kernel
theorem dX11_feed_79 : decode cX11_feed 79 = .ok (.ifCond .lt 34, 3) := by decide +kernel
theorem dX11_feed_82 : decode cX11_feed 82 = .ok (.aload_n 0, 1) := by decide +kernel
theorem dX11_feed_83 : decode cX11_feed 83 = .ok (.getfield 80, 3) := by decide +kernel
theorem dX11_feed_86 : decode cX11_feed 86 = .ok (.aload_n 0, 1) := by decide +kernel
theorem dX11_feed_87 : decode cX11_feed 87 = .ok (.getfield 204, 3) := by decide +kernel
theorem dX11_feed_90 : decode cX11_feed 90 = .ok (.iload 7, 2) := by decide +kernel
theorem dX11_feed_92 : decode cX11_feed 92 = .ok (.iload 8, 2) := by decide +kernel
theorem dX11_feed_94 : decode cX11_feed 94 = .ok (.ishr, 1) := by decide +kernel
theorem dX11_feed_95 : decode cX11_feed 95 = .ok (.i2b, 1) := by decide +kernel
theorem dX11_feed_96 : decode cX11_feed 96 = .ok (.bastore, 1) := by decide +kernel
theorem dX11_feed_97 : decode cX11_feed 97 = .ok (.aload_n 0, 1) := by decide +kernel
theorem dX11_feed_98 : decode cX11_feed 98 = .ok (.dup, 1) := by decide +kernel
theorem dX11_feed_99 : decode cX11_feed 99 = .ok (.getfield 204, 3) := by decide +kernel
theorem dX11_feed_102 : decode cX11_feed 102 = .ok (.iconst 1, 1) := by decide +kernel
theorem dX11_feed_103 : decode cX11_feed 103 = .ok (.iadd, 1) := by decide +kernel
theorem dX11_feed_104 : decode cX11_feed 104 = .ok (.putfield 204, 3) := by decide +kernel
theorem dX11_feed_107 : decode cX11_feed 107 = .ok (.iinc 8 (-8), 3) := by decide +kernel
theorem dX11_feed_110 : decode cX11_feed 110 = .ok (.goto (-33), 3) := by decide +kernel
theorem dX11_feed_113 : decode cX11_feed 113 = .ok (.iinc 6 1, 3) := by decide +kernel
theorem dX11_feed_116 : decode cX11_feed 116 = .ok (.goto (-93), 3) := by decide +kernel
theorem dX11_feed_119 : decode cX11_feed 119 = .ok (.aload_n 0, 1) := by decide +kernel
theorem dX11_feed_120 : decode cX11_feed 120 = .ok (.getfield 204, 3) := by decide +kernel
theorem dX11_feed_123 : decode cX11_feed 123 = .ok (.ireturn, 1) := by decide +kernel
theorem dX11_now_0 : decode cX11_now 0 = .ok (.aload_n 0, 1) := by decide +kernel
theorem dX11_now_1 : decode cX11_now 1 = .ok (.getfield 207, 3) := by decide +kernel
theorem dX11_now_4 : decode cX11_now 4 = .ok (.aload_n 0, 1) := by decide +kernel
theorem dX11_now_5 : decode cX11_now 5 = .ok (.getfield 210, 3) := by decide +kernel
theorem dX11_now_8 : decode cX11_now 8 = .ok (.if_icmp .ge 30, 3) := by decide +kernel
theorem dX11_now_11 : decode cX11_now 11 = .ok (.aload_n 0, 1) := by decide +kernel
theorem dX11_now_12 : decode cX11_now 12 = .ok (.getfield 80, 3) := by decide +kernel
theorem dX11_now_15 : decode cX11_now 15 = .ok (.aload_n 0, 1) := by decide +kernel
theorem dX11_now_16 : decode cX11_now 16 = .ok (.getfield 207, 3) := by decide +kernel
theorem dX11_now_19 : decode cX11_now 19 = .ok (.baload, 1) := by decide +kernel
theorem dX11_now_20 : decode cX11_now 20 = .ok (.bipush 32, 2) := by decide +kernel
theorem dX11_now_22 : decode cX11_now 22 = .ok (.if_icmp .ne 16, 3) := by decide +kernel
theorem dX11_now_25 : decode cX11_now 25 = .ok (.aload_n 0, 1) := by decide +kernel
theorem dX11_now_26 : decode cX11_now 26 = .ok (.dup, 1) := by decide +kernel
theorem dX11_now_27 : decode cX11_now 27 = .ok (.getfield 207, 3) := by decide +kernel
theorem dX11_now_30 : decode cX11_now 30 = .ok (.iconst 1, 1) := by decide +kernel
theorem dX11_now_31 : decode cX11_now 31 = .ok (.iadd, 1) := by decide +kernel
theorem dX11_now_32 : decode cX11_now 32 = .ok (.putfield 207, 3) := by decide +kernel
theorem dX11_now_35 : decode cX11_now 35 = .ok (.goto (-35), 3) := by decide +kernel
theorem dX11_now_38 : decode cX11_now 38 = .ok (.aload_n 0, 1) := by decide +kernel
theorem dX11_now_39 : decode cX11_now 39 = .ok (.getfield 207, 3) := by decide +kernel
theorem dX11_now_42 : decode cX11_now 42 = .ok (.aload_n 0, 1) := by decide +kernel
theorem dX11_now_43 : decode cX11_now 43 = .ok (.getfield 210, 3) := by decide +kernel
theorem dX11_now_46 : decode cX11_now 46 = .ok (.if_icmp .ge 19, 3) := by decide +kernel
theorem dX11_now_49 : decode cX11_now 49 = .ok (.aload_n 0, 1) := by decide +kernel
theorem dX11_now_50 : decode cX11_now 50 = .ok (.getfield 80, 3) := by decide +kernel
theorem dX11_now_53 : decode cX11_now 53 = .ok (.aload_n 0, 1) := by decide +kernel
theorem dX11_now_54 : decode cX11_now 54 = .ok (.getfield 207, 3) := by decide +kernel
theorem dX11_now_57 : decode cX11_now 57 = .ok (.baload, 1) := by decide +kernel
theorem dX11_now_58 : decode cX11_now 58 = .ok (.sipush 255, 3) := by decide +kernel
theorem dX11_now_61 : decode cX11_now 61 = .ok (.iand, 1) := by decide +kernel
theorem dX11_now_62 : decode cX11_now 62 = .ok (.goto 4, 3) := by decide +kernel
theorem dX11_now_65 : decode cX11_now 65 = .ok (.iconst 0, 1) := by decide +kernel
theorem dX11_now_66 : decode cX11_now 66 = .ok (.ireturn, 1) := by decide +kernel
theorem dX11_adds_0 : decode cX11_adds 0 = .ok (.aload_n 0, 1) := by decide +kernel
theorem dX11_adds_1 : decode cX11_adds 1 = .ok (.getfield 93, 3) := by decide +kernel
theorem dX11_adds_4 : decode cX11_adds 4 = .ok (.aload_n 0, 1) := by decide +kernel
theorem dX11_adds_5 : decode cX11_adds 5 = .ok (.getfield 213, 3) := by decide +kernel
theorem dX11_adds_8 : decode cX11_adds 8 = .ok (.iload_n 1, 1) := by decide +kernel
theorem dX11_adds_9 : decode cX11_adds 9 = .ok (.iastore, 1) := by decide +kernel
theorem dX11_adds_10 : decode cX11_adds 10 = .ok (.aload_n 0, 1) := by decide +kernel
theorem dX11_adds_11 : decode cX11_adds 11 = .ok (.getfield 96, 3) := by decide +kernel
theorem dX11_adds_14 : decode cX11_adds 14 = .ok (.aload_n 0, 1) := by decide +kernel
theorem dX11_adds_15 : decode cX11_adds 15 = .ok (.getfield 213, 3) := by decide +kernel
theorem dX11_adds_18 : decode cX11_adds 18 = .ok (.iload_n 2, 1) := by decide +kernel
theorem dX11_adds_19 : decode cX11_adds 19 = .ok (.iastore, 1) := by decide +kernel
theorem dX11_adds_20 : decode cX11_adds 20 = .ok (.aload_n 0, 1) := by decide +kernel
theorem dX11_adds_21 : decode cX11_adds 21 = .ok (.getfield 99, 3) := by decide +kernel
theorem dX11_adds_24 : decode cX11_adds 24 = .ok (.aload_n 0, 1) := by decide +kernel
theorem dX11_adds_25 : decode cX11_adds 25 = .ok (.getfield 213, 3) := by decide +kernel
theorem dX11_adds_28 : decode cX11_adds 28 = .ok (.iload_n 3, 1) := by decide +kernel
theorem dX11_adds_29 : decode cX11_adds 29 = .ok (.iastore, 1) := by decide +kernel
theorem dX11_adds_30 : decode cX11_adds 30 = .ok (.aload_n 0, 1) := by decide +kernel
theorem dX11_adds_31 : decode cX11_adds 31 = .ok (.dup, 1) := by decide +kernel
theorem dX11_adds_32 : decode cX11_adds 32 = .ok (.getfield 213, 3) := by decide +kernel
theorem dX11_adds_35 : decode cX11_adds 35 = .ok (.iconst 1, 1) := by decide +kernel
theorem dX11_adds_36 : decode cX11_adds 36 = .ok (.iadd, 1) := by decide +kernel
theorem dX11_adds_37 : decode cX11_adds 37 = .ok (.putfield 213, 3) := by decide +kernel
theorem dX11_adds_40 : decode cX11_adds 40 = .ok (.return_, 1) := by decide +kernel
theorem dX11_state_0 : decode cX11_state 0 = .ok (.aload_n 0, 1) := by decide +kernel
theorem dX11_state_1 : decode cX11_state 1 = .ok (.dup, 1) := by decide +kernel
theorem dX11_state_2 : decode cX11_state 2 = .ok (.getfield 216, 3) := by decide +kernel
theorem dX11_state_5 : decode cX11_state 5 = .ok (.iconst 1, 1) := by decide +kernel
theorem dX11_state_6 : decode cX11_state 6 = .ok (.iadd, 1) := by decide +kernel
theorem dX11_state_7 : decode cX11_state 7 = .ok (.putfield 216, 3) := by decide +kernel
theorem dX11_state_10 : decode cX11_state 10 = .ok (.aload_n 0, 1) := by decide +kernel
theorem dX11_state_11 : decode cX11_state 11 = .ok (.getfield 216, 3) := by decide +kernel
theorem dX11_state_14 : decode cX11_state 14 = .ok (.iconst 1, 1) := by decide +kernel
theorem dX11_state_15 : decode cX11_state 15 = .ok (.isub, 1) := by decide +kernel
theorem dX11_state_16 : decode cX11_state 16 = .ok (.ireturn, 1) := by decide +kernel
theorem dX11_reads_0 : decode cX11_reads 0 = .ok (.iload_n 1, 1) := by decide +kernel
theorem dX11_reads_1 : decode cX11_reads 1 = .ok (.istore_n 2, 1) := by decide +kernel
theorem dX11_reads_2 : decode cX11_reads 2 = .ok (.aload_n 0, 1) := by decide +kernel
theorem dX11_reads_3 : decode cX11_reads 3 = .ok (.getfield 219, 3) := by decide +kernel
theorem dX11_reads_6 : decode cX11_reads 6 = .ok (.ifCond .ne 73, 3) := by decide +kernel
theorem dX11_reads_9 : decode cX11_reads 9 = .ok (.aload_n 0, 1) := by decide +kernel
theorem dX11_reads_10 : decode cX11_reads 10 = .ok (.invokevirtual 223, 3) := by decide +kernel
theorem dX11_reads_13 : decode cX11_reads 13 = .ok (.istore_n 3, 1) := by decide +kernel
theorem dX11_reads_14 : decode cX11_reads 14 = .ok (.iload_n 3, 1) := by decide +kernel
theorem dX11_reads_15 : decode cX11_reads 15 = .ok (.bipush 97, 2) := by decide +kernel
theorem dX11_reads_17 : decode cX11_reads 17 = .ok (.if_icmp .lt 42, 3) := by decide +kernel
theorem dX11_reads_20 : decode cX11_reads 20 = .ok (.iload_n 3, 1) := by decide +kernel
theorem dX11_reads_21 : decode cX11_reads 21 = .ok (.bipush 104, 2) := by decide +kernel
theorem dX11_reads_23 : decode cX11_reads 23 = .ok (.if_icmp .gt 36, 3) := by decide +kernel
theorem dX11_reads_26 : decode cX11_reads 26 = .ok (.aload_n 0, 1) := by decide +kernel
theorem dX11_reads_27 : decode cX11_reads 27 = .ok (.invokevirtual 227, 3) := by decide +kernel
theorem dX11_reads_30 : decode cX11_reads 30 = .ok (.istore 4, 2) := by decide +kernel
theorem dX11_reads_32 : decode cX11_reads 32 = .ok (.aload_n 0, 1) := by decide +kernel
theorem dX11_reads_33 : decode cX11_reads 33 = .ok (.iload_n 2, 1) := by decide +kernel
theorem dX11_reads_34 : decode cX11_reads 34 = .ok (.iload 4, 2) := by decide +kernel
theorem dX11_reads_36 : decode cX11_reads 36 = .ok (.iload_n 3, 1) := by decide +kernel
theorem dX11_reads_37 : decode cX11_reads 37 = .ok (.bipush 97, 2) := by decide +kernel
theorem dX11_reads_39 : decode cX11_reads 39 = .ok (.isub, 1) := by decide +kernel
theorem dX11_reads_40 : decode cX11_reads 40 = .ok (.invokevirtual 230, 3) := by decide +kernel
theorem dX11_reads_43 : decode cX11_reads 43 = .ok (.iload 4, 2) := by decide +kernel
theorem dX11_reads_45 : decode cX11_reads 45 = .ok (.istore_n 2, 1) := by decide +kernel
theorem dX11_reads_46 : decode cX11_reads 46 = .ok (.aload_n 0, 1) := by decide +kernel
theorem dX11_reads_47 : decode cX11_reads 47 = .ok (.dup, 1) := by decide +kernel
theorem dX11_reads_48 : decode cX11_reads 48 = .ok (.getfield 207, 3) := by decide +kernel
theorem dX11_reads_51 : decode cX11_reads 51 = .ok (.iconst 1, 1) := by decide +kernel
theorem dX11_reads_52 : decode cX11_reads 52 = .ok (.iadd, 1) := by decide +kernel
theorem dX11_reads_53 : decode cX11_reads 53 = .ok (.putfield 207, 3) := by decide +kernel
theorem dX11_reads_56 : decode cX11_reads 56 = .ok (.goto 20, 3) := by decide +kernel
theorem dX11_reads_59 : decode cX11_reads 59 = .ok (.iload_n 3, 1) := by decide +kernel
theorem dX11_reads_60 : decode cX11_reads 60 = .ok (.bipush 40, 2) := by decide +kernel
theorem dX11_reads_62 : decode cX11_reads 62 = .ok (.if_icmp .ne 12, 3) := by decide +kernel
theorem dX11_reads_65 : decode cX11_reads 65 = .ok (.aload_n 0, 1) := by decide +kernel
theorem dX11_reads_66 : decode cX11_reads 66 = .ok (.iload_n 2, 1) := by decide +kernel
theorem dX11_reads_67 : decode cX11_reads 67 = .ok (.invokevirtual 234, 3) := by decide +kernel
theorem dX11_reads_70 : decode cX11_reads 70 = .ok (.istore_n 2, 1) := by decide +kernel
theorem dX11_reads_71 : decode cX11_reads 71 = .ok (.goto 5, 3) := by decide +kernel
theorem dX11_reads_74 : decode cX11_reads 74 = .ok (.iload_n 2, 1) := by decide +kernel
theorem dX11_reads_75 : decode cX11_reads 75 = .ok (.ireturn, 1) := by decide +kernel
theorem dX11_reads_76 : decode cX11_reads 76 = .ok (.goto (-74), 3) := by decide +kernel
theorem dX11_reads_79 : decode cX11_reads 79 = .ok (.iload_n 2, 1) := by decide +kernel
theorem dX11_reads_80 : decode cX11_reads 80 = .ok (.ireturn, 1) := by decide +kernel
theorem dX11_bracket_0 : decode cX11_bracket 0 = .ok (.aload_n 0, 1) := by decide +kernel
theorem dX11_bracket_1 : decode cX11_bracket 1 = .ok (.getfield 237, 3) := by decide +kernel
theorem dX11_bracket_4 : decode cX11_bracket 4 = .ok (.bipush 10, 2) := by decide +kernel
theorem dX11_bracket_6 : decode cX11_bracket 6 = .ok (.if_icmp .ne 10, 3) := by decide +kernel
theorem dX11_bracket_9 : decode cX11_bracket 9 = .ok (.aload_n 0, 1) := by decide +kernel
theorem dX11_bracket_10 : decode cX11_bracket 10 = .ok (.iconst 1, 1) := by decide +kernel
theorem dX11_bracket_11 : decode cX11_bracket 11 = .ok (.putfield 219, 3) := by decide +kernel
theorem dX11_bracket_14 : decode cX11_bracket 14 = .ok (.iload_n 1, 1) := by decide +kernel
theorem dX11_bracket_15 : decode cX11_bracket 15 = .ok (.ireturn, 1) := by decide +kernel
theorem dX11_bracket_16 : decode cX11_bracket 16 = .ok (.aload_n 0, 1) := by decide +kernel
theorem dX11_bracket_17 : decode cX11_bracket 17 = .ok (.dup, 1) := by decide +kernel
theorem dX11_bracket_18 : decode cX11_bracket 18 = .ok (.getfield 237, 3) := by decide +kernel
theorem dX11_bracket_21 : decode cX11_bracket 21 = .ok (.iconst 1, 1) := by decide +kernel
theorem dX11_bracket_22 : decode cX11_bracket 22 = .ok (.iadd, 1) := by decide +kernel
theorem dX11_bracket_23 : decode cX11_bracket 23 = .ok (.putfield 237, 3) := by decide +kernel
theorem dX11_bracket_26 : decode cX11_bracket 26 = .ok (.aload_n 0, 1) := by decide +kernel
theorem dX11_bracket_27 : decode cX11_bracket 27 = .ok (.invokevirtual 227, 3) := by decide +kernel
theorem dX11_bracket_30 : decode cX11_bracket 30 = .ok (.istore_n 2, 1) := by decide +kernel
theorem dX11_bracket_31 : decode cX11_bracket 31 = .ok (.aload_n 0, 1) := by decide +kernel
theorem dX11_bracket_32 : decode cX11_bracket 32 = .ok (.invokevirtual 227, 3) := by decide +kernel
theorem dX11_bracket_35 : decode cX11_bracket 35 = .ok (.istore_n 3, 1) := by decide +kernel
theorem dX11_bracket_36 : decode cX11_bracket 36 = .ok (.aload_n 0, 1) := by decide +kernel
theorem dX11_bracket_37 : decode cX11_bracket 37 = .ok (.iload_n 1, 1) := by decide +kernel
theorem dX11_bracket_38 : decode cX11_bracket 38 = .ok (.iload_n 2, 1) := by decide +kernel
theorem dX11_bracket_39 : decode cX11_bracket 39 = .ok (.bipush 8, 2) := by decide +kernel
theorem dX11_bracket_41 : decode cX11_bracket 41 = .ok (.invokevirtual 230, 3) := by decide +kernel
theorem dX11_bracket_44 : decode cX11_bracket 44 = .ok (.aload_n 0, 1) := by decide +kernel
theorem dX11_bracket_45 : decode cX11_bracket 45 = .ok (.dup, 1) := by decide +kernel
theorem dX11_bracket_46 : decode cX11_bracket 46 = .ok (.getfield 207, 3) := by decide +kernel
theorem dX11_bracket_49 : decode cX11_bracket 49 = .ok (.iconst 1, 1) := by decide +kernel
theorem dX11_bracket_50 : decode cX11_bracket 50 = .ok (.iadd, 1) := by decide +kernel
theorem dX11_bracket_51 : decode cX11_bracket 51 = .ok (.putfield 207, 3) := by decide +kernel
theorem dX11_bracket_54 : decode cX11_bracket 54 = .ok (.aload_n 0, 1) := by decide +kernel
theorem dX11_bracket_55 : decode cX11_bracket 55 = .ok (.aload_n 0, 1) := by decide +kernel
theorem dX11_bracket_56 : decode cX11_bracket 56 = .ok (.iload_n 2, 1) := by decide +kernel
theorem dX11_bracket_57 : decode cX11_bracket 57 = .ok (.invokevirtual 240, 3) := by decide +kernel
theorem dX11_bracket_60 : decode cX11_bracket 60 = .ok (.iload_n 3, 1) := by decide +kernel
theorem dX11_bracket_61 : decode cX11_bracket 61 = .ok (.bipush 8, 2) := by decide +kernel
theorem dX11_bracket_63 : decode cX11_bracket 63 = .ok (.invokevirtual 230, 3) := by decide +kernel
theorem dX11_bracket_66 : decode cX11_bracket 66 = .ok (.aload_n 0, 1) := by decide +kernel
theorem dX11_bracket_67 : decode cX11_bracket 67 = .ok (.getfield 219, 3) := by decide +kernel
theorem dX11_bracket_70 : decode cX11_bracket 70 = .ok (.ifCond .ne 12, 3) := by decide +kernel
theorem dX11_bracket_73 : decode cX11_bracket 73 = .ok (.aload_n 0, 1) := by decide +kernel
theorem dX11_bracket_74 : decode cX11_bracket 74 = .ok (.invokevirtual 223, 3) := by decide +kernel
theorem dX11_bracket_77 : decode cX11_bracket 77 = .ok (.bipush 124, 2) := by decide +kernel
theorem dX11_bracket_79 : decode cX11_bracket 79 = .ok (.if_icmp .eq (-35), 3) := by decide +kernel
theorem dX11_bracket_82 : decode cX11_bracket 82 = .ok (.aload_n 0, 1) := by decide +kernel
theorem dX11_bracket_83 : decode cX11_bracket 83 = .ok (.getfield 219, 3) := by decide +kernel
theorem dX11_bracket_86 : decode cX11_bracket 86 = .ok (.ifCond .eq 5, 3) := by decide +kernel
theorem dX11_bracket_89 : decode cX11_bracket 89 = .ok (.iload_n 1, 1) := by decide +kernel
theorem dX11_bracket_90 : decode cX11_bracket 90 = .ok (.ireturn, 1) := by decide +kernel
theorem dX11_bracket_91 : decode cX11_bracket 91 = .ok (.aload_n 0, 1) := by decide +kernel
theorem dX11_bracket_92 : decode cX11_bracket 92 = .ok (.invokevirtual 223, 3) := by decide +kernel
theorem dX11_bracket_95 : decode cX11_bracket 95 = .ok (.bipush 41, 2) := by decide +kernel
theorem dX11_bracket_97 : decode cX11_bracket 97 = .ok (.if_icmp .eq 10, 3) := by decide +kernel
theorem dX11_bracket_100 : decode cX11_bracket 100 = .ok (.aload_n 0, 1) := by decide +kernel
theorem dX11_bracket_101 : decode cX11_bracket 101 = .ok (.iconst 1, 1) := by decide +kernel
theorem dX11_bracket_102 : decode cX11_bracket 102 = .ok (.putfield 219, 3) := by decide +kernel
theorem dX11_bracket_105 : decode cX11_bracket 105 = .ok (.iload_n 1, 1) := by decide +kernel
theorem dX11_bracket_106 : decode cX11_bracket 106 = .ok (.ireturn, 1) := by decide +kernel
theorem dX11_bracket_107 : decode cX11_bracket 107 = .ok (.aload_n 0, 1) := by decide +kernel
theorem dX11_bracket_108 : decode cX11_bracket 108 = .ok (.dup, 1) := by decide +kernel
theorem dX11_bracket_109 : decode cX11_bracket 109 = .ok (.getfield 207, 3) := by decide +kernel
theorem dX11_bracket_112 : decode cX11_bracket 112 = .ok (.iconst 1, 1) := by decide +kernel
theorem dX11_bracket_113 : decode cX11_bracket 113 = .ok (.iadd, 1) := by decide +kernel
theorem dX11_bracket_114 : decode cX11_bracket 114 = .ok (.putfield 207, 3) := by decide +kernel
theorem dX11_bracket_117 : decode cX11_bracket 117 = .ok (.aload_n 0, 1) := by decide +kernel
theorem dX11_bracket_118 : decode cX11_bracket 118 = .ok (.dup, 1) := by decide +kernel
theorem dX11_bracket_119 : decode cX11_bracket 119 = .ok (.getfield 237, 3) := by decide +kernel
theorem dX11_bracket_122 : decode cX11_bracket 122 = .ok (.iconst 1, 1) := by decide +kernel
theorem dX11_bracket_123 : decode cX11_bracket 123 = .ok (.isub, 1) := by decide +kernel
theorem dX11_bracket_124 : decode cX11_bracket 124 = .ok (.putfield 237, 3) := by decide +kernel
theorem dX11_bracket_127 : decode cX11_bracket 127 = .ok (.aload_n 0, 1) := by decide +kernel
theorem dX11_bracket_128 : decode cX11_bracket 128 = .ok (.invokevirtual 223, 3) := by decide +kernel
theorem dX11_bracket_131 : decode cX11_bracket 131 = .ok (.bipush 42, 2) := by decide +kernel
theorem dX11_bracket_133 : decode cX11_bracket 133 = .ok (.if_icmp .ne 29, 3) := by decide +kernel
theorem dX11_bracket_136 : decode cX11_bracket 136 = .ok (.aload_n 0, 1) := by decide +kernel
theorem dX11_bracket_137 : decode cX11_bracket 137 = .ok (.dup, 1) := by decide +kernel
theorem dX11_bracket_138 : decode cX11_bracket 138 = .ok (.getfield 207, 3) := by decide +kernel
theorem dX11_bracket_141 : decode cX11_bracket 141 = .ok (.iconst 1, 1) := by decide +kernel
theorem dX11_bracket_142 : decode cX11_bracket 142 = .ok (.iadd, 1) := by decide +kernel
theorem dX11_bracket_143 : decode cX11_bracket 143 = .ok (.putfield 207, 3) := by decide +kernel
theorem dX11_bracket_146 : decode cX11_bracket 146 = .ok (.aload_n 0, 1) := by decide +kernel
theorem dX11_bracket_147 : decode cX11_bracket 147 = .ok (.iload_n 2, 1) := by decide +kernel
theorem dX11_bracket_148 : decode cX11_bracket 148 = .ok (.iload_n 3, 1) := by decide +kernel
theorem dX11_bracket_149 : decode cX11_bracket 149 = .ok (.bipush 8, 2) := by decide +kernel
theorem dX11_bracket_151 : decode cX11_bracket 151 = .ok (.invokevirtual 230, 3) := by decide +kernel
theorem dX11_bracket_154 : decode cX11_bracket 154 = .ok (.aload_n 0, 1) := by decide +kernel
theorem dX11_bracket_155 : decode cX11_bracket 155 = .ok (.iload_n 3, 1) := by decide +kernel
theorem dX11_bracket_156 : decode cX11_bracket 156 = .ok (.iload_n 2, 1) := by decide +kernel
theorem dX11_bracket_157 : decode cX11_bracket 157 = .ok (.bipush 8, 2) := by decide +kernel
theorem dX11_bracket_159 : decode cX11_bracket 159 = .ok (.invokevirtual 230, 3) := by decide +kernel
theorem dX11_bracket_162 : decode cX11_bracket 162 = .ok (.iload_n 3, 1) := by decide +kernel
theorem dX11_bracket_163 : decode cX11_bracket 163 = .ok (.ireturn, 1) := by decide +kernel
theorem dX11_routine_0 : decode cX11_routine 0 = .ok (.aload_n 0, 1) := by decide +kernel
theorem dX11_routine_1 : decode cX11_routine 1 = .ok (.iconst 0, 1) := by decide +kernel
theorem dX11_routine_2 : decode cX11_routine 2 = .ok (.putfield 133, 3) := by decide +kernel
theorem dX11_routine_5 : decode cX11_routine 5 = .ok (.aload_n 0, 1) := by decide +kernel
theorem dX11_routine_6 : decode cX11_routine 6 = .ok (.iload_n 1, 1) := by decide +kernel
theorem dX11_routine_7 : decode cX11_routine 7 = .ok (.ifCond .lt 11, 3) := by decide +kernel
theorem dX11_routine_10 : decode cX11_routine 10 = .ok (.iload_n 1, 1) := by decide +kernel
theorem dX11_routine_11 : decode cX11_routine 11 = .ok (.aload_n 0, 1) := by decide +kernel
theorem dX11_routine_12 : decode cX11_routine 12 = .ok (.getfield 204, 3) := by decide +kernel
theorem dX11_routine_15 : decode cX11_routine 15 = .ok (.if_icmp .le 7, 3) := by decide +kernel
theorem dX11_routine_18 : decode cX11_routine 18 = .ok (.iconst 1, 1) := by decide +kernel
theorem dX11_routine_19 : decode cX11_routine 19 = .ok (.goto 4, 3) := by decide +kernel
theorem dX11_routine_22 : decode cX11_routine 22 = .ok (.iconst 0, 1) := by decide +kernel
theorem dX11_routine_23 : decode cX11_routine 23 = .ok (.iconst 1, 1) := by decide +kernel
theorem dX11_routine_24 : decode cX11_routine 24 = .ok (.invokevirtual 140, 3) := by decide +kernel
theorem dX11_routine_27 : decode cX11_routine 27 = .ok (.ifCond .eq 5, 3) := by decide +kernel
theorem dX11_routine_30 : decode cX11_routine 30 = .ok (.iconst 0, 1) := by decide +kernel
theorem dX11_routine_31 : decode cX11_routine 31 = .ok (.ireturn, 1) := by decide +kernel
theorem dX11_routine_32 : decode cX11_routine 32 = .ok (.aload_n 0, 1) := by decide +kernel
theorem dX11_routine_33 : decode cX11_routine 33 = .ok (.iload_n 1, 1) := by decide +kernel
theorem dX11_routine_34 : decode cX11_routine 34 = .ok (.putfield 210, 3) := by decide +kernel
theorem dX11_routine_37 : decode cX11_routine 37 = .ok (.aload_n 0, 1) := by decide +kernel
theorem dX11_routine_38 : decode cX11_routine 38 = .ok (.iconst 0, 1) := by decide +kernel
theorem dX11_routine_39 : decode cX11_routine 39 = .ok (.putfield 204, 3) := by decide +kernel
theorem dX11_routine_42 : decode cX11_routine 42 = .ok (.aload_n 0, 1) := by decide +kernel
theorem dX11_routine_43 : decode cX11_routine 43 = .ok (.iconst 0, 1) := by decide +kernel
theorem dX11_routine_44 : decode cX11_routine 44 = .ok (.putfield 207, 3) := by decide +kernel
theorem dX11_routine_47 : decode cX11_routine 47 = .ok (.aload_n 0, 1) := by decide +kernel
theorem dX11_routine_48 : decode cX11_routine 48 = .ok (.iconst 0, 1) := by decide +kernel
theorem dX11_routine_49 : decode cX11_routine 49 = .ok (.putfield 237, 3) := by decide +kernel
theorem dX11_routine_52 : decode cX11_routine 52 = .ok (.aload_n 0, 1) := by decide +kernel
theorem dX11_routine_53 : decode cX11_routine 53 = .ok (.iconst 0, 1) := by decide +kernel
theorem dX11_routine_54 : decode cX11_routine 54 = .ok (.putfield 213, 3) := by decide +kernel
theorem dX11_routine_57 : decode cX11_routine 57 = .ok (.aload_n 0, 1) := by decide +kernel
theorem dX11_routine_58 : decode cX11_routine 58 = .ok (.iconst 1, 1) := by decide +kernel
theorem dX11_routine_59 : decode cX11_routine 59 = .ok (.putfield 216, 3) := by decide +kernel
theorem dX11_routine_62 : decode cX11_routine 62 = .ok (.aload_n 0, 1) := by decide +kernel
theorem dX11_routine_63 : decode cX11_routine 63 = .ok (.iconst 0, 1) := by decide +kernel
theorem dX11_routine_64 : decode cX11_routine 64 = .ok (.putfield 219, 3) := by decide +kernel
theorem dX11_routine_67 : decode cX11_routine 67 = .ok (.aload_n 0, 1) := by decide +kernel
theorem dX11_routine_68 : decode cX11_routine 68 = .ok (.iconst 0, 1) := by decide +kernel
theorem dX11_routine_69 : decode cX11_routine 69 = .ok (.invokevirtual 240, 3) := by decide +kernel
theorem dX11_routine_72 : decode cX11_routine 72 = .ok (.istore_n 2, 1) := by decide +kernel
theorem dX11_routine_73 : decode cX11_routine 73 = .ok (.aload_n 0, 1) := by decide +kernel
theorem dX11_routine_74 : decode cX11_routine 74 = .ok (.getfield 219, 3) := by decide +kernel
theorem dX11_routine_77 : decode cX11_routine 77 = .ok (.ifCond .ne 96, 3) := by decide +kernel
theorem dX11_routine_80 : decode cX11_routine 80 = .ok (.aload_n 0, 1) := by decide +kernel
theorem dX11_routine_81 : decode cX11_routine 81 = .ok (.invokevirtual 223, 3) := by decide +kernel
theorem dX11_routine_84 : decode cX11_routine 84 = .ok (.ifCond .ne 89, 3) := by decide +kernel
theorem dX11_routine_87 : decode cX11_routine 87 = .ok (.aload_n 0, 1) := by decide +kernel
theorem dX11_routine_88 : decode cX11_routine 88 = .ok (.getfield 207, 3) := by decide +kernel
theorem dX11_routine_91 : decode cX11_routine 91 = .ok (.aload_n 0, 1) := by decide +kernel
theorem dX11_routine_92 : decode cX11_routine 92 = .ok (.getfield 210, 3) := by decide +kernel
theorem dX11_routine_95 : decode cX11_routine 95 = .ok (.if_icmp .lt 78, 3) := by decide +kernel
theorem dX11_routine_98 : decode cX11_routine 98 = .ok (.aload_n 0, 1) := by decide +kernel
theorem dX11_routine_99 : decode cX11_routine 99 = .ok (.aload_n 0, 1) := by decide +kernel
theorem dX11_routine_100 : decode cX11_routine 100 = .ok (.getfield 213, 3) := by decide +kernel
theorem dX11_routine_103 : decode cX11_routine 103 = .ok (.putfield 243, 3) := by decide +kernel
theorem dX11_routine_106 : decode cX11_routine 106 = .ok (.aload_n 0, 1) := by decide +kernel
theorem dX11_routine_107 : decode cX11_routine 107 = .ok (.aload_n 0, 1) := by decide +kernel
theorem dX11_routine_108 : decode cX11_routine 108 = .ok (.getfield 216, 3) := by decide +kernel
theorem dX11_routine_111 : decode cX11_routine 111 = .ok (.putfield 246, 3) := by decide +kernel
theorem dX11_routine_114 : decode cX11_routine 114 = .ok (.aload_n 0, 1) := by decide +kernel
theorem dX11_routine_115 : decode cX11_routine 115 = .ok (.iload_n 2, 1) := by decide +kernel
theorem dX11_routine_116 : decode cX11_routine 116 = .ok (.putfield 249, 3) := by decide +kernel
theorem dX11_routine_119 : decode cX11_routine 119 = .ok (.iconst 0, 1) := by decide +kernel
theorem dX11_routine_120 : decode cX11_routine 120 = .ok (.istore_n 3, 1) := by decide +kernel
theorem dX11_routine_121 : decode cX11_routine 121 = .ok (.iload_n 3, 1) := by decide +kernel
theorem dX11_routine_122 : decode cX11_routine 122 = .ok (.aload_n 0, 1) := by decide +kernel
theorem dX11_routine_123 : decode cX11_routine 123 = .ok (.getfield 243, 3) := by decide +kernel
theorem dX11_routine_126 : decode cX11_routine 126 = .ok (.if_icmp .ge 45, 3) := by decide +kernel
theorem dX11_routine_129 : decode cX11_routine 129 = .ok (.aload_n 0, 1) := by decide +kernel
theorem dX11_routine_130 : decode cX11_routine 130 = .ok (.getfield 84, 3) := by decide +kernel
theorem dX11_routine_133 : decode cX11_routine 133 = .ok (.iload_n 3, 1) := by decide +kernel
theorem dX11_routine_134 : decode cX11_routine 134 = .ok (.aload_n 0, 1) := by decide +kernel
theorem dX11_routine_135 : decode cX11_routine 135 = .ok (.getfield 93, 3) := by decide +kernel
theorem dX11_routine_138 : decode cX11_routine 138 = .ok (.iload_n 3, 1) := by decide +kernel
theorem dX11_routine_139 : decode cX11_routine 139 = .ok (.iaload, 1) := by decide +kernel
theorem dX11_routine_140 : decode cX11_routine 140 = .ok (.iastore, 1) := by decide +kernel
theorem dX11_routine_141 : decode cX11_routine 141 = .ok (.aload_n 0, 1) := by decide +kernel
theorem dX11_routine_142 : decode cX11_routine 142 = .ok (.getfield 87, 3) := by decide +kernel
theorem dX11_routine_145 : decode cX11_routine 145 = .ok (.iload_n 3, 1) := by decide +kernel
theorem dX11_routine_146 : decode cX11_routine 146 = .ok (.aload_n 0, 1) := by decide +kernel
theorem dX11_routine_147 : decode cX11_routine 147 = .ok (.getfield 96, 3) := by decide +kernel
theorem dX11_routine_150 : decode cX11_routine 150 = .ok (.iload_n 3, 1) := by decide +kernel
theorem dX11_routine_151 : decode cX11_routine 151 = .ok (.iaload, 1) := by decide +kernel
theorem dX11_routine_152 : decode cX11_routine 152 = .ok (.iastore, 1) := by decide +kernel
theorem dX11_routine_153 : decode cX11_routine 153 = .ok (.aload_n 0, 1) := by decide +kernel
theorem dX11_routine_154 : decode cX11_routine 154 = .ok (.getfield 90, 3) := by decide +kernel
theorem dX11_routine_157 : decode cX11_routine 157 = .ok (.iload_n 3, 1) := by decide +kernel
theorem dX11_routine_158 : decode cX11_routine 158 = .ok (.aload_n 0, 1) := by decide +kernel
theorem dX11_routine_159 : decode cX11_routine 159 = .ok (.getfield 99, 3) := by decide +kernel
theorem dX11_routine_162 : decode cX11_routine 162 = .ok (.iload_n 3, 1) := by decide +kernel
theorem dX11_routine_163 : decode cX11_routine 163 = .ok (.iaload, 1) := by decide +kernel
theorem dX11_routine_164 : decode cX11_routine 164 = .ok (.iastore, 1) := by decide +kernel
theorem dX11_routine_165 : decode cX11_routine 165 = .ok (.iinc 3 1, 3) := by decide +kernel
theorem dX11_routine_168 : decode cX11_routine 168 = .ok (.goto (-47), 3) := by decide +kernel
theorem dX11_routine_171 : decode cX11_routine 171 = .ok (.iconst 0, 1) := by decide +kernel
theorem dX11_routine_172 : decode cX11_routine 172 = .ok (.ireturn, 1) := by decide +kernel
theorem dX11_routine_173 : decode cX11_routine 173 = .ok (.bipush (-2), 2) := by decide +kernel
theorem dX11_routine_175 : decode cX11_routine 175 = .ok (.aload_n 0, 1) := by decide +kernel
theorem dX11_routine_176 : decode cX11_routine 176 = .ok (.getfield 207, 3) := by decide +kernel
theorem dX11_routine_179 : decode cX11_routine 179 = .ok (.isub, 1) := by decide +kernel
theorem dX11_routine_180 : decode cX11_routine 180 = .ok (.ireturn, 1) := by decide +kernel
theorem dX11_clearBreak_0 : decode cX11_clearBreak 0 = .ok (.aload_n 0, 1) := by decide +kernel
theorem dX11_clearBreak_1 : decode cX11_clearBreak 1 = .ok (.iconst 0, 1) := by decide +kernel
theorem dX11_clearBreak_2 : decode cX11_clearBreak 2 = .ok (.putfield 252, 3) := by decide +kernel
theorem dX11_clearBreak_5 : decode cX11_clearBreak 5 = .ok (.return_, 1) := by decide +kernel
theorem dX11_hold_0 : decode cX11_hold 0 = .ok (.aload_n 0, 1) := by decide +kernel
theorem dX11_hold_1 : decode cX11_hold 1 = .ok (.iconst 0, 1) := by decide +kernel
theorem dX11_hold_2 : decode cX11_hold 2 = .ok (.putfield 133, 3) := by decide +kernel
theorem dX11_hold_5 : decode cX11_hold 5 = .ok (.aload_n 0, 1) := by decide +kernel
theorem dX11_hold_6 : decode cX11_hold 6 = .ok (.invokevirtual 130, 3) := by decide +kernel
theorem dX11_hold_9 : decode cX11_hold 9 = .ok (.aload_n 0, 1) := by decide +kernel
theorem dX11_hold_10 : decode cX11_hold 10 = .ok (.getfield 246, 3) := by decide +kernel
theorem dX11_hold_13 : decode cX11_hold 13 = .ok (.ifCond .ne 5, 3) := by decide +kernel
theorem dX11_hold_16 : decode cX11_hold 16 = .ok (.iconst 0, 1) := by decide +kernel
theorem dX11_hold_17 : decode cX11_hold 17 = .ok (.ireturn, 1) := by decide +kernel
theorem dX11_hold_18 : decode cX11_hold 18 = .ok (.iconst 0, 1) := by decide +kernel
theorem dX11_hold_19 : decode cX11_hold 19 = .ok (.istore_n 1, 1) := by decide +kernel
theorem dX11_hold_20 : decode cX11_hold 20 = .ok (.iload_n 1, 1) := by decide +kernel
theorem dX11_hold_21 : decode cX11_hold 21 = .ok (.aload_n 0, 1) := by decide +kernel
theorem dX11_hold_22 : decode cX11_hold 22 = .ok (.getfield 246, 3) := by decide +kernel
theorem dX11_hold_25 : decode cX11_hold 25 = .ok (.bipush 30, 2) := by decide +kernel
theorem dX11_hold_27 : decode cX11_hold 27 = .ok (.imul, 1) := by decide +kernel
theorem dX11_hold_28 : decode cX11_hold 28 = .ok (.if_icmp .ge 17, 3) := by decide +kernel
theorem dX11_hold_31 : decode cX11_hold 31 = .ok (.aload_n 0, 1) := by decide +kernel
theorem dX11_hold_32 : decode cX11_hold 32 = .ok (.getfield 102, 3) := by decide +kernel
theorem dX11_hold_35 : decode cX11_hold 35 = .ok (.iload_n 1, 1) := by decide +kernel
theorem dX11_hold_36 : decode cX11_hold 36 = .ok (.ldc 255, 2) := by decide +kernel
theorem dX11_hold_38 : decode cX11_hold 38 = .ok (.iastore, 1) := by decide +kernel
theorem dX11_hold_39 : decode cX11_hold 39 = .ok (.iinc 1 1, 3) := by decide +kernel
theorem dX11_hold_42 : decode cX11_hold 42 = .ok (.goto (-22), 3) := by decide +kernel
theorem dX11_hold_45 : decode cX11_hold 45 = .ok (.iconst 1, 1) := by decide +kernel
theorem dX11_hold_46 : decode cX11_hold 46 = .ok (.istore_n 1, 1) := by decide +kernel
theorem dX11_hold_47 : decode cX11_hold 47 = .ok (.iconst 0, 1) := by decide +kernel
theorem dX11_hold_48 : decode cX11_hold 48 = .ok (.istore_n 2, 1) := by decide +kernel
theorem dX11_hold_49 : decode cX11_hold 49 = .ok (.iload_n 2, 1) := by decide +kernel
theorem dX11_hold_50 : decode cX11_hold 50 = .ok (.aload_n 0, 1) := by decide +kernel
theorem dX11_hold_51 : decode cX11_hold 51 = .ok (.getfield 246, 3) := by decide +kernel
theorem dX11_hold_54 : decode cX11_hold 54 = .ok (.aload_n 0, 1) := by decide +kernel
theorem dX11_hold_55 : decode cX11_hold 55 = .ok (.getfield 126, 3) := by decide +kernel
theorem dX11_hold_58 : decode cX11_hold 58 = .ok (.imul, 1) := by decide +kernel
theorem dX11_hold_59 : decode cX11_hold 59 = .ok (.iconst 2, 1) := by decide +kernel
theorem dX11_hold_60 : decode cX11_hold 60 = .ok (.iadd, 1) := by decide +kernel
theorem dX11_hold_61 : decode cX11_hold 61 = .ok (.if_icmp .ge 70, 3) := by decide +kernel
theorem dX11_hold_64 : decode cX11_hold 64 = .ok (.iload_n 1, 1) := by decide +kernel
theorem dX11_hold_65 : decode cX11_hold 65 = .ok (.ifCond .eq 66, 3) := by decide +kernel
theorem dX11_hold_68 : decode cX11_hold 68 = .ok (.iconst 0, 1) := by decide +kernel
theorem dX11_hold_69 : decode cX11_hold 69 = .ok (.istore_n 1, 1) := by decide +kernel
theorem dX11_hold_70 : decode cX11_hold 70 = .ok (.aload_n 0, 1) := by decide +kernel
theorem dX11_hold_71 : decode cX11_hold 71 = .ok (.getfield 243, 3) := by decide +kernel
theorem dX11_hold_74 : decode cX11_hold 74 = .ok (.iconst 1, 1) := by decide +kernel
theorem dX11_hold_75 : decode cX11_hold 75 = .ok (.isub, 1) := by decide +kernel
theorem dX11_hold_76 : decode cX11_hold 76 = .ok (.istore_n 3, 1) := by decide +kernel
theorem dX11_hold_77 : decode cX11_hold 77 = .ok (.iload_n 3, 1) := by decide +kernel
theorem dX11_hold_78 : decode cX11_hold 78 = .ok (.ifCond .lt 47, 3) := by decide +kernel
theorem dX11_hold_81 : decode cX11_hold 81 = .ok (.iconst 0, 1) := by decide +kernel
theorem dX11_hold_82 : decode cX11_hold 82 = .ok (.istore 4, 2) := by decide +kernel
theorem dX11_hold_84 : decode cX11_hold 84 = .ok (.iload 4, 2) := by decide +kernel
theorem dX11_hold_86 : decode cX11_hold 86 = .ok (.aload_n 0, 1) := by decide +kernel
theorem dX11_hold_87 : decode cX11_hold 87 = .ok (.getfield 126, 3) := by decide +kernel
theorem dX11_hold_90 : decode cX11_hold 90 = .ok (.if_icmp .ge 29, 3) := by decide +kernel
theorem dX11_hold_93 : decode cX11_hold 93 = .ok (.aload_n 0, 1) := by decide +kernel
theorem dX11_hold_94 : decode cX11_hold 94 = .ok (.iload_n 3, 1) := by decide +kernel
theorem dX11_hold_95 : decode cX11_hold 95 = .ok (.iload 4, 2) := by decide +kernel
theorem dX11_hold_97 : decode cX11_hold 97 = .ok (.invokevirtual 256, 3) := by decide +kernel
theorem dX11_hold_100 : decode cX11_hold 100 = .ok (.ifCond .ne 7, 3) := by decide +kernel
theorem dX11_hold_103 : decode cX11_hold 103 = .ok (.iload_n 1, 1) := by decide +kernel
theorem dX11_hold_104 : decode cX11_hold 104 = .ok (.ifCond .eq 7, 3) := by decide +kernel
theorem dX11_hold_107 : decode cX11_hold 107 = .ok (.iconst 1, 1) := by decide +kernel
theorem dX11_hold_108 : decode cX11_hold 108 = .ok (.goto 4, 3) := by decide +kernel
theorem dX11_hold_111 : decode cX11_hold 111 = .ok (.iconst 0, 1) := by decide +kernel
theorem dX11_hold_112 : decode cX11_hold 112 = .ok (.istore_n 1, 1) := by decide +kernel
theorem dX11_hold_113 : decode cX11_hold 113 = .ok (.iinc 4 1, 3) := by decide +kernel
theorem dX11_hold_116 : decode cX11_hold 116 = .ok (.goto (-32), 3) := by decide +kernel
theorem dX11_hold_119 : decode cX11_hold 119 = .ok (.iinc 3 (-1), 3) := by decide +kernel
theorem dX11_hold_122 : decode cX11_hold 122 = .ok (.goto (-45), 3) := by decide +kernel
theorem dX11_hold_125 : decode cX11_hold 125 = .ok (.iinc 2 1, 3) := by decide +kernel
theorem dX11_hold_128 : decode cX11_hold 128 = .ok (.goto (-79), 3) := by decide +kernel
theorem dX11_hold_131 : decode cX11_hold 131 = .ok (.aload_n 0, 1) := by decide +kernel
theorem dX11_hold_132 : decode cX11_hold 132 = .ok (.getfield 102, 3) := by decide +kernel
theorem dX11_hold_135 : decode cX11_hold 135 = .ok (.iconst 0, 1) := by decide +kernel
theorem dX11_hold_136 : decode cX11_hold 136 = .ok (.iaload, 1) := by decide +kernel
theorem dX11_hold_137 : decode cX11_hold 137 = .ok (.ldc 255, 2) := by decide +kernel
theorem dX11_hold_139 : decode cX11_hold 139 = .ok (.if_icmp .ne 5, 3) := by decide +kernel
theorem dX11_hold_142 : decode cX11_hold 142 = .ok (.iconst 0, 1) := by decide +kernel
theorem dX11_hold_143 : decode cX11_hold 143 = .ok (.ireturn, 1) := by decide +kernel
theorem dX11_hold_144 : decode cX11_hold 144 = .ok (.iconst 0, 1) := by decide +kernel
theorem dX11_hold_145 : decode cX11_hold 145 = .ok (.istore_n 2, 1) := by decide +kernel
theorem dX11_hold_146 : decode cX11_hold 146 = .ok (.iload_n 2, 1) := by decide +kernel
theorem dX11_hold_147 : decode cX11_hold 147 = .ok (.aload_n 0, 1) := by decide +kernel
theorem dX11_hold_148 : decode cX11_hold 148 = .ok (.getfield 246, 3) := by decide +kernel
theorem dX11_hold_151 : decode cX11_hold 151 = .ok (.if_icmp .ge 24, 3) := by decide +kernel
theorem dX11_hold_154 : decode cX11_hold 154 = .ok (.aload_n 0, 1) := by decide +kernel
theorem dX11_hold_155 : decode cX11_hold 155 = .ok (.getfield 105, 3) := by decide +kernel
theorem dX11_hold_158 : decode cX11_hold 158 = .ok (.iload_n 2, 1) := by decide +kernel
theorem dX11_hold_159 : decode cX11_hold 159 = .ok (.iload_n 2, 1) := by decide +kernel
theorem dX11_hold_160 : decode cX11_hold 160 = .ok (.ifCond .ne 7, 3) := by decide +kernel
theorem dX11_hold_163 : decode cX11_hold 163 = .ok (.iconst 1, 1) := by decide +kernel
theorem dX11_hold_164 : decode cX11_hold 164 = .ok (.goto 4, 3) := by decide +kernel
theorem dX11_hold_167 : decode cX11_hold 167 = .ok (.iconst 0, 1) := by decide +kernel
theorem dX11_hold_168 : decode cX11_hold 168 = .ok (.bastore, 1) := by decide +kernel
theorem dX11_hold_169 : decode cX11_hold 169 = .ok (.iinc 2 1, 3) := by decide +kernel
theorem dX11_hold_172 : decode cX11_hold 172 = .ok (.goto (-26), 3) := by decide +kernel
theorem dX11_hold_175 : decode cX11_hold 175 = .ok (.iconst 0, 1) := by decide +kernel
theorem dX11_hold_176 : decode cX11_hold 176 = .ok (.istore_n 2, 1) := by decide +kernel
theorem dX11_hold_177 : decode cX11_hold 177 = .ok (.aload_n 0, 1) := by decide +kernel
theorem dX11_hold_178 : decode cX11_hold 178 = .ok (.getfield 102, 3) := by decide +kernel
theorem dX11_hold_181 : decode cX11_hold 181 = .ok (.iconst 0, 1) := by decide +kernel
theorem dX11_hold_182 : decode cX11_hold 182 = .ok (.iaload, 1) := by decide +kernel
theorem dX11_hold_183 : decode cX11_hold 183 = .ok (.istore_n 3, 1) := by decide +kernel
theorem dX11_hold_184 : decode cX11_hold 184 = .ok (.iload_n 3, 1) := by decide +kernel
theorem dX11_hold_185 : decode cX11_hold 185 = .ok (.ifCond .le 52, 3) := by decide +kernel
theorem dX11_hold_188 : decode cX11_hold 188 = .ok (.aload_n 0, 1) := by decide +kernel
theorem dX11_hold_189 : decode cX11_hold 189 = .ok (.invokevirtual 259, 3) := by decide +kernel
theorem dX11_hold_192 : decode cX11_hold 192 = .ok (.iconst 0, 1) := by decide +kernel
theorem dX11_hold_193 : decode cX11_hold 193 = .ok (.istore 4, 2) := by decide +kernel
theorem dX11_hold_195 : decode cX11_hold 195 = .ok (.aload_n 0, 1) := by decide +kernel
theorem dX11_hold_196 : decode cX11_hold 196 = .ok (.iload 4, 2) := by decide +kernel
theorem dX11_hold_198 : decode cX11_hold 198 = .ok (.iload_n 2, 1) := by decide +kernel
theorem dX11_hold_199 : decode cX11_hold 199 = .ok (.iload_n 3, 1) := by decide +kernel
theorem dX11_hold_200 : decode cX11_hold 200 = .ok (.invokevirtual 262, 3) := by decide +kernel
theorem dX11_hold_203 : decode cX11_hold 203 = .ok (.ifCond .ne 9, 3) := by decide +kernel
theorem dX11_hold_206 : decode cX11_hold 206 = .ok (.iinc 4 1, 3) := by decide +kernel
theorem dX11_hold_209 : decode cX11_hold 209 = .ok (.goto (-14), 3) := by decide +kernel
theorem dX11_hold_212 : decode cX11_hold 212 = .ok (.aload_n 0, 1) := by decide +kernel
theorem dX11_hold_213 : decode cX11_hold 213 = .ok (.iload 4, 2) := by decide +kernel
theorem dX11_hold_215 : decode cX11_hold 215 = .ok (.invokevirtual 265, 3) := by decide +kernel
theorem dX11_hold_218 : decode cX11_hold 218 = .ok (.iload_n 3, 1) := by decide +kernel
theorem dX11_hold_219 : decode cX11_hold 219 = .ok (.iconst 1, 1) := by decide +kernel
theorem dX11_hold_220 : decode cX11_hold 220 = .ok (.if_icmp .le 11, 3) := by decide +kernel
theorem dX11_hold_223 : decode cX11_hold 223 = .ok (.aload_n 0, 1) := by decide +kernel
theorem dX11_hold_224 : decode cX11_hold 224 = .ok (.iload 4, 2) := by decide +kernel
theorem dX11_hold_226 : decode cX11_hold 226 = .ok (.iload_n 2, 1) := by decide +kernel
theorem dX11_hold_227 : decode cX11_hold 227 = .ok (.invokevirtual 269, 3) := by decide +kernel
theorem dX11_hold_230 : decode cX11_hold 230 = .ok (.istore_n 2, 1) := by decide +kernel
theorem dX11_hold_231 : decode cX11_hold 231 = .ok (.iinc 3 (-1), 3) := by decide +kernel
theorem dX11_hold_234 : decode cX11_hold 234 = .ok (.goto (-50), 3) := by decide +kernel
theorem dX11_hold_237 : decode cX11_hold 237 = .ok (.aload_n 0, 1) := by decide +kernel
theorem dX11_hold_238 : decode cX11_hold 238 = .ok (.getfield 252, 3) := by decide +kernel
theorem dX11_hold_241 : decode cX11_hold 241 = .ok (.ireturn, 1) := by decide +kernel
theorem dX11_isNearer_0 : decode cX11_isNearer 0 = .ok (.aload_n 0, 1) := by decide +kernel
theorem dX11_isNearer_1 : decode cX11_isNearer 1 = .ok (.getfield 84, 3) := by decide +kernel
theorem dX11_isNearer_4 : decode cX11_isNearer 4 = .ok (.iload_n 1, 1) := by decide +kernel
theorem dX11_isNearer_5 : decode cX11_isNearer 5 = .ok (.iaload, 1) := by decide +kernel
theorem dX11_isNearer_6 : decode cX11_isNearer 6 = .ok (.bipush 30, 2) := by decide +kernel
theorem dX11_isNearer_8 : decode cX11_isNearer 8 = .ok (.imul, 1) := by decide +kernel
theorem dX11_isNearer_9 : decode cX11_isNearer 9 = .ok (.iload_n 2, 1) := by decide +kernel
theorem dX11_isNearer_10 : decode cX11_isNearer 10 = .ok (.iadd, 1) := by decide +kernel
theorem dX11_isNearer_11 : decode cX11_isNearer 11 = .ok (.istore_n 3, 1) := by decide +kernel
theorem dX11_isNearer_12 : decode cX11_isNearer 12 = .ok (.aload_n 0, 1) := by decide +kernel
theorem dX11_isNearer_13 : decode cX11_isNearer 13 = .ok (.getfield 90, 3) := by decide +kernel
theorem dX11_isNearer_16 : decode cX11_isNearer 16 = .ok (.iload_n 1, 1) := by decide +kernel
theorem dX11_isNearer_17 : decode cX11_isNearer 17 = .ok (.iaload, 1) := by decide +kernel
theorem dX11_isNearer_18 : decode cX11_isNearer 18 = .ok (.istore 4, 2) := by decide +kernel
theorem dX11_isNearer_20 : decode cX11_isNearer 20 = .ok (.iload 4, 2) := by decide +kernel
theorem dX11_isNearer_22 : decode cX11_isNearer 22 = .ok (.bipush 8, 2) := by decide +kernel
theorem dX11_isNearer_24 : decode cX11_isNearer 24 = .ok (.if_icmp .ne 24, 3) := by decide +kernel
theorem dX11_isNearer_27 : decode cX11_isNearer 27 = .ok (.aload_n 0, 1) := by decide +kernel
theorem dX11_isNearer_28 : decode cX11_isNearer 28 = .ok (.getfield 102, 3) := by decide +kernel
theorem dX11_isNearer_31 : decode cX11_isNearer 31 = .ok (.aload_n 0, 1) := by decide +kernel
theorem dX11_isNearer_32 : decode cX11_isNearer 32 = .ok (.getfield 87, 3) := by decide +kernel
theorem dX11_isNearer_35 : decode cX11_isNearer 35 = .ok (.iload_n 1, 1) := by decide +kernel
theorem dX11_isNearer_36 : decode cX11_isNearer 36 = .ok (.iaload, 1) := by decide +kernel
theorem dX11_isNearer_37 : decode cX11_isNearer 37 = .ok (.bipush 30, 2) := by decide +kernel
theorem dX11_isNearer_39 : decode cX11_isNearer 39 = .ok (.imul, 1) := by decide +kernel
theorem dX11_isNearer_40 : decode cX11_isNearer 40 = .ok (.iload_n 2, 1) := by decide +kernel
theorem dX11_isNearer_41 : decode cX11_isNearer 41 = .ok (.iadd, 1) := by decide +kernel
theorem dX11_isNearer_42 : decode cX11_isNearer 42 = .ok (.iaload, 1) := by decide +kernel
theorem dX11_isNearer_43 : decode cX11_isNearer 43 = .ok (.istore 5, 2) := by decide +kernel
theorem dX11_isNearer_45 : decode cX11_isNearer 45 = .ok (.goto 53, 3) := by decide +kernel
theorem dX11_isNearer_48 : decode cX11_isNearer 48 = .ok (.aload_n 0, 1) := by decide +kernel
theorem dX11_isNearer_49 : decode cX11_isNearer 49 = .ok (.getfield 65, 3) := by decide +kernel
theorem dX11_isNearer_52 : decode cX11_isNearer 52 = .ok (.bipush 8, 2) := by decide +kernel
theorem dX11_isNearer_54 : decode cX11_isNearer 54 = .ok (.iload_n 2, 1) := by decide +kernel
theorem dX11_isNearer_55 : decode cX11_isNearer 55 = .ok (.imul, 1) := by decide +kernel
theorem dX11_isNearer_56 : decode cX11_isNearer 56 = .ok (.iload 4, 2) := by decide +kernel
theorem dX11_isNearer_58 : decode cX11_isNearer 58 = .ok (.iadd, 1) := by decide +kernel
theorem dX11_isNearer_59 : decode cX11_isNearer 59 = .ok (.iaload, 1) := by decide +kernel
theorem dX11_isNearer_60 : decode cX11_isNearer 60 = .ok (.ifCond .ge 7, 3) := by decide +kernel
theorem dX11_isNearer_63 : decode cX11_isNearer 63 = .ok (.iconst 1, 1) := by decide +kernel
theorem dX11_isNearer_64 : decode cX11_isNearer 64 = .ok (.goto 32, 3) := by decide +kernel
theorem dX11_isNearer_67 : decode cX11_isNearer 67 = .ok (.iconst 1, 1) := by decide +kernel
theorem dX11_isNearer_68 : decode cX11_isNearer 68 = .ok (.aload_n 0, 1) := by decide +kernel
theorem dX11_isNearer_69 : decode cX11_isNearer 69 = .ok (.getfield 102, 3) := by decide +kernel
theorem dX11_isNearer_72 : decode cX11_isNearer 72 = .ok (.aload_n 0, 1) := by decide +kernel
theorem dX11_isNearer_73 : decode cX11_isNearer 73 = .ok (.getfield 87, 3) := by decide +kernel
theorem dX11_isNearer_76 : decode cX11_isNearer 76 = .ok (.iload_n 1, 1) := by decide +kernel
theorem dX11_isNearer_77 : decode cX11_isNearer 77 = .ok (.iaload, 1) := by decide +kernel
theorem dX11_isNearer_78 : decode cX11_isNearer 78 = .ok (.bipush 30, 2) := by decide +kernel
theorem dX11_isNearer_80 : decode cX11_isNearer 80 = .ok (.imul, 1) := by decide +kernel
theorem dX11_isNearer_81 : decode cX11_isNearer 81 = .ok (.aload_n 0, 1) := by decide +kernel
theorem dX11_isNearer_82 : decode cX11_isNearer 82 = .ok (.getfield 65, 3) := by decide +kernel
theorem dX11_isNearer_85 : decode cX11_isNearer 85 = .ok (.bipush 8, 2) := by decide +kernel
theorem dX11_isNearer_87 : decode cX11_isNearer 87 = .ok (.iload_n 2, 1) := by decide +kernel
theorem dX11_isNearer_88 : decode cX11_isNearer 88 = .ok (.imul, 1) := by decide +kernel
theorem dX11_isNearer_89 : decode cX11_isNearer 89 = .ok (.iload 4, 2) := by decide +kernel
theorem dX11_isNearer_91 : decode cX11_isNearer 91 = .ok (.iadd, 1) := by decide +kernel
theorem dX11_isNearer_92 : decode cX11_isNearer 92 = .ok (.iaload, 1) := by decide +kernel
theorem dX11_isNearer_93 : decode cX11_isNearer 93 = .ok (.iadd, 1) := by decide +kernel
theorem dX11_isNearer_94 : decode cX11_isNearer 94 = .ok (.iaload, 1) := by decide +kernel
theorem dX11_isNearer_95 : decode cX11_isNearer 95 = .ok (.iadd, 1) := by decide +kernel
theorem dX11_isNearer_96 : decode cX11_isNearer 96 = .ok (.istore 5, 2) := by decide +kernel
theorem dX11_isNearer_98 : decode cX11_isNearer 98 = .ok (.iload 5, 2) := by decide +kernel
theorem dX11_isNearer_100 : decode cX11_isNearer 100 = .ok (.aload_n 0, 1) := by decide +kernel
theorem dX11_isNearer_101 : decode cX11_isNearer 101 = .ok (.getfield 102, 3) := by decide +kernel
theorem dX11_isNearer_104 : decode cX11_isNearer 104 = .ok (.iload_n 3, 1) := by decide +kernel
theorem dX11_isNearer_105 : decode cX11_isNearer 105 = .ok (.iaload, 1) := by decide +kernel
theorem dX11_isNearer_106 : decode cX11_isNearer 106 = .ok (.if_icmp .lt 5, 3) := by decide +kernel
theorem dX11_isNearer_109 : decode cX11_isNearer 109 = .ok (.iconst 0, 1) := by decide +kernel
theorem dX11_isNearer_110 : decode cX11_isNearer 110 = .ok (.ireturn, 1) := by decide +kernel
theorem dX11_isNearer_111 : decode cX11_isNearer 111 = .ok (.aload_n 0, 1) := by decide +kernel
theorem dX11_isNearer_112 : decode cX11_isNearer 112 = .ok (.getfield 102, 3) := by decide +kernel
theorem dX11_isNearer_115 : decode cX11_isNearer 115 = .ok (.iload_n 3, 1) := by decide +kernel
theorem dX11_isNearer_116 : decode cX11_isNearer 116 = .ok (.iload 5, 2) := by decide +kernel
theorem dX11_isNearer_118 : decode cX11_isNearer 118 = .ok (.iastore, 1) := by decide +kernel
theorem dX11_isNearer_119 : decode cX11_isNearer 119 = .ok (.iconst 1, 1) := by decide +kernel
theorem dX11_isNearer_120 : decode cX11_isNearer 120 = .ok (.ireturn, 1) := by decide +kernel
theorem dX11_closes_0 : decode cX11_closes 0 = .ok (.iconst 1, 1) := by decide +kernel
theorem dX11_closes_1 : decode cX11_closes 1 = .ok (.istore_n 1, 1) := by decide +kernel
theorem dX11_closes_2 : decode cX11_closes 2 = .ok (.iload_n 1, 1) := by decide +kernel
theorem dX11_closes_3 : decode cX11_closes 3 = .ok (.ifCond .eq 80, 3) := by decide +kernel
theorem dX11_closes_6 : decode cX11_closes 6 = .ok (.iconst 0, 1) := by decide +kernel
theorem dX11_closes_7 : decode cX11_closes 7 = .ok (.istore_n 1, 1) := by decide +kernel
theorem dX11_closes_8 : decode cX11_closes 8 = .ok (.iconst 0, 1) := by decide +kernel
theorem dX11_closes_9 : decode cX11_closes 9 = .ok (.istore_n 2, 1) := by decide +kernel
theorem dX11_closes_10 : decode cX11_closes 10 = .ok (.iload_n 2, 1) := by decide +kernel
theorem dX11_closes_11 : decode cX11_closes 11 = .ok (.aload_n 0, 1) := by decide +kernel
theorem dX11_closes_12 : decode cX11_closes 12 = .ok (.getfield 243, 3) := by decide +kernel
theorem dX11_closes_15 : decode cX11_closes 15 = .ok (.if_icmp .ge 65, 3) := by decide +kernel
theorem dX11_closes_18 : decode cX11_closes 18 = .ok (.aload_n 0, 1) := by decide +kernel
theorem dX11_closes_19 : decode cX11_closes 19 = .ok (.getfield 90, 3) := by decide +kernel
theorem dX11_closes_22 : decode cX11_closes 22 = .ok (.iload_n 2, 1) := by decide +kernel
theorem dX11_closes_23 : decode cX11_closes 23 = .ok (.iaload, 1) := by decide +kernel
theorem dX11_closes_24 : decode cX11_closes 24 = .ok (.bipush 8, 2) := by decide +kernel
theorem dX11_closes_26 : decode cX11_closes 26 = .ok (.if_icmp .ne 48, 3) := by decide +kernel
theorem dX11_closes_29 : decode cX11_closes 29 = .ok (.aload_n 0, 1) := by decide +kernel
theorem dX11_closes_30 : decode cX11_closes 30 = .ok (.getfield 105, 3) := by decide +kernel
theorem dX11_closes_33 : decode cX11_closes 33 = .ok (.aload_n 0, 1) := by decide +kernel
theorem dX11_closes_34 : decode cX11_closes 34 = .ok (.getfield 84, 3) := by decide +kernel
theorem dX11_closes_37 : decode cX11_closes 37 = .ok (.iload_n 2, 1) := by decide +kernel
theorem dX11_closes_38 : decode cX11_closes 38 = .ok (.iaload, 1) := by decide +kernel
theorem dX11_closes_39 : decode cX11_closes 39 = .ok (.baload, 1) := by decide +kernel
theorem dX11_closes_40 : decode cX11_closes 40 = .ok (.ifCond .eq 34, 3) := by decide +kernel
theorem dX11_closes_43 : decode cX11_closes 43 = .ok (.aload_n 0, 1) := by decide +kernel
theorem dX11_closes_44 : decode cX11_closes 44 = .ok (.getfield 105, 3) := by decide +kernel
theorem dX11_closes_47 : decode cX11_closes 47 = .ok (.aload_n 0, 1) := by decide +kernel
theorem dX11_closes_48 : decode cX11_closes 48 = .ok (.getfield 87, 3) := by decide +kernel
theorem dX11_closes_51 : decode cX11_closes 51 = .ok (.iload_n 2, 1) := by decide +kernel
theorem dX11_closes_52 : decode cX11_closes 52 = .ok (.iaload, 1) := by decide +kernel
theorem dX11_closes_53 : decode cX11_closes 53 = .ok (.baload, 1) := by decide +kernel
theorem dX11_closes_54 : decode cX11_closes 54 = .ok (.ifCond .eq 6, 3) := by decide +kernel
theorem dX11_closes_57 : decode cX11_closes 57 = .ok (.goto 17, 3) := by decide +kernel
theorem dX11_closes_60 : decode cX11_closes 60 = .ok (.aload_n 0, 1) := by decide +kernel
theorem dX11_closes_61 : decode cX11_closes 61 = .ok (.getfield 105, 3) := by decide +kernel
theorem dX11_closes_64 : decode cX11_closes 64 = .ok (.aload_n 0, 1) := by decide +kernel
theorem dX11_closes_65 : decode cX11_closes 65 = .ok (.getfield 87, 3) := by decide +kernel
theorem dX11_closes_68 : decode cX11_closes 68 = .ok (.iload_n 2, 1) := by decide +kernel
theorem dX11_closes_69 : decode cX11_closes 69 = .ok (.iaload, 1) := by decide +kernel
theorem dX11_closes_70 : decode cX11_closes 70 = .ok (.iconst 1, 1) := by decide +kernel
theorem dX11_closes_71 : decode cX11_closes 71 = .ok (.bastore, 1) := by decide +kernel
theorem dX11_closes_72 : decode cX11_closes 72 = .ok (.iconst 1, 1) := by decide +kernel
theorem dX11_closes_73 : decode cX11_closes 73 = .ok (.istore_n 1, 1) := by decide +kernel
theorem dX11_closes_74 : decode cX11_closes 74 = .ok (.iinc 2 1, 3) := by decide +kernel
theorem dX11_closes_77 : decode cX11_closes 77 = .ok (.goto (-67), 3) := by decide +kernel
theorem dX11_closes_80 : decode cX11_closes 80 = .ok (.goto (-78), 3) := by decide +kernel
theorem dX11_closes_83 : decode cX11_closes 83 = .ok (.return_, 1) := by decide +kernel
theorem dX11_leads_0 : decode cX11_leads 0 = .ok (.iconst 0, 1) := by decide +kernel
theorem dX11_leads_1 : decode cX11_leads 1 = .ok (.istore 4, 2) := by decide +kernel
theorem dX11_leads_3 : decode cX11_leads 3 = .ok (.iload 4, 2) := by decide +kernel
theorem dX11_leads_5 : decode cX11_leads 5 = .ok (.aload_n 0, 1) := by decide +kernel
theorem dX11_leads_6 : decode cX11_leads 6 = .ok (.getfield 243, 3) := by decide +kernel
theorem dX11_leads_9 : decode cX11_leads 9 = .ok (.if_icmp .ge 90, 3) := by decide +kernel
theorem dX11_leads_12 : decode cX11_leads 12 = .ok (.aload_n 0, 1) := by decide +kernel
theorem dX11_leads_13 : decode cX11_leads 13 = .ok (.getfield 90, 3) := by decide +kernel
theorem dX11_leads_16 : decode cX11_leads 16 = .ok (.iload 4, 2) := by decide +kernel
theorem dX11_leads_18 : decode cX11_leads 18 = .ok (.iaload, 1) := by decide +kernel
theorem dX11_leads_19 : decode cX11_leads 19 = .ok (.iload_n 1, 1) := by decide +kernel
theorem dX11_leads_20 : decode cX11_leads 20 = .ok (.if_icmp .ne 73, 3) := by decide +kernel
theorem dX11_leads_23 : decode cX11_leads 23 = .ok (.aload_n 0, 1) := by decide +kernel
theorem dX11_leads_24 : decode cX11_leads 24 = .ok (.getfield 105, 3) := by decide +kernel
theorem dX11_leads_27 : decode cX11_leads 27 = .ok (.aload_n 0, 1) := by decide +kernel
theorem dX11_leads_28 : decode cX11_leads 28 = .ok (.getfield 84, 3) := by decide +kernel
theorem dX11_leads_31 : decode cX11_leads 31 = .ok (.iload 4, 2) := by decide +kernel
theorem dX11_leads_33 : decode cX11_leads 33 = .ok (.iaload, 1) := by decide +kernel
theorem dX11_leads_34 : decode cX11_leads 34 = .ok (.baload, 1) := by decide +kernel
theorem dX11_leads_35 : decode cX11_leads 35 = .ok (.ifCond .ne 6, 3) := by decide +kernel
theorem dX11_leads_38 : decode cX11_leads 38 = .ok (.goto 55, 3) := by decide +kernel
theorem dX11_leads_41 : decode cX11_leads 41 = .ok (.aload_n 0, 1) := by decide +kernel
theorem dX11_leads_42 : decode cX11_leads 42 = .ok (.getfield 65, 3) := by decide +kernel
theorem dX11_leads_45 : decode cX11_leads 45 = .ok (.bipush 8, 2) := by decide +kernel
theorem dX11_leads_47 : decode cX11_leads 47 = .ok (.iload_n 2, 1) := by decide +kernel
theorem dX11_leads_48 : decode cX11_leads 48 = .ok (.imul, 1) := by decide +kernel
theorem dX11_leads_49 : decode cX11_leads 49 = .ok (.iload_n 1, 1) := by decide +kernel
theorem dX11_leads_50 : decode cX11_leads 50 = .ok (.iadd, 1) := by decide +kernel
theorem dX11_leads_51 : decode cX11_leads 51 = .ok (.iaload, 1) := by decide +kernel
theorem dX11_leads_52 : decode cX11_leads 52 = .ok (.istore 5, 2) := by decide +kernel
theorem dX11_leads_54 : decode cX11_leads 54 = .ok (.iload 5, 2) := by decide +kernel
theorem dX11_leads_56 : decode cX11_leads 56 = .ok (.ifCond .ge 11, 3) := by decide +kernel
theorem dX11_leads_59 : decode cX11_leads 59 = .ok (.iload_n 3, 1) := by decide +kernel
theorem dX11_leads_60 : decode cX11_leads 60 = .ok (.iconst 1, 1) := by decide +kernel
theorem dX11_leads_61 : decode cX11_leads 61 = .ok (.if_icmp .ne 32, 3) := by decide +kernel
theorem dX11_leads_64 : decode cX11_leads 64 = .ok (.goto 27, 3) := by decide +kernel
theorem dX11_leads_67 : decode cX11_leads 67 = .ok (.iconst 1, 1) := by decide +kernel
theorem dX11_leads_68 : decode cX11_leads 68 = .ok (.aload_n 0, 1) := by decide +kernel
theorem dX11_leads_69 : decode cX11_leads 69 = .ok (.getfield 102, 3) := by decide +kernel
theorem dX11_leads_72 : decode cX11_leads 72 = .ok (.aload_n 0, 1) := by decide +kernel
theorem dX11_leads_73 : decode cX11_leads 73 = .ok (.getfield 87, 3) := by decide +kernel
theorem dX11_leads_76 : decode cX11_leads 76 = .ok (.iload 4, 2) := by decide +kernel
theorem dX11_leads_78 : decode cX11_leads 78 = .ok (.iaload, 1) := by decide +kernel
theorem dX11_leads_79 : decode cX11_leads 79 = .ok (.bipush 30, 2) := by decide +kernel
theorem dX11_leads_81 : decode cX11_leads 81 = .ok (.imul, 1) := by decide +kernel
theorem dX11_leads_82 : decode cX11_leads 82 = .ok (.iload 5, 2) := by decide +kernel
theorem dX11_leads_84 : decode cX11_leads 84 = .ok (.iadd, 1) := by decide +kernel
theorem dX11_leads_85 : decode cX11_leads 85 = .ok (.iaload, 1) := by decide +kernel
theorem dX11_leads_86 : decode cX11_leads 86 = .ok (.iadd, 1) := by decide +kernel
theorem dX11_leads_87 : decode cX11_leads 87 = .ok (.iload_n 3, 1) := by decide +kernel
theorem dX11_leads_88 : decode cX11_leads 88 = .ok (.if_icmp .ne 5, 3) := by decide +kernel
theorem dX11_leads_91 : decode cX11_leads 91 = .ok (.iconst 1, 1) := by decide +kernel
theorem dX11_leads_92 : decode cX11_leads 92 = .ok (.ireturn, 1) := by decide +kernel
theorem dX11_leads_93 : decode cX11_leads 93 = .ok (.iinc 4 1, 3) := by decide +kernel
theorem dX11_leads_96 : decode cX11_leads 96 = .ok (.goto (-93), 3) := by decide +kernel
theorem dX11_leads_99 : decode cX11_leads 99 = .ok (.iconst 0, 1) := by decide +kernel
theorem dX11_leads_100 : decode cX11_leads 100 = .ok (.ireturn, 1) := by decide +kernel
theorem dX11_goesOn_0 : decode cX11_goesOn 0 = .ok (.iconst 0, 1) := by decide +kernel
theorem dX11_goesOn_1 : decode cX11_goesOn 1 = .ok (.istore_n 3, 1) := by decide +kernel
theorem dX11_goesOn_2 : decode cX11_goesOn 2 = .ok (.iload_n 3, 1) := by decide +kernel
theorem dX11_goesOn_3 : decode cX11_goesOn 3 = .ok (.aload_n 0, 1) := by decide +kernel
theorem dX11_goesOn_4 : decode cX11_goesOn 4 = .ok (.getfield 246, 3) := by decide +kernel
theorem dX11_goesOn_7 : decode cX11_goesOn 7 = .ok (.if_icmp .ge 16, 3) := by decide +kernel
theorem dX11_goesOn_10 : decode cX11_goesOn 10 = .ok (.aload_n 0, 1) := by decide +kernel
theorem dX11_goesOn_11 : decode cX11_goesOn 11 = .ok (.getfield 108, 3) := by decide +kernel
theorem dX11_goesOn_14 : decode cX11_goesOn 14 = .ok (.iload_n 3, 1) := by decide +kernel
theorem dX11_goesOn_15 : decode cX11_goesOn 15 = .ok (.iconst 0, 1) := by decide +kernel
theorem dX11_goesOn_16 : decode cX11_goesOn 16 = .ok (.bastore, 1) := by decide +kernel
theorem dX11_goesOn_17 : decode cX11_goesOn 17 = .ok (.iinc 3 1, 3) := by decide +kernel
theorem dX11_goesOn_20 : decode cX11_goesOn 20 = .ok (.goto (-18), 3) := by decide +kernel
theorem dX11_goesOn_23 : decode cX11_goesOn 23 = .ok (.iconst 0, 1) := by decide +kernel
theorem dX11_goesOn_24 : decode cX11_goesOn 24 = .ok (.istore_n 3, 1) := by decide +kernel
theorem dX11_goesOn_25 : decode cX11_goesOn 25 = .ok (.iload_n 3, 1) := by decide +kernel
theorem dX11_goesOn_26 : decode cX11_goesOn 26 = .ok (.aload_n 0, 1) := by decide +kernel
theorem dX11_goesOn_27 : decode cX11_goesOn 27 = .ok (.getfield 243, 3) := by decide +kernel
theorem dX11_goesOn_30 : decode cX11_goesOn 30 = .ok (.if_icmp .ge 45, 3) := by decide +kernel
theorem dX11_goesOn_33 : decode cX11_goesOn 33 = .ok (.aload_n 0, 1) := by decide +kernel
theorem dX11_goesOn_34 : decode cX11_goesOn 34 = .ok (.getfield 90, 3) := by decide +kernel
theorem dX11_goesOn_37 : decode cX11_goesOn 37 = .ok (.iload_n 3, 1) := by decide +kernel
theorem dX11_goesOn_38 : decode cX11_goesOn 38 = .ok (.iaload, 1) := by decide +kernel
theorem dX11_goesOn_39 : decode cX11_goesOn 39 = .ok (.iload_n 1, 1) := by decide +kernel
theorem dX11_goesOn_40 : decode cX11_goesOn 40 = .ok (.if_icmp .ne 29, 3) := by decide +kernel
theorem dX11_goesOn_43 : decode cX11_goesOn 43 = .ok (.aload_n 0, 1) := by decide +kernel
theorem dX11_goesOn_44 : decode cX11_goesOn 44 = .ok (.getfield 105, 3) := by decide +kernel
theorem dX11_goesOn_47 : decode cX11_goesOn 47 = .ok (.aload_n 0, 1) := by decide +kernel
theorem dX11_goesOn_48 : decode cX11_goesOn 48 = .ok (.getfield 84, 3) := by decide +kernel
theorem dX11_goesOn_51 : decode cX11_goesOn 51 = .ok (.iload_n 3, 1) := by decide +kernel
theorem dX11_goesOn_52 : decode cX11_goesOn 52 = .ok (.iaload, 1) := by decide +kernel
theorem dX11_goesOn_53 : decode cX11_goesOn 53 = .ok (.baload, 1) := by decide +kernel
theorem dX11_goesOn_54 : decode cX11_goesOn 54 = .ok (.ifCond .eq 15, 3) := by decide +kernel
theorem dX11_goesOn_57 : decode cX11_goesOn 57 = .ok (.aload_n 0, 1) := by decide +kernel
theorem dX11_goesOn_58 : decode cX11_goesOn 58 = .ok (.getfield 108, 3) := by decide +kernel
theorem dX11_goesOn_61 : decode cX11_goesOn 61 = .ok (.aload_n 0, 1) := by decide +kernel
theorem dX11_goesOn_62 : decode cX11_goesOn 62 = .ok (.getfield 87, 3) := by decide +kernel
theorem dX11_goesOn_65 : decode cX11_goesOn 65 = .ok (.iload_n 3, 1) := by decide +kernel
theorem dX11_goesOn_66 : decode cX11_goesOn 66 = .ok (.iaload, 1) := by decide +kernel
theorem dX11_goesOn_67 : decode cX11_goesOn 67 = .ok (.iconst 1, 1) := by decide +kernel
theorem dX11_goesOn_68 : decode cX11_goesOn 68 = .ok (.bastore, 1) := by decide +kernel
theorem dX11_goesOn_69 : decode cX11_goesOn 69 = .ok (.iinc 3 1, 3) := by decide +kernel
theorem dX11_goesOn_72 : decode cX11_goesOn 72 = .ok (.goto (-47), 3) := by decide +kernel
theorem dX11_goesOn_75 : decode cX11_goesOn 75 = .ok (.iconst 0, 1) := by decide +kernel
theorem dX11_goesOn_76 : decode cX11_goesOn 76 = .ok (.istore_n 3, 1) := by decide +kernel
theorem dX11_goesOn_77 : decode cX11_goesOn 77 = .ok (.iload_n 3, 1) := by decide +kernel
theorem dX11_goesOn_78 : decode cX11_goesOn 78 = .ok (.aload_n 0, 1) := by decide +kernel
theorem dX11_goesOn_79 : decode cX11_goesOn 79 = .ok (.getfield 246, 3) := by decide +kernel
theorem dX11_goesOn_82 : decode cX11_goesOn 82 = .ok (.if_icmp .ge 21, 3) := by decide +kernel
theorem dX11_goesOn_85 : decode cX11_goesOn 85 = .ok (.aload_n 0, 1) := by decide +kernel
theorem dX11_goesOn_86 : decode cX11_goesOn 86 = .ok (.getfield 105, 3) := by decide +kernel
theorem dX11_goesOn_89 : decode cX11_goesOn 89 = .ok (.iload_n 3, 1) := by decide +kernel
theorem dX11_goesOn_90 : decode cX11_goesOn 90 = .ok (.aload_n 0, 1) := by decide +kernel
theorem dX11_goesOn_91 : decode cX11_goesOn 91 = .ok (.getfield 108, 3) := by decide +kernel
theorem dX11_goesOn_94 : decode cX11_goesOn 94 = .ok (.iload_n 3, 1) := by decide +kernel
theorem dX11_goesOn_95 : decode cX11_goesOn 95 = .ok (.baload, 1) := by decide +kernel
theorem dX11_goesOn_96 : decode cX11_goesOn 96 = .ok (.bastore, 1) := by decide +kernel
theorem dX11_goesOn_97 : decode cX11_goesOn 97 = .ok (.iinc 3 1, 3) := by decide +kernel
theorem dX11_goesOn_100 : decode cX11_goesOn 100 = .ok (.goto (-23), 3) := by decide +kernel
theorem dX11_goesOn_103 : decode cX11_goesOn 103 = .ok (.aload_n 0, 1) := by decide +kernel
theorem dX11_goesOn_104 : decode cX11_goesOn 104 = .ok (.getfield 65, 3) := by decide +kernel
theorem dX11_goesOn_107 : decode cX11_goesOn 107 = .ok (.bipush 8, 2) := by decide +kernel
theorem dX11_goesOn_109 : decode cX11_goesOn 109 = .ok (.iload_n 2, 1) := by decide +kernel
theorem dX11_goesOn_110 : decode cX11_goesOn 110 = .ok (.imul, 1) := by decide +kernel
theorem dX11_goesOn_111 : decode cX11_goesOn 111 = .ok (.iload_n 1, 1) := by decide +kernel
theorem dX11_goesOn_112 : decode cX11_goesOn 112 = .ok (.iadd, 1) := by decide +kernel
theorem dX11_goesOn_113 : decode cX11_goesOn 113 = .ok (.iaload, 1) := by decide +kernel
theorem dX11_goesOn_114 : decode cX11_goesOn 114 = .ok (.ireturn, 1) := by decide +kernel
theorem dX11_breaksOn_0 : decode cX11_breaksOn 0 = .ok (.aload_n 0, 1) := by decide +kernel
theorem dX11_breaksOn_1 : decode cX11_breaksOn 1 = .ok (.getfield 252, 3) := by decide +kernel
theorem dX11_breaksOn_4 : decode cX11_breaksOn 4 = .ok (.aload_n 0, 1) := by decide +kernel
theorem dX11_breaksOn_5 : decode cX11_breaksOn 5 = .ok (.getfield 111, 3) := by decide +kernel
theorem dX11_breaksOn_8 : decode cX11_breaksOn 8 = .ok (.arraylength, 1) := by decide +kernel
theorem dX11_breaksOn_9 : decode cX11_breaksOn 9 = .ok (.if_icmp .ne 43, 3) := by decide +kernel
theorem dX11_breaksOn_12 : decode cX11_breaksOn 12 = .ok (.iconst 2, 1) := by decide +kernel
theorem dX11_breaksOn_13 : decode cX11_breaksOn 13 = .ok (.aload_n 0, 1) := by decide +kernel
theorem dX11_breaksOn_14 : decode cX11_breaksOn 14 = .ok (.getfield 111, 3) := by decide +kernel
theorem dX11_breaksOn_17 : decode cX11_breaksOn 17 = .ok (.arraylength, 1) := by decide +kernel
theorem dX11_breaksOn_18 : decode cX11_breaksOn 18 = .ok (.imul, 1) := by decide +kernel
theorem dX11_breaksOn_19 : decode cX11_breaksOn 19 = .ok (.newarray .int, 2) := by decide +kernel
theorem dX11_breaksOn_21 : decode cX11_breaksOn 21 = .ok (.astore_n 2, 1) := by decide +kernel
theorem dX11_breaksOn_22 : decode cX11_breaksOn 22 = .ok (.iconst 0, 1) := by decide +kernel
theorem dX11_breaksOn_23 : decode cX11_breaksOn 23 = .ok (.istore_n 3, 1) := by decide +kernel
theorem dX11_breaksOn_24 : decode cX11_breaksOn 24 = .ok (.iload_n 3, 1) := by decide +kernel
theorem dX11_breaksOn_25 : decode cX11_breaksOn 25 = .ok (.aload_n 0, 1) := by decide +kernel
theorem dX11_breaksOn_26 : decode cX11_breaksOn 26 = .ok (.getfield 252, 3) := by decide +kernel
theorem dX11_breaksOn_29 : decode cX11_breaksOn 29 = .ok (.if_icmp .ge 18, 3) := by decide +kernel
theorem dX11_breaksOn_32 : decode cX11_breaksOn 32 = .ok (.aload_n 2, 1) := by decide +kernel
theorem dX11_breaksOn_33 : decode cX11_breaksOn 33 = .ok (.iload_n 3, 1) := by decide +kernel
theorem dX11_breaksOn_34 : decode cX11_breaksOn 34 = .ok (.aload_n 0, 1) := by decide +kernel
theorem dX11_breaksOn_35 : decode cX11_breaksOn 35 = .ok (.getfield 111, 3) := by decide +kernel
theorem dX11_breaksOn_38 : decode cX11_breaksOn 38 = .ok (.iload_n 3, 1) := by decide +kernel
theorem dX11_breaksOn_39 : decode cX11_breaksOn 39 = .ok (.iaload, 1) := by decide +kernel
theorem dX11_breaksOn_40 : decode cX11_breaksOn 40 = .ok (.iastore, 1) := by decide +kernel
theorem dX11_breaksOn_41 : decode cX11_breaksOn 41 = .ok (.iinc 3 1, 3) := by decide +kernel
theorem dX11_breaksOn_44 : decode cX11_breaksOn 44 = .ok (.goto (-20), 3) := by decide +kernel
theorem dX11_breaksOn_47 : decode cX11_breaksOn 47 = .ok (.aload_n 0, 1) := by decide +kernel
theorem dX11_breaksOn_48 : decode cX11_breaksOn 48 = .ok (.aload_n 2, 1) := by decide +kernel
theorem dX11_breaksOn_49 : decode cX11_breaksOn 49 = .ok (.putfield 111, 3) := by decide +kernel
theorem dX11_breaksOn_52 : decode cX11_breaksOn 52 = .ok (.aload_n 0, 1) := by decide +kernel
theorem dX11_breaksOn_53 : decode cX11_breaksOn 53 = .ok (.getfield 111, 3) := by decide +kernel
theorem dX11_breaksOn_56 : decode cX11_breaksOn 56 = .ok (.aload_n 0, 1) := by decide +kernel
theorem dX11_breaksOn_57 : decode cX11_breaksOn 57 = .ok (.getfield 252, 3) := by decide +kernel
theorem dX11_breaksOn_60 : decode cX11_breaksOn 60 = .ok (.iload_n 1, 1) := by decide +kernel
theorem dX11_breaksOn_61 : decode cX11_breaksOn 61 = .ok (.iastore, 1) := by decide +kernel
theorem dX11_breaksOn_62 : decode cX11_breaksOn 62 = .ok (.aload_n 0, 1) := by decide +kernel
theorem dX11_breaksOn_63 : decode cX11_breaksOn 63 = .ok (.dup, 1) := by decide +kernel
theorem dX11_breaksOn_64 : decode cX11_breaksOn 64 = .ok (.getfield 252, 3) := by decide +kernel
theorem dX11_breaksOn_67 : decode cX11_breaksOn 67 = .ok (.iconst 1, 1) := by decide +kernel
theorem dX11_breaksOn_68 : decode cX11_breaksOn 68 = .ok (.iadd, 1) := by decide +kernel
theorem dX11_breaksOn_69 : decode cX11_breaksOn 69 = .ok (.putfield 252, 3) := by decide +kernel
theorem dX11_breaksOn_72 : decode cX11_breaksOn 72 = .ok (.return_, 1) := by decide +kernel
theorem dX11_broken_0 : decode cX11_broken 0 = .ok (.aload_n 0, 1) := by decide +kernel
theorem dX11_broken_1 : decode cX11_broken 1 = .ok (.iconst 0, 1) := by decide +kernel
theorem dX11_broken_2 : decode cX11_broken 2 = .ok (.putfield 133, 3) := by decide +kernel
theorem dX11_broken_5 : decode cX11_broken 5 = .ok (.iload_n 1, 1) := by decide +kernel
theorem dX11_broken_6 : decode cX11_broken 6 = .ok (.ifCond .lt 20, 3) := by decide +kernel
theorem dX11_broken_9 : decode cX11_broken 9 = .ok (.iload_n 1, 1) := by decide +kernel
theorem dX11_broken_10 : decode cX11_broken 10 = .ok (.aload_n 0, 1) := by decide +kernel
theorem dX11_broken_11 : decode cX11_broken 11 = .ok (.getfield 252, 3) := by decide +kernel
theorem dX11_broken_14 : decode cX11_broken 14 = .ok (.if_icmp .ge 12, 3) := by decide +kernel
theorem dX11_broken_17 : decode cX11_broken 17 = .ok (.aload_n 0, 1) := by decide +kernel
theorem dX11_broken_18 : decode cX11_broken 18 = .ok (.getfield 111, 3) := by decide +kernel
theorem dX11_broken_21 : decode cX11_broken 21 = .ok (.iload_n 1, 1) := by decide +kernel
theorem dX11_broken_22 : decode cX11_broken 22 = .ok (.iaload, 1) := by decide +kernel
theorem dX11_broken_23 : decode cX11_broken 23 = .ok (.goto 4, 3) := by decide +kernel
theorem dX11_broken_26 : decode cX11_broken 26 = .ok (.iconst (-1), 1) := by decide +kernel
theorem dX11_broken_27 : decode cX11_broken 27 = .ok (.ireturn, 1) := by decide +kernel
theorem dX11_mend_0 : decode cX11_mend 0 = .ok (.aload_n 0, 1) := by decide +kernel
theorem dX11_mend_1 : decode cX11_mend 1 = .ok (.iconst 0, 1) := by decide +kernel
theorem dX11_mend_2 : decode cX11_mend 2 = .ok (.putfield 133, 3) := by decide +kernel
theorem dX11_mend_5 : decode cX11_mend 5 = .ok (.aload_n 0, 1) := by decide +kernel
theorem dX11_mend_6 : decode cX11_mend 6 = .ok (.getfield 144, 3) := by decide +kernel
theorem dX11_mend_9 : decode cX11_mend 9 = .ok (.istore_n 1, 1) := by decide +kernel
theorem dX11_mend_10 : decode cX11_mend 10 = .ok (.iconst 0, 1) := by decide +kernel
theorem dX11_mend_11 : decode cX11_mend 11 = .ok (.istore_n 2, 1) := by decide +kernel
theorem dX11_mend_12 : decode cX11_mend 12 = .ok (.iload_n 2, 1) := by decide +kernel
theorem dX11_mend_13 : decode cX11_mend 13 = .ok (.aload_n 0, 1) := by decide +kernel
theorem dX11_mend_14 : decode cX11_mend 14 = .ok (.getfield 126, 3) := by decide +kernel
theorem dX11_mend_17 : decode cX11_mend 17 = .ok (.if_icmp .ge 21, 3) := by decide +kernel
theorem dX11_mend_20 : decode cX11_mend 20 = .ok (.aload_n 0, 1) := by decide +kernel
theorem dX11_mend_21 : decode cX11_mend 21 = .ok (.getfield 114, 3) := by decide +kernel
theorem dX11_mend_24 : decode cX11_mend 24 = .ok (.bipush 30, 2) := by decide +kernel
theorem dX11_mend_26 : decode cX11_mend 26 = .ok (.iload_n 1, 1) := by decide +kernel
theorem dX11_mend_27 : decode cX11_mend 27 = .ok (.imul, 1) := by decide +kernel
theorem dX11_mend_28 : decode cX11_mend 28 = .ok (.iload_n 2, 1) := by decide +kernel
theorem dX11_mend_29 : decode cX11_mend 29 = .ok (.iadd, 1) := by decide +kernel
theorem dX11_mend_30 : decode cX11_mend 30 = .ok (.iconst 0, 1) := by decide +kernel
theorem dX11_mend_31 : decode cX11_mend 31 = .ok (.iastore, 1) := by decide +kernel
theorem dX11_mend_32 : decode cX11_mend 32 = .ok (.iinc 2 1, 3) := by decide +kernel
theorem dX11_mend_35 : decode cX11_mend 35 = .ok (.goto (-23), 3) := by decide +kernel
theorem dX11_mend_38 : decode cX11_mend 38 = .ok (.iload_n 1, 1) := by decide +kernel
theorem dX11_mend_39 : decode cX11_mend 39 = .ok (.iconst 1, 1) := by decide +kernel
theorem dX11_mend_40 : decode cX11_mend 40 = .ok (.isub, 1) := by decide +kernel
theorem dX11_mend_41 : decode cX11_mend 41 = .ok (.istore_n 2, 1) := by decide +kernel
theorem dX11_mend_42 : decode cX11_mend 42 = .ok (.iload_n 2, 1) := by decide +kernel
theorem dX11_mend_43 : decode cX11_mend 43 = .ok (.ifCond .lt 239, 3) := by decide +kernel
theorem dX11_mend_46 : decode cX11_mend 46 = .ok (.iconst 0, 1) := by decide +kernel
theorem dX11_mend_47 : decode cX11_mend 47 = .ok (.istore_n 3, 1) := by decide +kernel
theorem dX11_mend_48 : decode cX11_mend 48 = .ok (.iload_n 3, 1) := by decide +kernel
theorem dX11_mend_49 : decode cX11_mend 49 = .ok (.aload_n 0, 1) := by decide +kernel
theorem dX11_mend_50 : decode cX11_mend 50 = .ok (.getfield 126, 3) := by decide +kernel
theorem dX11_mend_53 : decode cX11_mend 53 = .ok (.if_icmp .ge 98, 3) := by decide +kernel
theorem dX11_mend_56 : decode cX11_mend 56 = .ok (.aload_n 0, 1) := by decide +kernel
theorem dX11_mend_57 : decode cX11_mend 57 = .ok (.getfield 65, 3) := by decide +kernel
theorem dX11_mend_60 : decode cX11_mend 60 = .ok (.bipush 8, 2) := by decide +kernel
theorem dX11_mend_62 : decode cX11_mend 62 = .ok (.iload_n 3, 1) := by decide +kernel
theorem dX11_mend_63 : decode cX11_mend 63 = .ok (.imul, 1) := by decide +kernel
theorem dX11_mend_64 : decode cX11_mend 64 = .ok (.aload_n 0, 1) := by decide +kernel
theorem dX11_mend_65 : decode cX11_mend 65 = .ok (.getfield 9, 3) := by decide +kernel
theorem dX11_mend_68 : decode cX11_mend 68 = .ok (.iload_n 2, 1) := by decide +kernel
theorem dX11_mend_69 : decode cX11_mend 69 = .ok (.iaload, 1) := by decide +kernel
theorem dX11_mend_70 : decode cX11_mend 70 = .ok (.iadd, 1) := by decide +kernel
theorem dX11_mend_71 : decode cX11_mend 71 = .ok (.iaload, 1) := by decide +kernel
theorem dX11_mend_72 : decode cX11_mend 72 = .ok (.istore 4, 2) := by decide +kernel
theorem dX11_mend_74 : decode cX11_mend 74 = .ok (.iconst 1, 1) := by decide +kernel
theorem dX11_mend_75 : decode cX11_mend 75 = .ok (.aload_n 0, 1) := by decide +kernel
theorem dX11_mend_76 : decode cX11_mend 76 = .ok (.getfield 114, 3) := by decide +kernel
theorem dX11_mend_79 : decode cX11_mend 79 = .ok (.bipush 30, 2) := by decide +kernel
theorem dX11_mend_81 : decode cX11_mend 81 = .ok (.iload_n 2, 1) := by decide +kernel
theorem dX11_mend_82 : decode cX11_mend 82 = .ok (.iconst 1, 1) := by decide +kernel
theorem dX11_mend_83 : decode cX11_mend 83 = .ok (.iadd, 1) := by decide +kernel
theorem dX11_mend_84 : decode cX11_mend 84 = .ok (.imul, 1) := by decide +kernel
theorem dX11_mend_85 : decode cX11_mend 85 = .ok (.iload_n 3, 1) := by decide +kernel
theorem dX11_mend_86 : decode cX11_mend 86 = .ok (.iadd, 1) := by decide +kernel
theorem dX11_mend_87 : decode cX11_mend 87 = .ok (.iaload, 1) := by decide +kernel
theorem dX11_mend_88 : decode cX11_mend 88 = .ok (.iadd, 1) := by decide +kernel
theorem dX11_mend_89 : decode cX11_mend 89 = .ok (.istore 5, 2) := by decide +kernel
theorem dX11_mend_91 : decode cX11_mend 91 = .ok (.aload_n 0, 1) := by decide +kernel
theorem dX11_mend_92 : decode cX11_mend 92 = .ok (.getfield 114, 3) := by decide +kernel
theorem dX11_mend_95 : decode cX11_mend 95 = .ok (.bipush 30, 2) := by decide +kernel
theorem dX11_mend_97 : decode cX11_mend 97 = .ok (.iload_n 2, 1) := by decide +kernel
theorem dX11_mend_98 : decode cX11_mend 98 = .ok (.imul, 1) := by decide +kernel
theorem dX11_mend_99 : decode cX11_mend 99 = .ok (.iload_n 3, 1) := by decide +kernel
theorem dX11_mend_100 : decode cX11_mend 100 = .ok (.iadd, 1) := by decide +kernel
theorem dX11_mend_101 : decode cX11_mend 101 = .ok (.iload 4, 2) := by decide +kernel
theorem dX11_mend_103 : decode cX11_mend 103 = .ok (.ifCond .lt 39, 3) := by decide +kernel
theorem dX11_mend_106 : decode cX11_mend 106 = .ok (.aload_n 0, 1) := by decide +kernel
theorem dX11_mend_107 : decode cX11_mend 107 = .ok (.getfield 114, 3) := by decide +kernel
theorem dX11_mend_110 : decode cX11_mend 110 = .ok (.bipush 30, 2) := by decide +kernel
theorem dX11_mend_112 : decode cX11_mend 112 = .ok (.iload_n 2, 1) := by decide +kernel
theorem dX11_mend_113 : decode cX11_mend 113 = .ok (.iconst 1, 1) := by decide +kernel
theorem dX11_mend_114 : decode cX11_mend 114 = .ok (.iadd, 1) := by decide +kernel
theorem dX11_mend_115 : decode cX11_mend 115 = .ok (.imul, 1) := by decide +kernel
theorem dX11_mend_116 : decode cX11_mend 116 = .ok (.iload 4, 2) := by decide +kernel
theorem dX11_mend_118 : decode cX11_mend 118 = .ok (.iadd, 1) := by decide +kernel
theorem dX11_mend_119 : decode cX11_mend 119 = .ok (.iaload, 1) := by decide +kernel
theorem dX11_mend_120 : decode cX11_mend 120 = .ok (.iload 5, 2) := by decide +kernel
theorem dX11_mend_122 : decode cX11_mend 122 = .ok (.if_icmp .ge 20, 3) := by decide +kernel
theorem dX11_mend_125 : decode cX11_mend 125 = .ok (.aload_n 0, 1) := by decide +kernel
theorem dX11_mend_126 : decode cX11_mend 126 = .ok (.getfield 114, 3) := by decide +kernel
theorem dX11_mend_129 : decode cX11_mend 129 = .ok (.bipush 30, 2) := by decide +kernel
theorem dX11_mend_131 : decode cX11_mend 131 = .ok (.iload_n 2, 1) := by decide +kernel
theorem dX11_mend_132 : decode cX11_mend 132 = .ok (.iconst 1, 1) := by decide +kernel
theorem dX11_mend_133 : decode cX11_mend 133 = .ok (.iadd, 1) := by decide +kernel
theorem dX11_mend_134 : decode cX11_mend 134 = .ok (.imul, 1) := by decide +kernel
theorem dX11_mend_135 : decode cX11_mend 135 = .ok (.iload 4, 2) := by decide +kernel
theorem dX11_mend_137 : decode cX11_mend 137 = .ok (.iadd, 1) := by decide +kernel
theorem dX11_mend_138 : decode cX11_mend 138 = .ok (.iaload, 1) := by decide +kernel
theorem dX11_mend_139 : decode cX11_mend 139 = .ok (.goto 5, 3) := by decide +kernel
theorem dX11_mend_142 : decode cX11_mend 142 = .ok (.iload 5, 2) := by decide +kernel
theorem dX11_mend_144 : decode cX11_mend 144 = .ok (.iastore, 1) := by decide +kernel
theorem dX11_mend_145 : decode cX11_mend 145 = .ok (.iinc 3 1, 3) := by decide +kernel
theorem dX11_mend_148 : decode cX11_mend 148 = .ok (.goto (-100), 3) := by decide +kernel
theorem dX11_mend_151 : decode cX11_mend 151 = .ok (.iconst 1, 1) := by decide +kernel
theorem dX11_mend_152 : decode cX11_mend 152 = .ok (.istore_n 3, 1) := by decide +kernel
theorem dX11_mend_153 : decode cX11_mend 153 = .ok (.iload_n 3, 1) := by decide +kernel
theorem dX11_mend_154 : decode cX11_mend 154 = .ok (.ifCond .eq 122, 3) := by decide +kernel
theorem dX11_mend_157 : decode cX11_mend 157 = .ok (.iconst 0, 1) := by decide +kernel
theorem dX11_mend_158 : decode cX11_mend 158 = .ok (.istore_n 3, 1) := by decide +kernel
theorem dX11_mend_159 : decode cX11_mend 159 = .ok (.iconst 0, 1) := by decide +kernel
theorem dX11_mend_160 : decode cX11_mend 160 = .ok (.istore 4, 2) := by decide +kernel
theorem dX11_mend_162 : decode cX11_mend 162 = .ok (.iload 4, 2) := by decide +kernel
theorem dX11_mend_164 : decode cX11_mend 164 = .ok (.aload_n 0, 1) := by decide +kernel
theorem dX11_mend_165 : decode cX11_mend 165 = .ok (.getfield 126, 3) := by decide +kernel
theorem dX11_mend_168 : decode cX11_mend 168 = .ok (.if_icmp .ge 105, 3) := by decide +kernel
theorem dX11_mend_171 : decode cX11_mend 171 = .ok (.iconst 0, 1) := by decide +kernel
theorem dX11_mend_172 : decode cX11_mend 172 = .ok (.istore 5, 2) := by decide +kernel
theorem dX11_mend_174 : decode cX11_mend 174 = .ok (.iload 5, 2) := by decide +kernel
theorem dX11_mend_176 : decode cX11_mend 176 = .ok (.bipush 8, 2) := by decide +kernel
theorem dX11_mend_178 : decode cX11_mend 178 = .ok (.if_icmp .ge 89, 3) := by decide +kernel
theorem dX11_mend_181 : decode cX11_mend 181 = .ok (.aload_n 0, 1) := by decide +kernel
theorem dX11_mend_182 : decode cX11_mend 182 = .ok (.getfield 65, 3) := by decide +kernel
theorem dX11_mend_185 : decode cX11_mend 185 = .ok (.bipush 8, 2) := by decide +kernel
theorem dX11_mend_187 : decode cX11_mend 187 = .ok (.iload 4, 2) := by decide +kernel
theorem dX11_mend_189 : decode cX11_mend 189 = .ok (.imul, 1) := by decide +kernel
theorem dX11_mend_190 : decode cX11_mend 190 = .ok (.iload 5, 2) := by decide +kernel
theorem dX11_mend_192 : decode cX11_mend 192 = .ok (.iadd, 1) := by decide +kernel
theorem dX11_mend_193 : decode cX11_mend 193 = .ok (.iaload, 1) := by decide +kernel
theorem dX11_mend_194 : decode cX11_mend 194 = .ok (.istore 6, 2) := by decide +kernel
theorem dX11_mend_196 : decode cX11_mend 196 = .ok (.iload 6, 2) := by decide +kernel
theorem dX11_mend_198 : decode cX11_mend 198 = .ok (.ifCond .lt 63, 3) := by decide +kernel
theorem dX11_mend_201 : decode cX11_mend 201 = .ok (.iconst 1, 1) := by decide +kernel
theorem dX11_mend_202 : decode cX11_mend 202 = .ok (.aload_n 0, 1) := by decide +kernel
theorem dX11_mend_203 : decode cX11_mend 203 = .ok (.getfield 114, 3) := by decide +kernel
theorem dX11_mend_206 : decode cX11_mend 206 = .ok (.bipush 30, 2) := by decide +kernel
theorem dX11_mend_208 : decode cX11_mend 208 = .ok (.iload_n 2, 1) := by decide +kernel
theorem dX11_mend_209 : decode cX11_mend 209 = .ok (.imul, 1) := by decide +kernel
theorem dX11_mend_210 : decode cX11_mend 210 = .ok (.iload 6, 2) := by decide +kernel
theorem dX11_mend_212 : decode cX11_mend 212 = .ok (.iadd, 1) := by decide +kernel
theorem dX11_mend_213 : decode cX11_mend 213 = .ok (.iaload, 1) := by decide +kernel
theorem dX11_mend_214 : decode cX11_mend 214 = .ok (.iadd, 1) := by decide +kernel
theorem dX11_mend_215 : decode cX11_mend 215 = .ok (.aload_n 0, 1) := by decide +kernel
theorem dX11_mend_216 : decode cX11_mend 216 = .ok (.getfield 114, 3) := by decide +kernel
theorem dX11_mend_219 : decode cX11_mend 219 = .ok (.bipush 30, 2) := by decide +kernel
theorem dX11_mend_221 : decode cX11_mend 221 = .ok (.iload_n 2, 1) := by decide +kernel
theorem dX11_mend_222 : decode cX11_mend 222 = .ok (.imul, 1) := by decide +kernel
theorem dX11_mend_223 : decode cX11_mend 223 = .ok (.iload 4, 2) := by decide +kernel
theorem dX11_mend_225 : decode cX11_mend 225 = .ok (.iadd, 1) := by decide +kernel
theorem dX11_mend_226 : decode cX11_mend 226 = .ok (.iaload, 1) := by decide +kernel
theorem dX11_mend_227 : decode cX11_mend 227 = .ok (.if_icmp .lt 6, 3) := by decide +kernel
theorem dX11_mend_230 : decode cX11_mend 230 = .ok (.goto 31, 3) := by decide +kernel
theorem dX11_mend_233 : decode cX11_mend 233 = .ok (.aload_n 0, 1) := by decide +kernel
theorem dX11_mend_234 : decode cX11_mend 234 = .ok (.getfield 114, 3) := by decide +kernel
theorem dX11_mend_237 : decode cX11_mend 237 = .ok (.bipush 30, 2) := by decide +kernel
theorem dX11_mend_239 : decode cX11_mend 239 = .ok (.iload_n 2, 1) := by decide +kernel
theorem dX11_mend_240 : decode cX11_mend 240 = .ok (.imul, 1) := by decide +kernel
theorem dX11_mend_241 : decode cX11_mend 241 = .ok (.iload 4, 2) := by decide +kernel
theorem dX11_mend_243 : decode cX11_mend 243 = .ok (.iadd, 1) := by decide +kernel
theorem dX11_mend_244 : decode cX11_mend 244 = .ok (.iconst 1, 1) := by decide +kernel
theorem dX11_mend_245 : decode cX11_mend 245 = .ok (.aload_n 0, 1) := by decide +kernel
theorem dX11_mend_246 : decode cX11_mend 246 = .ok (.getfield 114, 3) := by decide +kernel
theorem dX11_mend_249 : decode cX11_mend 249 = .ok (.bipush 30, 2) := by decide +kernel
theorem dX11_mend_251 : decode cX11_mend 251 = .ok (.iload_n 2, 1) := by decide +kernel
theorem dX11_mend_252 : decode cX11_mend 252 = .ok (.imul, 1) := by decide +kernel
theorem dX11_mend_253 : decode cX11_mend 253 = .ok (.iload 6, 2) := by decide +kernel
theorem dX11_mend_255 : decode cX11_mend 255 = .ok (.iadd, 1) := by decide +kernel
theorem dX11_mend_256 : decode cX11_mend 256 = .ok (.iaload, 1) := by decide +kernel
theorem dX11_mend_257 : decode cX11_mend 257 = .ok (.iadd, 1) := by decide +kernel
theorem dX11_mend_258 : decode cX11_mend 258 = .ok (.iastore, 1) := by decide +kernel
theorem dX11_mend_259 : decode cX11_mend 259 = .ok (.iconst 1, 1) := by decide +kernel
theorem dX11_mend_260 : decode cX11_mend 260 = .ok (.istore_n 3, 1) := by decide +kernel
theorem dX11_mend_261 : decode cX11_mend 261 = .ok (.iinc 5 1, 3) := by decide +kernel
theorem dX11_mend_264 : decode cX11_mend 264 = .ok (.goto (-90), 3) := by decide +kernel
theorem dX11_mend_267 : decode cX11_mend 267 = .ok (.iinc 4 1, 3) := by decide +kernel
theorem dX11_mend_270 : decode cX11_mend 270 = .ok (.goto (-108), 3) := by decide +kernel
theorem dX11_mend_273 : decode cX11_mend 273 = .ok (.goto (-120), 3) := by decide +kernel
theorem dX11_mend_276 : decode cX11_mend 276 = .ok (.iinc 2 (-1), 3) := by decide +kernel
theorem dX11_mend_279 : decode cX11_mend 279 = .ok (.goto (-237), 3) := by decide +kernel
theorem dX11_mend_282 : decode cX11_mend 282 = .ok (.iconst 0, 1) := by decide +kernel
theorem dX11_mend_283 : decode cX11_mend 283 = .ok (.istore_n 2, 1) := by decide +kernel
theorem dX11_mend_284 : decode cX11_mend 284 = .ok (.iconst 0, 1) := by decide +kernel
theorem dX11_mend_285 : decode cX11_mend 285 = .ok (.istore_n 3, 1) := by decide +kernel
theorem dX11_mend_286 : decode cX11_mend 286 = .ok (.iconst 0, 1) := by decide +kernel
theorem dX11_mend_287 : decode cX11_mend 287 = .ok (.istore 4, 2) := by decide +kernel
theorem dX11_mend_289 : decode cX11_mend 289 = .ok (.iload 4, 2) := by decide +kernel
theorem dX11_mend_291 : decode cX11_mend 291 = .ok (.iload_n 1, 1) := by decide +kernel
theorem dX11_mend_292 : decode cX11_mend 292 = .ok (.if_icmp .ge 194, 3) := by decide +kernel
theorem dX11_mend_295 : decode cX11_mend 295 = .ok (.aload_n 0, 1) := by decide +kernel
theorem dX11_mend_296 : decode cX11_mend 296 = .ok (.getfield 114, 3) := by decide +kernel
theorem dX11_mend_299 : decode cX11_mend 299 = .ok (.bipush 30, 2) := by decide +kernel
theorem dX11_mend_301 : decode cX11_mend 301 = .ok (.iload 4, 2) := by decide +kernel
theorem dX11_mend_303 : decode cX11_mend 303 = .ok (.imul, 1) := by decide +kernel
theorem dX11_mend_304 : decode cX11_mend 304 = .ok (.iload_n 3, 1) := by decide +kernel
theorem dX11_mend_305 : decode cX11_mend 305 = .ok (.iadd, 1) := by decide +kernel
theorem dX11_mend_306 : decode cX11_mend 306 = .ok (.iaload, 1) := by decide +kernel
theorem dX11_mend_307 : decode cX11_mend 307 = .ok (.istore 5, 2) := by decide +kernel
theorem dX11_mend_309 : decode cX11_mend 309 = .ok (.aload_n 0, 1) := by decide +kernel
theorem dX11_mend_310 : decode cX11_mend 310 = .ok (.getfield 65, 3) := by decide +kernel
theorem dX11_mend_313 : decode cX11_mend 313 = .ok (.bipush 8, 2) := by decide +kernel
theorem dX11_mend_315 : decode cX11_mend 315 = .ok (.iload_n 3, 1) := by decide +kernel
theorem dX11_mend_316 : decode cX11_mend 316 = .ok (.imul, 1) := by decide +kernel
theorem dX11_mend_317 : decode cX11_mend 317 = .ok (.aload_n 0, 1) := by decide +kernel
theorem dX11_mend_318 : decode cX11_mend 318 = .ok (.getfield 9, 3) := by decide +kernel
theorem dX11_mend_321 : decode cX11_mend 321 = .ok (.iload 4, 2) := by decide +kernel
theorem dX11_mend_323 : decode cX11_mend 323 = .ok (.iaload, 1) := by decide +kernel
theorem dX11_mend_324 : decode cX11_mend 324 = .ok (.iadd, 1) := by decide +kernel
theorem dX11_mend_325 : decode cX11_mend 325 = .ok (.iaload, 1) := by decide +kernel
theorem dX11_mend_326 : decode cX11_mend 326 = .ok (.istore 6, 2) := by decide +kernel
theorem dX11_mend_328 : decode cX11_mend 328 = .ok (.iload 6, 2) := by decide +kernel
theorem dX11_mend_330 : decode cX11_mend 330 = .ok (.ifCond .lt 48, 3) := by decide +kernel
theorem dX11_mend_333 : decode cX11_mend 333 = .ok (.aload_n 0, 1) := by decide +kernel
theorem dX11_mend_334 : decode cX11_mend 334 = .ok (.getfield 114, 3) := by decide +kernel
theorem dX11_mend_337 : decode cX11_mend 337 = .ok (.bipush 30, 2) := by decide +kernel
theorem dX11_mend_339 : decode cX11_mend 339 = .ok (.iload 4, 2) := by decide +kernel
theorem dX11_mend_341 : decode cX11_mend 341 = .ok (.iconst 1, 1) := by decide +kernel
theorem dX11_mend_342 : decode cX11_mend 342 = .ok (.iadd, 1) := by decide +kernel
theorem dX11_mend_343 : decode cX11_mend 343 = .ok (.imul, 1) := by decide +kernel
theorem dX11_mend_344 : decode cX11_mend 344 = .ok (.iload 6, 2) := by decide +kernel
theorem dX11_mend_346 : decode cX11_mend 346 = .ok (.iadd, 1) := by decide +kernel
theorem dX11_mend_347 : decode cX11_mend 347 = .ok (.iaload, 1) := by decide +kernel
theorem dX11_mend_348 : decode cX11_mend 348 = .ok (.iload 5, 2) := by decide +kernel
theorem dX11_mend_350 : decode cX11_mend 350 = .ok (.if_icmp .ne 28, 3) := by decide +kernel
theorem dX11_mend_353 : decode cX11_mend 353 = .ok (.aload_n 0, 1) := by decide +kernel
theorem dX11_mend_354 : decode cX11_mend 354 = .ok (.getfield 117, 3) := by decide +kernel
theorem dX11_mend_357 : decode cX11_mend 357 = .ok (.iload_n 2, 1) := by decide +kernel
theorem dX11_mend_358 : decode cX11_mend 358 = .ok (.aload_n 0, 1) := by decide +kernel
theorem dX11_mend_359 : decode cX11_mend 359 = .ok (.getfield 9, 3) := by decide +kernel
theorem dX11_mend_362 : decode cX11_mend 362 = .ok (.iload 4, 2) := by decide +kernel
theorem dX11_mend_364 : decode cX11_mend 364 = .ok (.iaload, 1) := by decide +kernel
theorem dX11_mend_365 : decode cX11_mend 365 = .ok (.iastore, 1) := by decide +kernel
theorem dX11_mend_366 : decode cX11_mend 366 = .ok (.iinc 2 1, 3) := by decide +kernel
theorem dX11_mend_369 : decode cX11_mend 369 = .ok (.iload 6, 2) := by decide +kernel
theorem dX11_mend_371 : decode cX11_mend 371 = .ok (.istore_n 3, 1) := by decide +kernel
theorem dX11_mend_372 : decode cX11_mend 372 = .ok (.iinc 4 1, 3) := by decide +kernel
theorem dX11_mend_375 : decode cX11_mend 375 = .ok (.goto (-86), 3) := by decide +kernel
theorem dX11_mend_378 : decode cX11_mend 378 = .ok (.iconst 1, 1) := by decide +kernel
theorem dX11_mend_379 : decode cX11_mend 379 = .ok (.aload_n 0, 1) := by decide +kernel
theorem dX11_mend_380 : decode cX11_mend 380 = .ok (.getfield 114, 3) := by decide +kernel
theorem dX11_mend_383 : decode cX11_mend 383 = .ok (.bipush 30, 2) := by decide +kernel
theorem dX11_mend_385 : decode cX11_mend 385 = .ok (.iload 4, 2) := by decide +kernel
theorem dX11_mend_387 : decode cX11_mend 387 = .ok (.iconst 1, 1) := by decide +kernel
theorem dX11_mend_388 : decode cX11_mend 388 = .ok (.iadd, 1) := by decide +kernel
theorem dX11_mend_389 : decode cX11_mend 389 = .ok (.imul, 1) := by decide +kernel
theorem dX11_mend_390 : decode cX11_mend 390 = .ok (.iload_n 3, 1) := by decide +kernel
theorem dX11_mend_391 : decode cX11_mend 391 = .ok (.iadd, 1) := by decide +kernel
theorem dX11_mend_392 : decode cX11_mend 392 = .ok (.iaload, 1) := by decide +kernel
theorem dX11_mend_393 : decode cX11_mend 393 = .ok (.iadd, 1) := by decide +kernel
theorem dX11_mend_394 : decode cX11_mend 394 = .ok (.iload 5, 2) := by decide +kernel
theorem dX11_mend_396 : decode cX11_mend 396 = .ok (.if_icmp .ne 9, 3) := by decide +kernel
theorem dX11_mend_399 : decode cX11_mend 399 = .ok (.iinc 4 1, 3) := by decide +kernel
theorem dX11_mend_402 : decode cX11_mend 402 = .ok (.goto (-113), 3) := by decide +kernel
theorem dX11_mend_405 : decode cX11_mend 405 = .ok (.iconst 0, 1) := by decide +kernel
theorem dX11_mend_406 : decode cX11_mend 406 = .ok (.istore 7, 2) := by decide +kernel
theorem dX11_mend_408 : decode cX11_mend 408 = .ok (.aload_n 0, 1) := by decide +kernel
theorem dX11_mend_409 : decode cX11_mend 409 = .ok (.getfield 65, 3) := by decide +kernel
theorem dX11_mend_412 : decode cX11_mend 412 = .ok (.bipush 8, 2) := by decide +kernel
theorem dX11_mend_414 : decode cX11_mend 414 = .ok (.iload_n 3, 1) := by decide +kernel
theorem dX11_mend_415 : decode cX11_mend 415 = .ok (.imul, 1) := by decide +kernel
theorem dX11_mend_416 : decode cX11_mend 416 = .ok (.iload 7, 2) := by decide +kernel
theorem dX11_mend_418 : decode cX11_mend 418 = .ok (.iadd, 1) := by decide +kernel
theorem dX11_mend_419 : decode cX11_mend 419 = .ok (.iaload, 1) := by decide +kernel
theorem dX11_mend_420 : decode cX11_mend 420 = .ok (.ifCond .lt 33, 3) := by decide +kernel
theorem dX11_mend_423 : decode cX11_mend 423 = .ok (.iconst 1, 1) := by decide +kernel
theorem dX11_mend_424 : decode cX11_mend 424 = .ok (.aload_n 0, 1) := by decide +kernel
theorem dX11_mend_425 : decode cX11_mend 425 = .ok (.getfield 114, 3) := by decide +kernel
theorem dX11_mend_428 : decode cX11_mend 428 = .ok (.bipush 30, 2) := by decide +kernel
theorem dX11_mend_430 : decode cX11_mend 430 = .ok (.iload 4, 2) := by decide +kernel
theorem dX11_mend_432 : decode cX11_mend 432 = .ok (.imul, 1) := by decide +kernel
theorem dX11_mend_433 : decode cX11_mend 433 = .ok (.aload_n 0, 1) := by decide +kernel
theorem dX11_mend_434 : decode cX11_mend 434 = .ok (.getfield 65, 3) := by decide +kernel
theorem dX11_mend_437 : decode cX11_mend 437 = .ok (.bipush 8, 2) := by decide +kernel
theorem dX11_mend_439 : decode cX11_mend 439 = .ok (.iload_n 3, 1) := by decide +kernel
theorem dX11_mend_440 : decode cX11_mend 440 = .ok (.imul, 1) := by decide +kernel
theorem dX11_mend_441 : decode cX11_mend 441 = .ok (.iload 7, 2) := by decide +kernel
theorem dX11_mend_443 : decode cX11_mend 443 = .ok (.iadd, 1) := by decide +kernel
theorem dX11_mend_444 : decode cX11_mend 444 = .ok (.iaload, 1) := by decide +kernel
theorem dX11_mend_445 : decode cX11_mend 445 = .ok (.iadd, 1) := by decide +kernel
theorem dX11_mend_446 : decode cX11_mend 446 = .ok (.iaload, 1) := by decide +kernel
theorem dX11_mend_447 : decode cX11_mend 447 = .ok (.iadd, 1) := by decide +kernel
theorem dX11_mend_448 : decode cX11_mend 448 = .ok (.iload 5, 2) := by decide +kernel
theorem dX11_mend_450 : decode cX11_mend 450 = .ok (.if_icmp .eq 9, 3) := by decide +kernel
theorem dX11_mend_453 : decode cX11_mend 453 = .ok (.iinc 7 1, 3) := by decide +kernel
theorem dX11_mend_456 : decode cX11_mend 456 = .ok (.goto (-48), 3) := by decide +kernel
theorem dX11_mend_459 : decode cX11_mend 459 = .ok (.aload_n 0, 1) := by decide +kernel
theorem dX11_mend_460 : decode cX11_mend 460 = .ok (.getfield 117, 3) := by decide +kernel
theorem dX11_mend_463 : decode cX11_mend 463 = .ok (.iload_n 2, 1) := by decide +kernel
theorem dX11_mend_464 : decode cX11_mend 464 = .ok (.iload 7, 2) := by decide +kernel
theorem dX11_mend_466 : decode cX11_mend 466 = .ok (.iastore, 1) := by decide +kernel
theorem dX11_mend_467 : decode cX11_mend 467 = .ok (.iinc 2 1, 3) := by decide +kernel
theorem dX11_mend_470 : decode cX11_mend 470 = .ok (.aload_n 0, 1) := by decide +kernel
theorem dX11_mend_471 : decode cX11_mend 471 = .ok (.getfield 65, 3) := by decide +kernel
theorem dX11_mend_474 : decode cX11_mend 474 = .ok (.bipush 8, 2) := by decide +kernel
theorem dX11_mend_476 : decode cX11_mend 476 = .ok (.iload_n 3, 1) := by decide +kernel
theorem dX11_mend_477 : decode cX11_mend 477 = .ok (.imul, 1) := by decide +kernel
theorem dX11_mend_478 : decode cX11_mend 478 = .ok (.iload 7, 2) := by decide +kernel
theorem dX11_mend_480 : decode cX11_mend 480 = .ok (.iadd, 1) := by decide +kernel
theorem dX11_mend_481 : decode cX11_mend 481 = .ok (.iaload, 1) := by decide +kernel
theorem dX11_mend_482 : decode cX11_mend 482 = .ok (.istore_n 3, 1) := by decide +kernel
theorem dX11_mend_483 : decode cX11_mend 483 = .ok (.goto (-194), 3) := by decide +kernel
theorem dX11_mend_486 : decode cX11_mend 486 = .ok (.iload_n 2, 1) := by decide +kernel
theorem dX11_mend_487 : decode cX11_mend 487 = .ok (.bipush 12, 2) := by decide +kernel
theorem dX11_mend_489 : decode cX11_mend 489 = .ok (.if_icmp .le 5, 3) := by decide +kernel
theorem dX11_mend_492 : decode cX11_mend 492 = .ok (.iconst (-1), 1) := by decide +kernel
theorem dX11_mend_493 : decode cX11_mend 493 = .ok (.ireturn, 1) := by decide +kernel
theorem dX11_mend_494 : decode cX11_mend 494 = .ok (.aload_n 0, 1) := by decide +kernel
theorem dX11_mend_495 : decode cX11_mend 495 = .ok (.getfield 114, 3) := by decide +kernel
theorem dX11_mend_498 : decode cX11_mend 498 = .ok (.iconst 0, 1) := by decide +kernel
theorem dX11_mend_499 : decode cX11_mend 499 = .ok (.iaload, 1) := by decide +kernel
theorem dX11_mend_500 : decode cX11_mend 500 = .ok (.istore 5, 2) := by decide +kernel
theorem dX11_mend_502 : decode cX11_mend 502 = .ok (.iconst 0, 1) := by decide +kernel
theorem dX11_mend_503 : decode cX11_mend 503 = .ok (.istore 6, 2) := by decide +kernel
theorem dX11_mend_505 : decode cX11_mend 505 = .ok (.iload 6, 2) := by decide +kernel
theorem dX11_mend_507 : decode cX11_mend 507 = .ok (.iload_n 2, 1) := by decide +kernel
theorem dX11_mend_508 : decode cX11_mend 508 = .ok (.if_icmp .ge 23, 3) := by decide +kernel
theorem dX11_mend_511 : decode cX11_mend 511 = .ok (.aload_n 0, 1) := by decide +kernel
theorem dX11_mend_512 : decode cX11_mend 512 = .ok (.getfield 9, 3) := by decide +kernel
theorem dX11_mend_515 : decode cX11_mend 515 = .ok (.iload 6, 2) := by decide +kernel
theorem dX11_mend_517 : decode cX11_mend 517 = .ok (.aload_n 0, 1) := by decide +kernel
theorem dX11_mend_518 : decode cX11_mend 518 = .ok (.getfield 117, 3) := by decide +kernel
theorem dX11_mend_521 : decode cX11_mend 521 = .ok (.iload 6, 2) := by decide +kernel
theorem dX11_mend_523 : decode cX11_mend 523 = .ok (.iaload, 1) := by decide +kernel
theorem dX11_mend_524 : decode cX11_mend 524 = .ok (.iastore, 1) := by decide +kernel
theorem dX11_mend_525 : decode cX11_mend 525 = .ok (.iinc 6 1, 3) := by decide +kernel
theorem dX11_mend_528 : decode cX11_mend 528 = .ok (.goto (-23), 3) := by decide +kernel
theorem dX11_mend_531 : decode cX11_mend 531 = .ok (.aload_n 0, 1) := by decide +kernel
theorem dX11_mend_532 : decode cX11_mend 532 = .ok (.iload_n 2, 1) := by decide +kernel
theorem dX11_mend_533 : decode cX11_mend 533 = .ok (.putfield 144, 3) := by decide +kernel
theorem dX11_mend_536 : decode cX11_mend 536 = .ok (.iload_n 1, 1) := by decide +kernel
theorem dX11_mend_537 : decode cX11_mend 537 = .ok (.ifCond .ne 7, 3) := by decide +kernel
theorem dX11_mend_540 : decode cX11_mend 540 = .ok (.iconst 0, 1) := by decide +kernel
theorem dX11_mend_541 : decode cX11_mend 541 = .ok (.goto 5, 3) := by decide +kernel
theorem dX11_mend_544 : decode cX11_mend 544 = .ok (.iload 5, 2) := by decide +kernel
theorem dX11_mend_546 : decode cX11_mend 546 = .ok (.ireturn, 1) := by decide +kernel
theorem dX11_habits_0 : decode cX11_habits 0 = .ok (.iconst 0, 1) := by decide +kernel
theorem dX11_habits_1 : decode cX11_habits 1 = .ok (.istore_n 1, 1) := by decide +kernel
theorem dX11_habits_2 : decode cX11_habits 2 = .ok (.iload_n 1, 1) := by decide +kernel
theorem dX11_habits_3 : decode cX11_habits 3 = .ok (.bipush 64, 2) := by decide +kernel
theorem dX11_habits_5 : decode cX11_habits 5 = .ok (.if_icmp .ge 201, 3) := by decide +kernel
theorem dX11_habits_8 : decode cX11_habits 8 = .ok (.aload_n 0, 1) := by decide +kernel
theorem dX11_habits_9 : decode cX11_habits 9 = .ok (.getfield 120, 3) := by decide +kernel
theorem dX11_habits_12 : decode cX11_habits 12 = .ok (.iload_n 1, 1) := by decide +kernel
theorem dX11_habits_13 : decode cX11_habits 13 = .ok (.iconst 0, 1) := by decide +kernel
theorem dX11_habits_14 : decode cX11_habits 14 = .ok (.iastore, 1) := by decide +kernel
theorem dX11_habits_15 : decode cX11_habits 15 = .ok (.aload_n 0, 1) := by decide +kernel
theorem dX11_habits_16 : decode cX11_habits 16 = .ok (.getfield 123, 3) := by decide +kernel
theorem dX11_habits_19 : decode cX11_habits 19 = .ok (.iload_n 1, 1) := by decide +kernel
theorem dX11_habits_20 : decode cX11_habits 20 = .ok (.iconst 0, 1) := by decide +kernel
theorem dX11_habits_21 : decode cX11_habits 21 = .ok (.iastore, 1) := by decide +kernel
theorem dX11_habits_22 : decode cX11_habits 22 = .ok (.iconst 0, 1) := by decide +kernel
theorem dX11_habits_23 : decode cX11_habits 23 = .ok (.istore_n 2, 1) := by decide +kernel
theorem dX11_habits_24 : decode cX11_habits 24 = .ok (.iload_n 2, 1) := by decide +kernel
theorem dX11_habits_25 : decode cX11_habits 25 = .ok (.aload_n 0, 1) := by decide +kernel
theorem dX11_habits_26 : decode cX11_habits 26 = .ok (.getfield 147, 3) := by decide +kernel
theorem dX11_habits_29 : decode cX11_habits 29 = .ok (.if_icmp .ge 171, 3) := by decide +kernel
theorem dX11_habits_32 : decode cX11_habits 32 = .ok (.aload_n 0, 1) := by decide +kernel
theorem dX11_habits_33 : decode cX11_habits 33 = .ok (.getfield 23, 3) := by decide +kernel
theorem dX11_habits_36 : decode cX11_habits 36 = .ok (.iload_n 2, 1) := by decide +kernel
theorem dX11_habits_37 : decode cX11_habits 37 = .ok (.baload, 1) := by decide +kernel
theorem dX11_habits_38 : decode cX11_habits 38 = .ok (.ifCond .eq 156, 3) := by decide +kernel
theorem dX11_habits_41 : decode cX11_habits 41 = .ok (.aload_n 0, 1) := by decide +kernel
theorem dX11_habits_42 : decode cX11_habits 42 = .ok (.getfield 19, 3) := by decide +kernel
theorem dX11_habits_45 : decode cX11_habits 45 = .ok (.iload_n 2, 1) := by decide +kernel
theorem dX11_habits_46 : decode cX11_habits 46 = .ok (.baload, 1) := by decide +kernel
theorem dX11_habits_47 : decode cX11_habits 47 = .ok (.ifCond .ne 6, 3) := by decide +kernel
theorem dX11_habits_50 : decode cX11_habits 50 = .ok (.goto 144, 3) := by decide +kernel
theorem dX11_habits_53 : decode cX11_habits 53 = .ok (.iconst 0, 1) := by decide +kernel
theorem dX11_habits_54 : decode cX11_habits 54 = .ok (.istore_n 3, 1) := by decide +kernel
theorem dX11_habits_55 : decode cX11_habits 55 = .ok (.iconst 0, 1) := by decide +kernel
theorem dX11_habits_56 : decode cX11_habits 56 = .ok (.istore 4, 2) := by decide +kernel
theorem dX11_habits_58 : decode cX11_habits 58 = .ok (.iconst 0, 1) := by decide +kernel
theorem dX11_habits_59 : decode cX11_habits 59 = .ok (.istore 5, 2) := by decide +kernel
theorem dX11_habits_61 : decode cX11_habits 61 = .ok (.iload 5, 2) := by decide +kernel
theorem dX11_habits_63 : decode cX11_habits 63 = .ok (.aload_n 0, 1) := by decide +kernel
theorem dX11_habits_64 : decode cX11_habits 64 = .ok (.getfield 16, 3) := by decide +kernel
theorem dX11_habits_67 : decode cX11_habits 67 = .ok (.iload_n 2, 1) := by decide +kernel
theorem dX11_habits_68 : decode cX11_habits 68 = .ok (.iaload, 1) := by decide +kernel
theorem dX11_habits_69 : decode cX11_habits 69 = .ok (.if_icmp .ge 84, 3) := by decide +kernel
theorem dX11_habits_72 : decode cX11_habits 72 = .ok (.aload_n 0, 1) := by decide +kernel
theorem dX11_habits_73 : decode cX11_habits 73 = .ok (.getfield 13, 3) := by decide +kernel
theorem dX11_habits_76 : decode cX11_habits 76 = .ok (.bipush 12, 2) := by decide +kernel
theorem dX11_habits_78 : decode cX11_habits 78 = .ok (.iload_n 2, 1) := by decide +kernel
theorem dX11_habits_79 : decode cX11_habits 79 = .ok (.imul, 1) := by decide +kernel
theorem dX11_habits_80 : decode cX11_habits 80 = .ok (.iload 5, 2) := by decide +kernel
theorem dX11_habits_82 : decode cX11_habits 82 = .ok (.iadd, 1) := by decide +kernel
theorem dX11_habits_83 : decode cX11_habits 83 = .ok (.iaload, 1) := by decide +kernel
theorem dX11_habits_84 : decode cX11_habits 84 = .ok (.istore 6, 2) := by decide +kernel
theorem dX11_habits_86 : decode cX11_habits 86 = .ok (.iload 4, 2) := by decide +kernel
theorem dX11_habits_88 : decode cX11_habits 88 = .ok (.ifCond .eq 16, 3) := by decide +kernel
theorem dX11_habits_91 : decode cX11_habits 91 = .ok (.iload 6, 2) := by decide +kernel
theorem dX11_habits_93 : decode cX11_habits 93 = .ok (.iload_n 1, 1) := by decide +kernel
theorem dX11_habits_94 : decode cX11_habits 94 = .ok (.bipush 8, 2) := by decide +kernel
theorem dX11_habits_96 : decode cX11_habits 96 = .ok (.irem, 1) := by decide +kernel
theorem dX11_habits_97 : decode cX11_habits 97 = .ok (.if_icmp .eq 7, 3) := by decide +kernel
theorem dX11_habits_100 : decode cX11_habits 100 = .ok (.iconst 1, 1) := by decide +kernel
theorem dX11_habits_101 : decode cX11_habits 101 = .ok (.goto 4, 3) := by decide +kernel
theorem dX11_habits_104 : decode cX11_habits 104 = .ok (.iconst 0, 1) := by decide +kernel
theorem dX11_habits_105 : decode cX11_habits 105 = .ok (.istore 4, 2) := by decide +kernel
theorem dX11_habits_107 : decode cX11_habits 107 = .ok (.iload_n 3, 1) := by decide +kernel
theorem dX11_habits_108 : decode cX11_habits 108 = .ok (.ifCond .ne 12, 3) := by decide +kernel
theorem dX11_habits_111 : decode cX11_habits 111 = .ok (.iload 6, 2) := by decide +kernel
theorem dX11_habits_113 : decode cX11_habits 113 = .ok (.iload_n 1, 1) := by decide +kernel
theorem dX11_habits_114 : decode cX11_habits 114 = .ok (.bipush 8, 2) := by decide +kernel
theorem dX11_habits_116 : decode cX11_habits 116 = .ok (.idiv, 1) := by decide +kernel
theorem dX11_habits_117 : decode cX11_habits 117 = .ok (.if_icmp .ne 7, 3) := by decide +kernel
theorem dX11_habits_120 : decode cX11_habits 120 = .ok (.iconst 1, 1) := by decide +kernel
theorem dX11_habits_121 : decode cX11_habits 121 = .ok (.goto 4, 3) := by decide +kernel
theorem dX11_habits_124 : decode cX11_habits 124 = .ok (.iconst 0, 1) := by decide +kernel
theorem dX11_habits_125 : decode cX11_habits 125 = .ok (.istore_n 3, 1) := by decide +kernel
theorem dX11_habits_126 : decode cX11_habits 126 = .ok (.iload 4, 2) := by decide +kernel
theorem dX11_habits_128 : decode cX11_habits 128 = .ok (.ifCond .ne 12, 3) := by decide +kernel
theorem dX11_habits_131 : decode cX11_habits 131 = .ok (.iload 6, 2) := by decide +kernel
theorem dX11_habits_133 : decode cX11_habits 133 = .ok (.iload_n 1, 1) := by decide +kernel
theorem dX11_habits_134 : decode cX11_habits 134 = .ok (.bipush 8, 2) := by decide +kernel
theorem dX11_habits_136 : decode cX11_habits 136 = .ok (.idiv, 1) := by decide +kernel
theorem dX11_habits_137 : decode cX11_habits 137 = .ok (.if_icmp .ne 7, 3) := by decide +kernel
theorem dX11_habits_140 : decode cX11_habits 140 = .ok (.iconst 1, 1) := by decide +kernel
theorem dX11_habits_141 : decode cX11_habits 141 = .ok (.goto 4, 3) := by decide +kernel
theorem dX11_habits_144 : decode cX11_habits 144 = .ok (.iconst 0, 1) := by decide +kernel
theorem dX11_habits_145 : decode cX11_habits 145 = .ok (.istore 4, 2) := by decide +kernel
theorem dX11_habits_147 : decode cX11_habits 147 = .ok (.iinc 5 1, 3) := by decide +kernel
theorem dX11_habits_150 : decode cX11_habits 150 = .ok (.goto (-89), 3) := by decide +kernel
theorem dX11_habits_153 : decode cX11_habits 153 = .ok (.aload_n 0, 1) := by decide +kernel
theorem dX11_habits_154 : decode cX11_habits 154 = .ok (.getfield 120, 3) := by decide +kernel
theorem dX11_habits_157 : decode cX11_habits 157 = .ok (.iload_n 1, 1) := by decide +kernel
theorem dX11_habits_158 : decode cX11_habits 158 = .ok (.dup2, 1) := by decide +kernel
theorem dX11_habits_159 : decode cX11_habits 159 = .ok (.iaload, 1) := by decide +kernel
theorem dX11_habits_160 : decode cX11_habits 160 = .ok (.iload_n 3, 1) := by decide +kernel
theorem dX11_habits_161 : decode cX11_habits 161 = .ok (.ifCond .eq 7, 3) := by decide +kernel
theorem dX11_habits_164 : decode cX11_habits 164 = .ok (.iconst 1, 1) := by decide +kernel
theorem dX11_habits_165 : decode cX11_habits 165 = .ok (.goto 4, 3) := by decide +kernel
theorem dX11_habits_168 : decode cX11_habits 168 = .ok (.iconst 0, 1) := by decide +kernel
theorem dX11_habits_169 : decode cX11_habits 169 = .ok (.iadd, 1) := by decide +kernel
theorem dX11_habits_170 : decode cX11_habits 170 = .ok (.iastore, 1) := by decide +kernel
theorem dX11_habits_171 : decode cX11_habits 171 = .ok (.aload_n 0, 1) := by decide +kernel
theorem dX11_habits_172 : decode cX11_habits 172 = .ok (.getfield 123, 3) := by decide +kernel
theorem dX11_habits_175 : decode cX11_habits 175 = .ok (.iload_n 1, 1) := by decide +kernel
theorem dX11_habits_176 : decode cX11_habits 176 = .ok (.dup2, 1) := by decide +kernel
theorem dX11_habits_177 : decode cX11_habits 177 = .ok (.iaload, 1) := by decide +kernel
theorem dX11_habits_178 : decode cX11_habits 178 = .ok (.iload_n 3, 1) := by decide +kernel
theorem dX11_habits_179 : decode cX11_habits 179 = .ok (.ifCond .eq 12, 3) := by decide +kernel
theorem dX11_habits_182 : decode cX11_habits 182 = .ok (.iload 4, 2) := by decide +kernel
theorem dX11_habits_184 : decode cX11_habits 184 = .ok (.ifCond .ne 7, 3) := by decide +kernel
theorem dX11_habits_187 : decode cX11_habits 187 = .ok (.iconst 1, 1) := by decide +kernel
theorem dX11_habits_188 : decode cX11_habits 188 = .ok (.goto 4, 3) := by decide +kernel
theorem dX11_habits_191 : decode cX11_habits 191 = .ok (.iconst 0, 1) := by decide +kernel
theorem dX11_habits_192 : decode cX11_habits 192 = .ok (.iadd, 1) := by decide +kernel
theorem dX11_habits_193 : decode cX11_habits 193 = .ok (.iastore, 1) := by decide +kernel
theorem dX11_habits_194 : decode cX11_habits 194 = .ok (.iinc 2 1, 3) := by decide +kernel
theorem dX11_habits_197 : decode cX11_habits 197 = .ok (.goto (-173), 3) := by decide +kernel
theorem dX11_habits_200 : decode cX11_habits 200 = .ok (.iinc 1 1, 3) := by decide +kernel
theorem dX11_habits_203 : decode cX11_habits 203 = .ok (.goto (-201), 3) := by decide +kernel
theorem dX11_habits_206 : decode cX11_habits 206 = .ok (.return_, 1) := by decide +kernel
theorem dX11_habit_0 : decode cX11_habit 0 = .ok (.aload_n 0, 1) := by decide +kernel
theorem dX11_habit_1 : decode cX11_habit 1 = .ok (.iconst 0, 1) := by decide +kernel
theorem dX11_habit_2 : decode cX11_habit 2 = .ok (.putfield 133, 3) := by decide +kernel
theorem dX11_habit_5 : decode cX11_habit 5 = .ok (.aload_n 0, 1) := by decide +kernel
theorem dX11_habit_6 : decode cX11_habit 6 = .ok (.iload_n 1, 1) := by decide +kernel
theorem dX11_habit_7 : decode cX11_habit 7 = .ok (.invokestatic 136, 3) := by decide +kernel
theorem dX11_habit_10 : decode cX11_habit 10 = .ok (.ifCond .eq 19, 3) := by decide +kernel
theorem dX11_habit_13 : decode cX11_habit 13 = .ok (.iload_n 2, 1) := by decide +kernel
theorem dX11_habit_14 : decode cX11_habit 14 = .ok (.invokestatic 136, 3) := by decide +kernel
theorem dX11_habit_17 : decode cX11_habit 17 = .ok (.ifCond .eq 12, 3) := by decide +kernel
theorem dX11_habit_20 : decode cX11_habit 20 = .ok (.iload_n 3, 1) := by decide +kernel
theorem dX11_habit_21 : decode cX11_habit 21 = .ok (.ifCond .lt 8, 3) := by decide +kernel
theorem dX11_habit_24 : decode cX11_habit 24 = .ok (.iload_n 3, 1) := by decide +kernel
theorem dX11_habit_25 : decode cX11_habit 25 = .ok (.iconst 1, 1) := by decide +kernel
theorem dX11_habit_26 : decode cX11_habit 26 = .ok (.if_icmp .le 7, 3) := by decide +kernel
theorem dX11_habit_29 : decode cX11_habit 29 = .ok (.iconst 1, 1) := by decide +kernel
theorem dX11_habit_30 : decode cX11_habit 30 = .ok (.goto 4, 3) := by decide +kernel
theorem dX11_habit_33 : decode cX11_habit 33 = .ok (.iconst 0, 1) := by decide +kernel
theorem dX11_habit_34 : decode cX11_habit 34 = .ok (.iconst 1, 1) := by decide +kernel
theorem dX11_habit_35 : decode cX11_habit 35 = .ok (.invokevirtual 140, 3) := by decide +kernel
theorem dX11_habit_38 : decode cX11_habit 38 = .ok (.ifCond .eq 5, 3) := by decide +kernel
theorem dX11_habit_41 : decode cX11_habit 41 = .ok (.iconst 0, 1) := by decide +kernel
theorem dX11_habit_42 : decode cX11_habit 42 = .ok (.ireturn, 1) := by decide +kernel
theorem dX11_habit_43 : decode cX11_habit 43 = .ok (.aload_n 0, 1) := by decide +kernel
theorem dX11_habit_44 : decode cX11_habit 44 = .ok (.invokevirtual 272, 3) := by decide +kernel
theorem dX11_habit_47 : decode cX11_habit 47 = .ok (.iload_n 3, 1) := by decide +kernel
theorem dX11_habit_48 : decode cX11_habit 48 = .ok (.ifCond .ne 17, 3) := by decide +kernel
theorem dX11_habit_51 : decode cX11_habit 51 = .ok (.aload_n 0, 1) := by decide +kernel
theorem dX11_habit_52 : decode cX11_habit 52 = .ok (.getfield 120, 3) := by decide +kernel
theorem dX11_habit_55 : decode cX11_habit 55 = .ok (.bipush 8, 2) := by decide +kernel
theorem dX11_habit_57 : decode cX11_habit 57 = .ok (.iload_n 1, 1) := by decide +kernel
theorem dX11_habit_58 : decode cX11_habit 58 = .ok (.imul, 1) := by decide +kernel
theorem dX11_habit_59 : decode cX11_habit 59 = .ok (.iload_n 2, 1) := by decide +kernel
theorem dX11_habit_60 : decode cX11_habit 60 = .ok (.iadd, 1) := by decide +kernel
theorem dX11_habit_61 : decode cX11_habit 61 = .ok (.iaload, 1) := by decide +kernel
theorem dX11_habit_62 : decode cX11_habit 62 = .ok (.goto 14, 3) := by decide +kernel
theorem dX11_habit_65 : decode cX11_habit 65 = .ok (.aload_n 0, 1) := by decide +kernel
theorem dX11_habit_66 : decode cX11_habit 66 = .ok (.getfield 123, 3) := by decide +kernel
theorem dX11_habit_69 : decode cX11_habit 69 = .ok (.bipush 8, 2) := by decide +kernel
theorem dX11_habit_71 : decode cX11_habit 71 = .ok (.iload_n 1, 1) := by decide +kernel
theorem dX11_habit_72 : decode cX11_habit 72 = .ok (.imul, 1) := by decide +kernel
theorem dX11_habit_73 : decode cX11_habit 73 = .ok (.iload_n 2, 1) := by decide +kernel
theorem dX11_habit_74 : decode cX11_habit 74 = .ok (.iadd, 1) := by decide +kernel
theorem dX11_habit_75 : decode cX11_habit 75 = .ok (.iaload, 1) := by decide +kernel
theorem dX11_habit_76 : decode cX11_habit 76 = .ok (.ireturn, 1) := by decide +kernel
theorem dX11_isAhead_0 : decode cX11_isAhead 0 = .ok (.aload_n 0, 1) := by decide +kernel
theorem dX11_isAhead_1 : decode cX11_isAhead 1 = .ok (.getfield 123, 3) := by decide +kernel
theorem dX11_isAhead_4 : decode cX11_isAhead 4 = .ok (.iload_n 1, 1) := by decide +kernel
theorem dX11_isAhead_5 : decode cX11_isAhead 5 = .ok (.iaload, 1) := by decide +kernel
theorem dX11_isAhead_6 : decode cX11_isAhead 6 = .ok (.aload_n 0, 1) := by decide +kernel
theorem dX11_isAhead_7 : decode cX11_isAhead 7 = .ok (.getfield 120, 3) := by decide +kernel
theorem dX11_isAhead_10 : decode cX11_isAhead 10 = .ok (.iload_n 2, 1) := by decide +kernel
theorem dX11_isAhead_11 : decode cX11_isAhead 11 = .ok (.iaload, 1) := by decide +kernel
theorem dX11_isAhead_12 : decode cX11_isAhead 12 = .ok (.imul, 1) := by decide +kernel
theorem dX11_isAhead_13 : decode cX11_isAhead 13 = .ok (.istore_n 3, 1) := by decide +kernel
theorem dX11_isAhead_14 : decode cX11_isAhead 14 = .ok (.aload_n 0, 1) := by decide +kernel
theorem dX11_isAhead_15 : decode cX11_isAhead 15 = .ok (.getfield 123, 3) := by decide +kernel
theorem dX11_isAhead_18 : decode cX11_isAhead 18 = .ok (.iload_n 2, 1) := by decide +kernel
theorem dX11_isAhead_19 : decode cX11_isAhead 19 = .ok (.iaload, 1) := by decide +kernel
theorem dX11_isAhead_20 : decode cX11_isAhead 20 = .ok (.aload_n 0, 1) := by decide +kernel
theorem dX11_isAhead_21 : decode cX11_isAhead 21 = .ok (.getfield 120, 3) := by decide +kernel
theorem dX11_isAhead_24 : decode cX11_isAhead 24 = .ok (.iload_n 1, 1) := by decide +kernel
theorem dX11_isAhead_25 : decode cX11_isAhead 25 = .ok (.iaload, 1) := by decide +kernel
theorem dX11_isAhead_26 : decode cX11_isAhead 26 = .ok (.imul, 1) := by decide +kernel
theorem dX11_isAhead_27 : decode cX11_isAhead 27 = .ok (.istore 4, 2) := by decide +kernel
theorem dX11_isAhead_29 : decode cX11_isAhead 29 = .ok (.iload_n 3, 1) := by decide +kernel
theorem dX11_isAhead_30 : decode cX11_isAhead 30 = .ok (.iload 4, 2) := by decide +kernel
theorem dX11_isAhead_32 : decode cX11_isAhead 32 = .ok (.if_icmp .eq 15, 3) := by decide +kernel
theorem dX11_isAhead_35 : decode cX11_isAhead 35 = .ok (.iload_n 3, 1) := by decide +kernel
theorem dX11_isAhead_36 : decode cX11_isAhead 36 = .ok (.iload 4, 2) := by decide +kernel
theorem dX11_isAhead_38 : decode cX11_isAhead 38 = .ok (.if_icmp .le 7, 3) := by decide +kernel
theorem dX11_isAhead_41 : decode cX11_isAhead 41 = .ok (.iconst 1, 1) := by decide +kernel
theorem dX11_isAhead_42 : decode cX11_isAhead 42 = .ok (.goto 4, 3) := by decide +kernel
theorem dX11_isAhead_45 : decode cX11_isAhead 45 = .ok (.iconst 0, 1) := by decide +kernel
theorem dX11_isAhead_46 : decode cX11_isAhead 46 = .ok (.ireturn, 1) := by decide +kernel
theorem dX11_isAhead_47 : decode cX11_isAhead 47 = .ok (.aload_n 0, 1) := by decide +kernel
theorem dX11_isAhead_48 : decode cX11_isAhead 48 = .ok (.getfield 120, 3) := by decide +kernel
theorem dX11_isAhead_51 : decode cX11_isAhead 51 = .ok (.iload_n 1, 1) := by decide +kernel
theorem dX11_isAhead_52 : decode cX11_isAhead 52 = .ok (.iaload, 1) := by decide +kernel
theorem dX11_isAhead_53 : decode cX11_isAhead 53 = .ok (.aload_n 0, 1) := by decide +kernel
theorem dX11_isAhead_54 : decode cX11_isAhead 54 = .ok (.getfield 120, 3) := by decide +kernel
theorem dX11_isAhead_57 : decode cX11_isAhead 57 = .ok (.iload_n 2, 1) := by decide +kernel
theorem dX11_isAhead_58 : decode cX11_isAhead 58 = .ok (.iaload, 1) := by decide +kernel
theorem dX11_isAhead_59 : decode cX11_isAhead 59 = .ok (.if_icmp .eq 26, 3) := by decide +kernel
theorem dX11_isAhead_62 : decode cX11_isAhead 62 = .ok (.aload_n 0, 1) := by decide +kernel
theorem dX11_isAhead_63 : decode cX11_isAhead 63 = .ok (.getfield 120, 3) := by decide +kernel
theorem dX11_isAhead_66 : decode cX11_isAhead 66 = .ok (.iload_n 1, 1) := by decide +kernel
theorem dX11_isAhead_67 : decode cX11_isAhead 67 = .ok (.iaload, 1) := by decide +kernel
theorem dX11_isAhead_68 : decode cX11_isAhead 68 = .ok (.aload_n 0, 1) := by decide +kernel
theorem dX11_isAhead_69 : decode cX11_isAhead 69 = .ok (.getfield 120, 3) := by decide +kernel
theorem dX11_isAhead_72 : decode cX11_isAhead 72 = .ok (.iload_n 2, 1) := by decide +kernel
theorem dX11_isAhead_73 : decode cX11_isAhead 73 = .ok (.iaload, 1) := by decide +kernel
theorem dX11_isAhead_74 : decode cX11_isAhead 74 = .ok (.if_icmp .le 7, 3) := by decide +kernel
theorem dX11_isAhead_77 : decode cX11_isAhead 77 = .ok (.iconst 1, 1) := by decide +kernel
theorem dX11_isAhead_78 : decode cX11_isAhead 78 = .ok (.goto 17, 3) := by decide +kernel
theorem dX11_isAhead_81 : decode cX11_isAhead 81 = .ok (.iconst 0, 1) := by decide +kernel
theorem dX11_isAhead_82 : decode cX11_isAhead 82 = .ok (.goto 13, 3) := by decide +kernel
theorem dX11_isAhead_85 : decode cX11_isAhead 85 = .ok (.iload_n 1, 1) := by decide +kernel
theorem dX11_isAhead_86 : decode cX11_isAhead 86 = .ok (.iload_n 2, 1) := by decide +kernel
theorem dX11_isAhead_87 : decode cX11_isAhead 87 = .ok (.if_icmp .ge 7, 3) := by decide +kernel
theorem dX11_isAhead_90 : decode cX11_isAhead 90 = .ok (.iconst 1, 1) := by decide +kernel
theorem dX11_isAhead_91 : decode cX11_isAhead 91 = .ok (.goto 4, 3) := by decide +kernel
theorem dX11_isAhead_94 : decode cX11_isAhead 94 = .ok (.iconst 0, 1) := by decide +kernel
theorem dX11_isAhead_95 : decode cX11_isAhead 95 = .ok (.ireturn, 1) := by decide +kernel
theorem dX11_rank_0 : decode cX11_rank 0 = .ok (.aload_n 0, 1) := by decide +kernel
theorem dX11_rank_1 : decode cX11_rank 1 = .ok (.iconst 0, 1) := by decide +kernel
theorem dX11_rank_2 : decode cX11_rank 2 = .ok (.putfield 133, 3) := by decide +kernel
theorem dX11_rank_5 : decode cX11_rank 5 = .ok (.aload_n 0, 1) := by decide +kernel
theorem dX11_rank_6 : decode cX11_rank 6 = .ok (.iload_n 2, 1) := by decide +kernel
theorem dX11_rank_7 : decode cX11_rank 7 = .ok (.ifCond .lt 8, 3) := by decide +kernel
theorem dX11_rank_10 : decode cX11_rank 10 = .ok (.iload_n 2, 1) := by decide +kernel
theorem dX11_rank_11 : decode cX11_rank 11 = .ok (.iconst 1, 1) := by decide +kernel
theorem dX11_rank_12 : decode cX11_rank 12 = .ok (.if_icmp .le 7, 3) := by decide +kernel
theorem dX11_rank_15 : decode cX11_rank 15 = .ok (.iconst 1, 1) := by decide +kernel
theorem dX11_rank_16 : decode cX11_rank 16 = .ok (.goto 4, 3) := by decide +kernel
theorem dX11_rank_19 : decode cX11_rank 19 = .ok (.iconst 0, 1) := by decide +kernel
theorem dX11_rank_20 : decode cX11_rank 20 = .ok (.iconst 1, 1) := by decide +kernel
theorem dX11_rank_21 : decode cX11_rank 21 = .ok (.invokevirtual 140, 3) := by decide +kernel
theorem dX11_rank_24 : decode cX11_rank 24 = .ok (.ifCond .eq 5, 3) := by decide +kernel
theorem dX11_rank_27 : decode cX11_rank 27 = .ok (.iconst 0, 1) := by decide +kernel
theorem dX11_rank_28 : decode cX11_rank 28 = .ok (.ireturn, 1) := by decide +kernel
theorem dX11_rank_29 : decode cX11_rank 29 = .ok (.aload_n 0, 1) := by decide +kernel
theorem dX11_rank_30 : decode cX11_rank 30 = .ok (.invokevirtual 272, 3) := by decide +kernel
theorem dX11_rank_33 : decode cX11_rank 33 = .ok (.iconst 0, 1) := by decide +kernel
theorem dX11_rank_34 : decode cX11_rank 34 = .ok (.istore_n 3, 1) := by decide +kernel
theorem dX11_rank_35 : decode cX11_rank 35 = .ok (.iload_n 3, 1) := by decide +kernel
theorem dX11_rank_36 : decode cX11_rank 36 = .ok (.bipush 64, 2) := by decide +kernel
theorem dX11_rank_38 : decode cX11_rank 38 = .ok (.if_icmp .ge 126, 3) := by decide +kernel
theorem dX11_rank_41 : decode cX11_rank 41 = .ok (.iload_n 1, 1) := by decide +kernel
theorem dX11_rank_42 : decode cX11_rank 42 = .ok (.ifCond .lt 122, 3) := by decide +kernel
theorem dX11_rank_45 : decode cX11_rank 45 = .ok (.iload_n 3, 1) := by decide +kernel
theorem dX11_rank_46 : decode cX11_rank 46 = .ok (.bipush 8, 2) := by decide +kernel
theorem dX11_rank_48 : decode cX11_rank 48 = .ok (.idiv, 1) := by decide +kernel
theorem dX11_rank_49 : decode cX11_rank 49 = .ok (.iload_n 3, 1) := by decide +kernel
theorem dX11_rank_50 : decode cX11_rank 50 = .ok (.bipush 8, 2) := by decide +kernel
theorem dX11_rank_52 : decode cX11_rank 52 = .ok (.irem, 1) := by decide +kernel
theorem dX11_rank_53 : decode cX11_rank 53 = .ok (.if_icmp .eq 105, 3) := by decide +kernel
theorem dX11_rank_56 : decode cX11_rank 56 = .ok (.aload_n 0, 1) := by decide +kernel
theorem dX11_rank_57 : decode cX11_rank 57 = .ok (.getfield 120, 3) := by decide +kernel
theorem dX11_rank_60 : decode cX11_rank 60 = .ok (.iload_n 3, 1) := by decide +kernel
theorem dX11_rank_61 : decode cX11_rank 61 = .ok (.iaload, 1) := by decide +kernel
theorem dX11_rank_62 : decode cX11_rank 62 = .ok (.ifCond .ne 6, 3) := by decide +kernel
theorem dX11_rank_65 : decode cX11_rank 65 = .ok (.goto 93, 3) := by decide +kernel
theorem dX11_rank_68 : decode cX11_rank 68 = .ok (.iconst 0, 1) := by decide +kernel
theorem dX11_rank_69 : decode cX11_rank 69 = .ok (.istore 4, 2) := by decide +kernel
theorem dX11_rank_71 : decode cX11_rank 71 = .ok (.iconst 0, 1) := by decide +kernel
theorem dX11_rank_72 : decode cX11_rank 72 = .ok (.istore 5, 2) := by decide +kernel
theorem dX11_rank_74 : decode cX11_rank 74 = .ok (.iload 5, 2) := by decide +kernel
theorem dX11_rank_76 : decode cX11_rank 76 = .ok (.bipush 64, 2) := by decide +kernel
theorem dX11_rank_78 : decode cX11_rank 78 = .ok (.if_icmp .ge 58, 3) := by decide +kernel
theorem dX11_rank_81 : decode cX11_rank 81 = .ok (.iload 4, 2) := by decide +kernel
theorem dX11_rank_83 : decode cX11_rank 83 = .ok (.iload 5, 2) := by decide +kernel
theorem dX11_rank_85 : decode cX11_rank 85 = .ok (.iload_n 3, 1) := by decide +kernel
theorem dX11_rank_86 : decode cX11_rank 86 = .ok (.if_icmp .eq 40, 3) := by decide +kernel
theorem dX11_rank_89 : decode cX11_rank 89 = .ok (.iload 5, 2) := by decide +kernel
theorem dX11_rank_91 : decode cX11_rank 91 = .ok (.bipush 8, 2) := by decide +kernel
theorem dX11_rank_93 : decode cX11_rank 93 = .ok (.idiv, 1) := by decide +kernel
theorem dX11_rank_94 : decode cX11_rank 94 = .ok (.iload 5, 2) := by decide +kernel
theorem dX11_rank_96 : decode cX11_rank 96 = .ok (.bipush 8, 2) := by decide +kernel
theorem dX11_rank_98 : decode cX11_rank 98 = .ok (.irem, 1) := by decide +kernel
theorem dX11_rank_99 : decode cX11_rank 99 = .ok (.if_icmp .eq 27, 3) := by decide +kernel
theorem dX11_rank_102 : decode cX11_rank 102 = .ok (.aload_n 0, 1) := by decide +kernel
theorem dX11_rank_103 : decode cX11_rank 103 = .ok (.getfield 120, 3) := by decide +kernel
theorem dX11_rank_106 : decode cX11_rank 106 = .ok (.iload 5, 2) := by decide +kernel
theorem dX11_rank_108 : decode cX11_rank 108 = .ok (.iaload, 1) := by decide +kernel
theorem dX11_rank_109 : decode cX11_rank 109 = .ok (.ifCond .le 17, 3) := by decide +kernel
theorem dX11_rank_112 : decode cX11_rank 112 = .ok (.aload_n 0, 1) := by decide +kernel
theorem dX11_rank_113 : decode cX11_rank 113 = .ok (.iload 5, 2) := by decide +kernel
theorem dX11_rank_115 : decode cX11_rank 115 = .ok (.iload_n 3, 1) := by decide +kernel
theorem dX11_rank_116 : decode cX11_rank 116 = .ok (.invokevirtual 275, 3) := by decide +kernel
theorem dX11_rank_119 : decode cX11_rank 119 = .ok (.ifCond .eq 7, 3) := by decide +kernel
theorem dX11_rank_122 : decode cX11_rank 122 = .ok (.iconst 1, 1) := by decide +kernel
theorem dX11_rank_123 : decode cX11_rank 123 = .ok (.goto 4, 3) := by decide +kernel
theorem dX11_rank_126 : decode cX11_rank 126 = .ok (.iconst 0, 1) := by decide +kernel
theorem dX11_rank_127 : decode cX11_rank 127 = .ok (.iadd, 1) := by decide +kernel
theorem dX11_rank_128 : decode cX11_rank 128 = .ok (.istore 4, 2) := by decide +kernel
theorem dX11_rank_130 : decode cX11_rank 130 = .ok (.iinc 5 1, 3) := by decide +kernel
theorem dX11_rank_133 : decode cX11_rank 133 = .ok (.goto (-59), 3) := by decide +kernel
theorem dX11_rank_136 : decode cX11_rank 136 = .ok (.iload 4, 2) := by decide +kernel
theorem dX11_rank_138 : decode cX11_rank 138 = .ok (.iload_n 1, 1) := by decide +kernel
theorem dX11_rank_139 : decode cX11_rank 139 = .ok (.if_icmp .ne 19, 3) := by decide +kernel
theorem dX11_rank_142 : decode cX11_rank 142 = .ok (.iload_n 2, 1) := by decide +kernel
theorem dX11_rank_143 : decode cX11_rank 143 = .ok (.ifCond .ne 10, 3) := by decide +kernel
theorem dX11_rank_146 : decode cX11_rank 146 = .ok (.iload_n 3, 1) := by decide +kernel
theorem dX11_rank_147 : decode cX11_rank 147 = .ok (.bipush 8, 2) := by decide +kernel
theorem dX11_rank_149 : decode cX11_rank 149 = .ok (.idiv, 1) := by decide +kernel
theorem dX11_rank_150 : decode cX11_rank 150 = .ok (.goto 7, 3) := by decide +kernel
theorem dX11_rank_153 : decode cX11_rank 153 = .ok (.iload_n 3, 1) := by decide +kernel
theorem dX11_rank_154 : decode cX11_rank 154 = .ok (.bipush 8, 2) := by decide +kernel
theorem dX11_rank_156 : decode cX11_rank 156 = .ok (.irem, 1) := by decide +kernel
theorem dX11_rank_157 : decode cX11_rank 157 = .ok (.ireturn, 1) := by decide +kernel
theorem dX11_rank_158 : decode cX11_rank 158 = .ok (.iinc 3 1, 3) := by decide +kernel
theorem dX11_rank_161 : decode cX11_rank 161 = .ok (.goto (-126), 3) := by decide +kernel
theorem dX11_rank_164 : decode cX11_rank 164 = .ok (.iconst (-1), 1) := by decide +kernel
theorem dX11_rank_165 : decode cX11_rank 165 = .ok (.ireturn, 1) := by decide +kernel
theorem dX11_count_0 : decode cX11_count 0 = .ok (.aload_n 0, 1) := by decide +kernel
theorem dX11_count_1 : decode cX11_count 1 = .ok (.iconst 0, 1) := by decide +kernel
theorem dX11_count_2 : decode cX11_count 2 = .ok (.putfield 133, 3) := by decide +kernel
theorem dX11_count_5 : decode cX11_count 5 = .ok (.iconst 0, 1) := by decide +kernel
theorem dX11_count_6 : decode cX11_count 6 = .ok (.istore_n 2, 1) := by decide +kernel
theorem dX11_count_7 : decode cX11_count 7 = .ok (.iload_n 1, 1) := by decide +kernel
theorem dX11_count_8 : decode cX11_count 8 = .ok (.tableswitch 146 0 6 #[44, 79, 84, 89, 127, 132, 137], 44) := by decide +kernel
theorem dX11_count_52 : decode cX11_count 52 = .ok (.iconst 0, 1) := by decide +kernel
theorem dX11_count_53 : decode cX11_count 53 = .ok (.istore_n 3, 1) := by decide +kernel
theorem dX11_count_54 : decode cX11_count 54 = .ok (.iload_n 3, 1) := by decide +kernel
theorem dX11_count_55 : decode cX11_count 55 = .ok (.aload_n 0, 1) := by decide +kernel
theorem dX11_count_56 : decode cX11_count 56 = .ok (.getfield 147, 3) := by decide +kernel
theorem dX11_count_59 : decode cX11_count 59 = .ok (.if_icmp .ge 26, 3) := by decide +kernel
theorem dX11_count_62 : decode cX11_count 62 = .ok (.iload_n 2, 1) := by decide +kernel
theorem dX11_count_63 : decode cX11_count 63 = .ok (.aload_n 0, 1) := by decide +kernel
theorem dX11_count_64 : decode cX11_count 64 = .ok (.getfield 23, 3) := by decide +kernel
theorem dX11_count_67 : decode cX11_count 67 = .ok (.iload_n 3, 1) := by decide +kernel
theorem dX11_count_68 : decode cX11_count 68 = .ok (.baload, 1) := by decide +kernel
theorem dX11_count_69 : decode cX11_count 69 = .ok (.ifCond .eq 7, 3) := by decide +kernel
theorem dX11_count_72 : decode cX11_count 72 = .ok (.iconst 1, 1) := by decide +kernel
theorem dX11_count_73 : decode cX11_count 73 = .ok (.goto 4, 3) := by decide +kernel
theorem dX11_count_76 : decode cX11_count 76 = .ok (.iconst 0, 1) := by decide +kernel
theorem dX11_count_77 : decode cX11_count 77 = .ok (.iadd, 1) := by decide +kernel
theorem dX11_count_78 : decode cX11_count 78 = .ok (.istore_n 2, 1) := by decide +kernel
theorem dX11_count_79 : decode cX11_count 79 = .ok (.iinc 3 1, 3) := by decide +kernel
theorem dX11_count_82 : decode cX11_count 82 = .ok (.goto (-28), 3) := by decide +kernel
theorem dX11_count_85 : decode cX11_count 85 = .ok (.iload_n 2, 1) := by decide +kernel
theorem dX11_count_86 : decode cX11_count 86 = .ok (.ireturn, 1) := by decide +kernel
theorem dX11_count_87 : decode cX11_count 87 = .ok (.aload_n 0, 1) := by decide +kernel
theorem dX11_count_88 : decode cX11_count 88 = .ok (.getfield 147, 3) := by decide +kernel
theorem dX11_count_91 : decode cX11_count 91 = .ok (.ireturn, 1) := by decide +kernel
theorem dX11_count_92 : decode cX11_count 92 = .ok (.aload_n 0, 1) := by decide +kernel
theorem dX11_count_93 : decode cX11_count 93 = .ok (.getfield 126, 3) := by decide +kernel
theorem dX11_count_96 : decode cX11_count 96 = .ok (.ireturn, 1) := by decide +kernel
theorem dX11_count_97 : decode cX11_count 97 = .ok (.iconst 0, 1) := by decide +kernel
theorem dX11_count_98 : decode cX11_count 98 = .ok (.istore_n 3, 1) := by decide +kernel
theorem dX11_count_99 : decode cX11_count 99 = .ok (.iload_n 3, 1) := by decide +kernel
theorem dX11_count_100 : decode cX11_count 100 = .ok (.bipush 8, 2) := by decide +kernel
theorem dX11_count_102 : decode cX11_count 102 = .ok (.aload_n 0, 1) := by decide +kernel
theorem dX11_count_103 : decode cX11_count 103 = .ok (.getfield 126, 3) := by decide +kernel
theorem dX11_count_106 : decode cX11_count 106 = .ok (.imul, 1) := by decide +kernel
theorem dX11_count_107 : decode cX11_count 107 = .ok (.if_icmp .ge 26, 3) := by decide +kernel
theorem dX11_count_110 : decode cX11_count 110 = .ok (.iload_n 2, 1) := by decide +kernel
theorem dX11_count_111 : decode cX11_count 111 = .ok (.aload_n 0, 1) := by decide +kernel
theorem dX11_count_112 : decode cX11_count 112 = .ok (.getfield 65, 3) := by decide +kernel
theorem dX11_count_115 : decode cX11_count 115 = .ok (.iload_n 3, 1) := by decide +kernel
theorem dX11_count_116 : decode cX11_count 116 = .ok (.iaload, 1) := by decide +kernel
theorem dX11_count_117 : decode cX11_count 117 = .ok (.ifCond .lt 7, 3) := by decide +kernel
theorem dX11_count_120 : decode cX11_count 120 = .ok (.iconst 1, 1) := by decide +kernel
theorem dX11_count_121 : decode cX11_count 121 = .ok (.goto 4, 3) := by decide +kernel
theorem dX11_count_124 : decode cX11_count 124 = .ok (.iconst 0, 1) := by decide +kernel
theorem dX11_count_125 : decode cX11_count 125 = .ok (.iadd, 1) := by decide +kernel
theorem dX11_count_126 : decode cX11_count 126 = .ok (.istore_n 2, 1) := by decide +kernel
theorem dX11_count_127 : decode cX11_count 127 = .ok (.iinc 3 1, 3) := by decide +kernel
theorem dX11_count_130 : decode cX11_count 130 = .ok (.goto (-31), 3) := by decide +kernel
theorem dX11_count_133 : decode cX11_count 133 = .ok (.iload_n 2, 1) := by decide +kernel
theorem dX11_count_134 : decode cX11_count 134 = .ok (.ireturn, 1) := by decide +kernel
theorem dX11_count_135 : decode cX11_count 135 = .ok (.aload_n 0, 1) := by decide +kernel
theorem dX11_count_136 : decode cX11_count 136 = .ok (.getfield 144, 3) := by decide +kernel
theorem dX11_count_139 : decode cX11_count 139 = .ok (.ireturn, 1) := by decide +kernel
theorem dX11_count_140 : decode cX11_count 140 = .ok (.aload_n 0, 1) := by decide +kernel
theorem dX11_count_141 : decode cX11_count 141 = .ok (.getfield 204, 3) := by decide +kernel
theorem dX11_count_144 : decode cX11_count 144 = .ok (.ireturn, 1) := by decide +kernel
theorem dX11_count_145 : decode cX11_count 145 = .ok (.aload_n 0, 1) := by decide +kernel
theorem dX11_count_146 : decode cX11_count 146 = .ok (.invokevirtual 177, 3) := by decide +kernel
theorem dX11_count_149 : decode cX11_count 149 = .ok (.aload_n 0, 1) := by decide +kernel
theorem dX11_count_150 : decode cX11_count 150 = .ok (.getfield 164, 3) := by decide +kernel
theorem dX11_count_153 : decode cX11_count 153 = .ok (.ireturn, 1) := by decide +kernel
theorem dX11_count_154 : decode cX11_count 154 = .ok (.iconst (-1), 1) := by decide +kernel
theorem dX11_count_155 : decode cX11_count 155 = .ok (.ireturn, 1) := by decide +kernel
end
section
/-! BASE: a world of fixed shape, its numbers as one function M (cell, place) of whole numbers; an abstract machine K over it; a row of K an instruction. -/
/-- the tables' words that every method may be given -/
def tbg : List Cond := lw_tbl.filter goodWord
/-- the calls of a nest mate's own members -/
def nst : List (String × Nat × MethodName × String) := [(RX10, 20, yX0_init, RX10), (RX10, 62, yX8_init, RX10), (RX1, 83, yX10_isCall, RX10), (RX2, 25, yX10_isCall, RX10), (RX4, 32, yX10_isCall, RX10), (RX8, 49, yX10_isCall, RX10), (RX9, 63, yX10_isCall, RX10)]
def NS (U : State) : Prop := ∀ q ∈ nst, va_Nw (.methodLinkNest q.1 q.2.1 q.2.2.1 q.2.2.2) U
theorem NS.warm {s U : State} (h : NS s) (hW : s.WarmedH U.vm) : NS U := fun q hq => va_Nw.warmM hW (h q hq)
theorem NS.same {s U : State} (h : NS s) (hv : s.vm = U.vm) : NS U := fun q hq => va_Nw.same rfl hv (h q hq)
abbrev V : Type := Int ⊕ Nat
abbrev Mem : Type := Nat → Int → Int
abbrev Lv : Type := List (Nat × V)
/-- a cell's shape: an array (type, length), or an object (class, its fields: a cell or a number) -/
abbrev Sh : Type := (FieldType × Nat) ⊕ (Nat × List (Option Nat))
def up (M : Mem) (k : Nat) (i v : Int) : Mem := fun k' i' => if k' = k ∧ i' = i then v else M k' i'
abbrev inR (z : Int) : Prop := -2147483648 ≤ z ∧ z < 2147483648
def Rg (M : Mem) : Prop := ∀ k i, inR (M k i)
def vv (ad : Nat → Nat) : V → Value
  | .inl z => .int (Int32.ofInt z)
  | .inr k => .ref (ad k)
def cA (cI cZ cB : ClassId) : FieldType → ClassId
  | .boolean => cZ
  | .byte => cB
  | _ => cI
def fv (ad : Nat → Nat) (M : Mem) (k : Nat) (j : Nat) : Option Nat → Value
  | some r => .ref (ad r)
  | none => .int (Int32.ofInt (M k j))
def cellOf (cI cZ cB : ClassId) (ad : Nat → Nat) (M : Mem) (k : Nat) : Sh → va_E
  | .inl (ty, n) => .inl (cA cI cZ cB ty, n, .inl (fun j => Int32.ofInt (M k j)))
  | .inr (ci, fs) => .inr (ci, fs.mapIdx (fun j f => fv ad M k j f))
def wsOf (sh : Nat → Sh) (N : Nat) (cI cZ cB : ClassId) (ad : Nat → Nat) (M : Mem) : va_W := (List.range N).map (fun k => (ad k, cellOf cI cZ cB ad M k (sh k)))
abbrev tyl (cI cZ cB : ClassId) : List (ClassId × FieldType) := [(cI, .int), (cZ, .boolean), (cB, .byte)]
theorem wsOf_at {sh : Nat → Sh} {N : Nat} {cI cZ cB : ClassId} {ad : Nat → Nat} {M : Mem} {k : Nat} (hk : k < N) : (wsOf sh N cI cZ cB ad M)[k]? = some (ad k, cellOf cI cZ cB ad M k (sh k)) := by
  simp [wsOf, hk]
theorem wsOf_len {sh : Nat → Sh} {N : Nat} {cI cZ cB : ClassId} {ad : Nat → Nat} {M : Mem} : (wsOf sh N cI cZ cB ad M).length = N := by simp [wsOf]
theorem wsOf_set {sh : Nat → Sh} {N : Nat} {cI cZ cB : ClassId} {ad : Nat → Nat} {M M' : Mem} {k : Nat} {e : va_E} (hk : k < N) (he : cellOf cI cZ cB ad M' k (sh k) = e) (ho : ∀ j, j ≠ k → M' j = M j) : (wsOf sh N cI cZ cB ad M).set k (ad k, e) = wsOf sh N cI cZ cB ad M' := by
  apply List.ext_getElem?
  intro j
  by_cases hj : j = k
  · subst hj
    rw [List.getElem?_set_self (by rw [wsOf_len]; exact hk), wsOf_at hk, he]
  · rw [List.getElem?_set_ne (Ne.symm hj)]
    by_cases hjN : j < N
    · rw [wsOf_at hjN, wsOf_at hjN]
      have := ho j hj
      congr 2
      unfold cellOf fv
      rw [this]
    · rw [List.getElem?_eq_none (by rw [wsOf_len]; omega), List.getElem?_eq_none (by rw [wsOf_len]; omega)]
theorem up_ne {M : Mem} {k : Nat} {i v : Int} {j : Nat} (h : j ≠ k) : up M k i v j = M j := by
  funext x; simp [up, h]
theorem up_same {M : Mem} {k : Nat} {i v : Int} : up M k i v k i = v := by simp [up]
theorem up_at {M : Mem} {k : Nat} {i v : Int} {j : Int} : up M k i v k j = if j = i then v else M k j := by simp [up]
theorem Rg.up {M : Mem} (h : Rg M) {k : Nat} {i v : Int} (hv : inR v) : Rg (up M k i v) := by
  intro k' i'; unfold Jvm.Pilot.CUsageDeskLaw_law_r3463_3d926f.up; split
  · exact hv
  · exact h _ _
/-! locals -/
def lk : Lv → Nat → Option V
  | [], _ => none
  | (j, w) :: t, i => match Nat.beq j i with
    | true => some w
    | false => lk t i
def rml : Lv → Nat → Lv
  | [], _ => []
  | (j, w) :: t, i => match Nat.beq j i with
    | true => rml t i
    | false => (j, w) :: rml t i
def inl : Lv → Nat → V → Lv
  | [], i, v => [(i, v)]
  | (j, w) :: t, i, v => match Nat.blt i j with
    | true => (i, v) :: (j, w) :: t
    | false => (j, w) :: inl t i v
def sl (lv : Lv) (i : Nat) (v : V) : Lv := inl (rml lv i) i v
theorem lk_mem : ∀ {lv : Lv} {i : Nat} {v : V}, lk lv i = some v → (i, v) ∈ lv
  | [], i, v, h => by simp [lk] at h
  | (j, w) :: t, i, v, h => by
    unfold lk at h
    cases hb : Nat.beq j i with
    | true => rw [hb] at h; simp at h; have := Nat.eq_of_beq_eq_true hb; subst this; subst h; exact List.mem_cons_self
    | false => rw [hb] at h; exact List.mem_cons_of_mem _ (lk_mem h)
theorem rml_mem : ∀ {lv : Lv} {i : Nat} {q : Nat × V}, q ∈ rml lv i → q ∈ lv ∧ q.1 ≠ i
  | [], i, q, h => by simp [rml] at h
  | (j, w) :: t, i, q, h => by
    unfold rml at h
    cases hb : Nat.beq j i with
    | true => rw [hb] at h; have := rml_mem (lv := t) h; exact ⟨List.mem_cons_of_mem _ this.1, this.2⟩
    | false =>
      rw [hb] at h
      rcases List.mem_cons.mp h with h | h
      · subst h; exact ⟨List.mem_cons_self, Nat.ne_of_beq_eq_false hb⟩
      · have := rml_mem (lv := t) h; exact ⟨List.mem_cons_of_mem _ this.1, this.2⟩
theorem inl_mem : ∀ {lv : Lv} {i : Nat} {v : V} {q : Nat × V}, q ∈ inl lv i v → q = (i, v) ∨ q ∈ lv
  | [], i, v, q, h => by simp [inl] at h; exact Or.inl h
  | (j, w) :: t, i, v, q, h => by
    unfold inl at h
    cases hb : Nat.blt i j with
    | true =>
      rw [hb] at h
      rcases List.mem_cons.mp h with h | h
      · exact Or.inl h
      · exact Or.inr h
    | false =>
      rw [hb] at h
      rcases List.mem_cons.mp h with h | h
      · exact Or.inr (by rw [h]; exact List.mem_cons_self)
      · rcases inl_mem (lv := t) h with h | h
        · exact Or.inl h
        · exact Or.inr (List.mem_cons_of_mem _ h)
theorem sl_mem {lv : Lv} {i : Nat} {v : V} {q : Nat × V} (h : q ∈ sl lv i v) : q = (i, v) ∨ (q ∈ lv ∧ q.1 ≠ i) := by
  rcases inl_mem h with h | h
  · exact Or.inl h
  · exact Or.inr (rml_mem h)
def lm (ad : Nat → Nat) (lv : Lv) : List (Nat × Value) := lv.map (fun q => (q.1, vv ad q.2))
theorem lm_at {ad : Nat → Nat} {ls : Array Slot} {n : Nat} {lv : Lv} (h : lv_has ls n (lm ad lv)) {i : Nat} {v : V} (hl : lk lv i = some v) : ls[i]? = some (.val (vv ad v)) :=
  h.2.2 (i, vv ad v) (List.mem_map.mpr ⟨(i, v), lk_mem hl, rfl⟩)
theorem lv_mono {ls : Array Slot} {n : Nat} {l l' : List (Nat × Value)} (h : lv_has ls n l) (hs : ∀ q ∈ l', q ∈ l) : lv_has ls n l' := ⟨h.1, h.2.1, fun q hq => h.2.2 q (hs q hq)⟩
theorem vv_cat (ad : Nat → Nat) (v : V) : (vv ad v).category = 1 := by cases v <;> rfl
theorem lm_store {ad : Nat → Nat} {ls : Array Slot} {n i : Nat} {lv : Lv} {v : V} (h : lv_has ls n ((i, vv ad v) :: (lm ad lv).filter (fun q => !(q.1 == i) && !(q.1 + 1 == i && q.2.category == 2)))) : lv_has ls n (lm ad (sl lv i v)) := by
  refine lv_mono h fun q hq => ?_
  obtain ⟨q0, h0, rfl⟩ := List.mem_map.mp hq
  rcases sl_mem h0 with h1 | ⟨h1, h2⟩
  · subst h1; exact List.mem_cons_self
  · refine List.mem_cons_of_mem _ (List.mem_filter.mpr ⟨List.mem_map.mpr ⟨q0, h1, rfl⟩, ?_⟩)
    simp [vv_cat, h2]
theorem lm_sub {ad : Nat → Nat} {ls : Array Slot} {n : Nat} {lv lv' : Lv} (h : lv_has ls n (lm ad lv)) (hs : lv'.all (fun q => match lk lv q.1 with | some _ => true | none => false) = true) (hv : ∀ q ∈ lv', lk lv q.1 = some q.2) : lv_has ls n (lm ad lv') := by
  refine lv_mono h fun q hq => ?_
  obtain ⟨q0, h0, rfl⟩ := List.mem_map.mp hq
  exact List.mem_map.mpr ⟨q0, lk_mem (hv q0 h0), rfl⟩
end
section
/-! the abstract machine over a world, and its rows -/
abbrev Kt : Type := Nat → Lv → List V → Mem → Prop
def wd (sh : Nat → Sh) (N : Nat) (D : va_G) (cI cZ cB : ClassId) (ad : Nat → Nat) (A : Nat → Prop) (M : Mem) (t : State) : Prop := Rg M ∧ va_P D vwCl (wsOf sh N cI cZ cB ad M) t.heap ∧ va_K D vwCl (tyl cI cZ cB) t ∧ va_D A (wsOf sh N cI cZ cB ad M)
def qq (ret : Option FieldType) (post : Int → Mem → Prop) (B : Mem → State → Prop) (A : Nat → Prop) : Array Value → State → Outcome → State → Prop := match ret with
  | none => va_Qv (fun u => post 0 u) B A
  | some _ => va_Qi (fun r u => ∃ z, r = Int32.ofInt z ∧ inR z ∧ post z u) B A
def KK (sh : Nat → Sh) (N nL : Nat) (R : Room) (p : Program) (l : Launch) (e : Env) (s : State) (m : MethodId) (args : Array Value) (below : List Frame) (meth : Method) (c : Code) (D : va_G) (cI cZ cB : ClassId) (ad : Nat → Nat) (A : Nat → Prop) (ce sn : Nat) (Q : State → Prop) : Kt := fun pc lv stk M =>
  Rg M → ∀ (H : Heap) (locs : List Loc) (ls : Array Slot), va_P D vwCl (wsOf sh N cI cZ cB ad M) H → va_S A s.heap H locs → lv_has ls nL (lm ad lv) → W p l e R s m args below meth c H locs ce sn Q (F0 m pc ls (stk.map (vv ad)))
def Ctx (sh : Nat → Sh) (N : Nat) (own : String) (cc : ByteArray) (nL : Nat) (ret : Option FieldType) (R : Room) (post : Int → Mem → Prop) (K : Kt) : Prop :=
  ∃ (p : Program) (l : Launch) (e : Env) (s : State) (m : MethodId) (args : Array Value) (below : List Frame) (meth : Method) (c : Code) (D : va_G) (cI cZ cB : ClassId) (ad : Nat → Nat) (A : Nat → Prop),
    (p.tables.exec = Jvm.exec ∧ c.code = cc ∧ c.maxLocals = nL ∧ s.vm.findClass own = some m.cls ∧ (∀ w ∈ tbg, w.before args s = true)) ∧ (meth.sig.returnType = ret ∧ meth.locks = false ∧ NS s) ∧ va_K D vwCl (tyl cI cZ cB) s ∧ (∀ q, s.heap.size ≤ q → A q) ∧ (∀ M, va_D A (wsOf sh N cI cZ cB ad M)) ∧
    K = KK sh N nL R p l e s m args below meth c D cI cZ cB ad A 0 0 (MQ below (qq ret post (wd sh N D cI cZ cB ad A) A) args s 0 0 A)
section ROWS
variable {sh : Nat → Sh} {N : Nat} {own : String} {cc : ByteArray} {nL : Nat} {ret : Option FieldType} {R : Room} {post : Int → Mem → Prop} {K : Kt}
variable {pc : Nat} {lv : Lv} {stk : List V} {M : Mem}
theorem k_sub (C : Ctx sh N own cc nL ret R post K) (lv' : Lv) (hv : ∀ q ∈ lv', lk lv q.1 = some q.2) (kk : K pc lv' stk M) : K pc lv stk M := by
  obtain ⟨p, l, e, s, m, args, below, meth, c, D, cI, cZ, cB, ad, A, ⟨hx, hb, hml, hown, hts⟩, ⟨hr, hlk, hns⟩, hK, hA, hD, rfl⟩ := C
  intro hM H locs ls hP hS hl
  refine kk hM H locs ls hP hS (lv_mono hl fun q hq => ?_)
  obtain ⟨q0, h0, rfl⟩ := List.mem_map.mp hq
  exact List.mem_map.mpr ⟨q0, lk_mem (hv q0 h0), rfl⟩
theorem k_rg (C : Ctx sh N own cc nL ret R post K) (kk : Rg M → K pc lv stk M) : K pc lv stk M := by
  obtain ⟨p, l, e, s, m, args, below, meth, c, D, cI, cZ, cB, ad, A, ⟨hx, hb, hml, hown, hts⟩, ⟨hr, hlk, hns⟩, hK, hA, hD, rfl⟩ := C
  intro hM
  exact kk hM hM
theorem k_iconst (C : Ctx sh N own cc nL ret R post K) {n : Int} (hd : decode cc pc = .ok (.iconst n, 1)) (kk : K (pc + 1) lv (.inl n :: stk) M) : K pc lv stk M := by
  obtain ⟨p, l, e, s, m, args, below, meth, c, D, cI, cZ, cB, ad, A, ⟨hx, hb, hml, hown, hts⟩, ⟨hr, hlk, hns⟩, hK, hA, hD, rfl⟩ := C
  intro hM H locs ls hP hS hl
  exact lv_iconst hx hb hd rfl (kk hM H locs ls hP hS hl)
theorem k_bipush (C : Ctx sh N own cc nL ret R post K) {n : Int} (hd : decode cc pc = .ok (.bipush n, 2)) (hv : (Int8.ofInt n).toInt32 = Int32.ofInt n) (kk : K (pc + 2) lv (.inl n :: stk) M) : K pc lv stk M := by
  obtain ⟨p, l, e, s, m, args, below, meth, c, D, cI, cZ, cB, ad, A, ⟨hx, hb, hml, hown, hts⟩, ⟨hr, hlk, hns⟩, hK, hA, hD, rfl⟩ := C
  intro hM H locs ls hP hS hl
  exact lv_bipush hx hb hd hv (kk hM H locs ls hP hS hl)
theorem k_sipush (C : Ctx sh N own cc nL ret R post K) {n : Int} (hd : decode cc pc = .ok (.sipush n, 3)) (hv : (Int16.ofInt n).toInt32 = Int32.ofInt n) (kk : K (pc + 3) lv (.inl n :: stk) M) : K pc lv stk M := by
  obtain ⟨p, l, e, s, m, args, below, meth, c, D, cI, cZ, cB, ad, A, ⟨hx, hb, hml, hown, hts⟩, ⟨hr, hlk, hns⟩, hK, hA, hD, rfl⟩ := C
  intro hM H locs ls hP hS hl
  exact lv_sipush hx hb hd hv (kk hM H locs ls hP hS hl)
theorem k_iload_n (C : Ctx sh N own cc nL ret R post K) {k : Fin 4} {i : Nat} {z : Int} (hd : decode cc pc = .ok (.iload_n k, 1)) (hi : (k : Nat) = i) (hl' : lk lv i = some (.inl z)) (kk : K (pc + 1) lv (.inl z :: stk) M) : K pc lv stk M := by
  obtain ⟨p, l, e, s, m, args, below, meth, c, D, cI, cZ, cB, ad, A, ⟨hx, hb, hml, hown, hts⟩, ⟨hr, hlk, hns⟩, hK, hA, hD, rfl⟩ := C
  intro hM H locs ls hP hS hl
  exact lv_iload_n hx hb hd hi (lm_at hl hl') (kk hM H locs ls hP hS hl)
theorem k_iload (C : Ctx sh N own cc nL ret R post K) {i : Nat} {z : Int} (hd : decode cc pc = .ok (.iload i, 2)) (hl' : lk lv i = some (.inl z)) (kk : K (pc + 2) lv (.inl z :: stk) M) : K pc lv stk M := by
  obtain ⟨p, l, e, s, m, args, below, meth, c, D, cI, cZ, cB, ad, A, ⟨hx, hb, hml, hown, hts⟩, ⟨hr, hlk, hns⟩, hK, hA, hD, rfl⟩ := C
  intro hM H locs ls hP hS hl
  exact lv_iload hx hb hd (lm_at hl hl') (kk hM H locs ls hP hS hl)
theorem k_aload_n (C : Ctx sh N own cc nL ret R post K) {k : Fin 4} {i : Nat} {z : Nat} (hd : decode cc pc = .ok (.aload_n k, 1)) (hi : (k : Nat) = i) (hl' : lk lv i = some (.inr z)) (kk : K (pc + 1) lv (.inr z :: stk) M) : K pc lv stk M := by
  obtain ⟨p, l, e, s, m, args, below, meth, c, D, cI, cZ, cB, ad, A, ⟨hx, hb, hml, hown, hts⟩, ⟨hr, hlk, hns⟩, hK, hA, hD, rfl⟩ := C
  intro hM H locs ls hP hS hl
  exact lv_aload_n hx hb hd hi (lm_at hl hl') (kk hM H locs ls hP hS hl)
theorem k_aload (C : Ctx sh N own cc nL ret R post K) {i : Nat} {z : Nat} (hd : decode cc pc = .ok (.aload i, 2)) (hl' : lk lv i = some (.inr z)) (kk : K (pc + 2) lv (.inr z :: stk) M) : K pc lv stk M := by
  obtain ⟨p, l, e, s, m, args, below, meth, c, D, cI, cZ, cB, ad, A, ⟨hx, hb, hml, hown, hts⟩, ⟨hr, hlk, hns⟩, hK, hA, hD, rfl⟩ := C
  intro hM H locs ls hP hS hl
  exact lv_aload hx hb hd (lm_at hl hl') (kk hM H locs ls hP hS hl)
theorem k_istore_n (C : Ctx sh N own cc nL ret R post K) {k : Fin 4} {i : Nat} {z : Int} (hd : decode cc pc = .ok (.istore_n k, 1)) (hi : (k : Nat) = i) (hn : i < nL) (kk : K (pc + 1) (sl lv i (.inl z)) stk M) : K pc lv (.inl z :: stk) M := by
  obtain ⟨p, l, e, s, m, args, below, meth, c, D, cI, cZ, cB, ad, A, ⟨hx, hb, hml, hown, hts⟩, ⟨hr, hlk, hns⟩, hK, hA, hD, rfl⟩ := C
  intro hM H locs ls hP hS hl
  exact lv_istore_n hx hb hd hi hl hn rfl (fun ls' hl' => kk hM H locs ls' hP hS (lm_store (v := .inl z) hl'))
theorem k_istore (C : Ctx sh N own cc nL ret R post K) {i : Nat} {z : Int} (hd : decode cc pc = .ok (.istore i, 2)) (hn : i < nL) (kk : K (pc + 2) (sl lv i (.inl z)) stk M) : K pc lv (.inl z :: stk) M := by
  obtain ⟨p, l, e, s, m, args, below, meth, c, D, cI, cZ, cB, ad, A, ⟨hx, hb, hml, hown, hts⟩, ⟨hr, hlk, hns⟩, hK, hA, hD, rfl⟩ := C
  intro hM H locs ls hP hS hl
  exact lv_istore hx hb hd hl hn rfl (fun ls' hl' => kk hM H locs ls' hP hS (lm_store (v := .inl z) hl'))
theorem k_astore_n (C : Ctx sh N own cc nL ret R post K) {k : Fin 4} {i : Nat} {z : Nat} (hd : decode cc pc = .ok (.astore_n k, 1)) (hi : (k : Nat) = i) (hn : i < nL) (kk : K (pc + 1) (sl lv i (.inr z)) stk M) : K pc lv (.inr z :: stk) M := by
  obtain ⟨p, l, e, s, m, args, below, meth, c, D, cI, cZ, cB, ad, A, ⟨hx, hb, hml, hown, hts⟩, ⟨hr, hlk, hns⟩, hK, hA, hD, rfl⟩ := C
  intro hM H locs ls hP hS hl
  exact lv_astore_n hx hb hd hi hl hn rfl (fun ls' hl' => kk hM H locs ls' hP hS (lm_store (v := .inr z) hl'))
theorem k_iinc (C : Ctx sh N own cc nL ret R post K) {i : Nat} {n z : Int} (hd : decode cc pc = .ok (.iinc i n, 3)) (hn : i < nL) (hl' : lk lv i = some (.inl z)) (kk : K (pc + 3) (sl lv i (.inl (z + n))) stk M) : K pc lv stk M := by
  obtain ⟨p, l, e, s, m, args, below, meth, c, D, cI, cZ, cB, ad, A, ⟨hx, hb, hml, hown, hts⟩, ⟨hr, hlk, hns⟩, hK, hA, hD, rfl⟩ := C
  intro hM H locs ls hP hS hl
  obtain ⟨j, hj⟩ := List.getElem?_of_mem (List.mem_map.mpr ⟨(i, .inl z), lk_mem hl', rfl⟩ : (i, vv ad (.inl z)) ∈ lm ad lv)
  exact lv_iinc (v := Int32.ofInt (z + n)) hx hb hd hl hj (Int32.ofInt_add z n).symm hn rfl (fun ls' hl' => kk hM H locs ls' hP hS (lm_store (v := .inl (z + n)) hl'))
theorem k_iadd (C : Ctx sh N own cc nL ret R post K) {a b : Int} (hd : decode cc pc = .ok (.iadd, 1)) (kk : K (pc + 1) lv (.inl (a + b) :: stk) M) : K pc lv (.inl b :: .inl a :: stk) M := by
  obtain ⟨p, l, e, s, m, args, below, meth, c, D, cI, cZ, cB, ad, A, ⟨hx, hb, hml, hown, hts⟩, ⟨hr, hlk, hns⟩, hK, hA, hD, rfl⟩ := C
  intro hM H locs ls hP hS hl
  have h := kk hM H locs ls hP hS hl
  simp only [List.map_cons, vv, Int32.ofInt_add] at h
  exact lv_iadd hx hb hd h
theorem k_isub (C : Ctx sh N own cc nL ret R post K) {a b : Int} (hd : decode cc pc = .ok (.isub, 1)) (kk : K (pc + 1) lv (.inl (a - b) :: stk) M) : K pc lv (.inl b :: .inl a :: stk) M := by
  obtain ⟨p, l, e, s, m, args, below, meth, c, D, cI, cZ, cB, ad, A, ⟨hx, hb, hml, hown, hts⟩, ⟨hr, hlk, hns⟩, hK, hA, hD, rfl⟩ := C
  intro hM H locs ls hP hS hl
  have h := kk hM H locs ls hP hS hl
  simp only [List.map_cons, vv, Int32.ofInt_sub] at h
  exact lv_isub hx hb hd h
theorem k_imul (C : Ctx sh N own cc nL ret R post K) {a b : Int} (hd : decode cc pc = .ok (.imul, 1)) (kk : K (pc + 1) lv (.inl (a * b) :: stk) M) : K pc lv (.inl b :: .inl a :: stk) M := by
  obtain ⟨p, l, e, s, m, args, below, meth, c, D, cI, cZ, cB, ad, A, ⟨hx, hb, hml, hown, hts⟩, ⟨hr, hlk, hns⟩, hK, hA, hD, rfl⟩ := C
  intro hM H locs ls hP hS hl
  have h := kk hM H locs ls hP hS hl
  simp only [List.map_cons, vv, Int32.ofInt_mul] at h
  exact lv_imul hx hb hd h
theorem k_dup (C : Ctx sh N own cc nL ret R post K) {a : V} (hd : decode cc pc = .ok (.dup, 1)) (kk : K (pc + 1) lv (a :: a :: stk) M) : K pc lv (a :: stk) M := by
  obtain ⟨p, l, e, s, m, args, below, meth, c, D, cI, cZ, cB, ad, A, ⟨hx, hb, hml, hown, hts⟩, ⟨hr, hlk, hns⟩, hK, hA, hD, rfl⟩ := C
  intro hM H locs ls hP hS hl
  exact lv_dup hx hb hd (vv_cat ad a) (kk hM H locs ls hP hS hl)
theorem k_pop (C : Ctx sh N own cc nL ret R post K) {a : V} (hd : decode cc pc = .ok (.pop, 1)) (kk : K (pc + 1) lv stk M) : K pc lv (a :: stk) M := by
  obtain ⟨p, l, e, s, m, args, below, meth, c, D, cI, cZ, cB, ad, A, ⟨hx, hb, hml, hown, hts⟩, ⟨hr, hlk, hns⟩, hK, hA, hD, rfl⟩ := C
  intro hM H locs ls hP hS hl
  exact lv_pop hx hb hd (vv_cat ad a) (kk hM H locs ls hP hS hl)
theorem k_dup2 (C : Ctx sh N own cc nL ret R post K) {a b : V} (hd : decode cc pc = .ok (.dup2, 1)) (kk : K (pc + 1) lv (a :: b :: a :: b :: stk) M) : K pc lv (a :: b :: stk) M := by
  obtain ⟨p, l, e, s, m, args, below, meth, c, D, cI, cZ, cB, ad, A, ⟨hx, hb, hml, hown, hts⟩, ⟨hr, hlk, hns⟩, hK, hA, hD, rfl⟩ := C
  intro hM H locs ls hP hS hl
  exact lv_dup2_11 hx hb hd (vv_cat ad a) (vv_cat ad b) (kk hM H locs ls hP hS hl)
theorem k_dup_x1 (C : Ctx sh N own cc nL ret R post K) {a b : V} (hd : decode cc pc = .ok (.dup_x1, 1)) (kk : K (pc + 1) lv (a :: b :: a :: stk) M) : K pc lv (a :: b :: stk) M := by
  obtain ⟨p, l, e, s, m, args, below, meth, c, D, cI, cZ, cB, ad, A, ⟨hx, hb, hml, hown, hts⟩, ⟨hr, hlk, hns⟩, hK, hA, hD, rfl⟩ := C
  intro hM H locs ls hP hS hl
  exact lv_dup_x1 hx hb hd (vv_cat ad a) (vv_cat ad b) (kk hM H locs ls hP hS hl)
theorem k_goto (C : Ctx sh N own cc nL ret R post K) {off : Int} {tgt : Nat} (hd : decode cc pc = .ok (.goto off, 3)) (ht : (pc : Int) + off = (tgt : Int)) (kk : K tgt lv stk M) : K pc lv stk M := by
  obtain ⟨p, l, e, s, m, args, below, meth, c, D, cI, cZ, cB, ad, A, ⟨hx, hb, hml, hown, hts⟩, ⟨hr, hlk, hns⟩, hK, hA, hD, rfl⟩ := C
  intro hM H locs ls hP hS hl
  exact lv_goto hx hb hd ht (kk hM H locs ls hP hS hl)
end ROWS
theorem tI {z : Int} (h : inR z) : (Int32.ofInt z).toInt = z := Int32.toInt_ofInt_of_le h.1 h.2
theorem oI_lt {a b : Int} (ha : inR a) (hb : inR b) : Int32.ofInt a < Int32.ofInt b ↔ a < b := by rw [Int32.lt_iff_toInt_lt, tI ha, tI hb]
theorem oI_le {a b : Int} (ha : inR a) (hb : inR b) : Int32.ofInt a ≤ Int32.ofInt b ↔ a ≤ b := by rw [Int32.le_iff_toInt_le, tI ha, tI hb]
theorem oI_eq {a b : Int} (ha : inR a) (hb : inR b) : Int32.ofInt a = Int32.ofInt b ↔ a = b := by
  constructor
  · intro h; rw [← tI ha, ← tI hb, h]
  · intro h; rw [h]
theorem oI_0 : (0 : Int32) = Int32.ofInt 0 := rfl
theorem oI_in {z : Int} {n : Nat} (h0 : 0 ≤ z) (h1 : z < n) (hn : n < 2147483648) : vp_in (Int32.ofInt z) n ∧ ((Int32.ofInt z).toNatClampNeg : Int) = z := by
  have hz : inR z := by constructor <;> omega
  have ht := tI hz
  have hc : ((Int32.ofInt z).toNatClampNeg : Int) = z := by
    unfold Int32.toNatClampNeg
    rw [ht]; omega
  refine ⟨fun h => ?_, hc⟩
  rcases h with h | h
  · rw [oI_0, oI_lt hz (by constructor <;> omega)] at h; omega
  · omega
end
section
/-! rows: branches, fields, arrays, ends, calls -/
section ROWS2
variable {sh : Nat → Sh} {N : Nat} {own : String} {cc : ByteArray} {nL : Nat} {ret : Option FieldType} {R : Room} {post : Int → Mem → Prop} {K : Kt}
variable {pc : Nat} {lv : Lv} {stk : List V} {M : Mem}
theorem k_icmp_eq (C : Ctx sh N own cc nL ret R post K) {a b : Int} {off : Int} {tgt : Nat} (hd : decode cc pc = .ok (.if_icmp .eq off, 3)) (ht : (pc : Int) + off = (tgt : Int)) (ha : inR a) (hb' : inR b) (kt : a = b → K tgt lv stk M) (kf : ¬ a = b → K (pc + 3) lv stk M) : K pc lv (.inl b :: .inl a :: stk) M := by
  obtain ⟨p, l, e, s, m, args, below, meth, c, D, cI, cZ, cB, ad, A, ⟨hx, hb, hml, hown, hts⟩, ⟨hr, hlk, hns⟩, hK, hA, hD, rfl⟩ := C
  intro hM H locs ls hP hS hl
  exact lv_icmp_eq hx hb hd ht (fun h => kt ((oI_eq ha hb').mp h) hM H locs ls hP hS hl) (fun h => kf (fun q => h ((oI_eq ha hb').mpr q)) hM H locs ls hP hS hl)
theorem k_if_eq (C : Ctx sh N own cc nL ret R post K) {a : Int} {off : Int} {tgt : Nat} (hd : decode cc pc = .ok (.ifCond .eq off, 3)) (ht : (pc : Int) + off = (tgt : Int)) (ha : inR a) (kt : a = 0 → K tgt lv stk M) (kf : ¬ a = 0 → K (pc + 3) lv stk M) : K pc lv (.inl a :: stk) M := by
  obtain ⟨p, l, e, s, m, args, below, meth, c, D, cI, cZ, cB, ad, A, ⟨hx, hb, hml, hown, hts⟩, ⟨hr, hlk, hns⟩, hK, hA, hD, rfl⟩ := C
  intro hM H locs ls hP hS hl
  have r0 : inR 0 := by decide
  exact lv_if_eq hx hb hd ht (fun h => kt ((oI_eq ha r0).mp h) hM H locs ls hP hS hl) (fun h => kf (fun q => h ((oI_eq ha r0).mpr q)) hM H locs ls hP hS hl)
theorem k_icmp_ne (C : Ctx sh N own cc nL ret R post K) {a b : Int} {off : Int} {tgt : Nat} (hd : decode cc pc = .ok (.if_icmp .ne off, 3)) (ht : (pc : Int) + off = (tgt : Int)) (ha : inR a) (hb' : inR b) (kt : ¬ a = b → K tgt lv stk M) (kf : a = b → K (pc + 3) lv stk M) : K pc lv (.inl b :: .inl a :: stk) M := by
  obtain ⟨p, l, e, s, m, args, below, meth, c, D, cI, cZ, cB, ad, A, ⟨hx, hb, hml, hown, hts⟩, ⟨hr, hlk, hns⟩, hK, hA, hD, rfl⟩ := C
  intro hM H locs ls hP hS hl
  exact lv_icmp_ne hx hb hd ht (fun h => kt (fun q => h ((oI_eq ha hb').mpr q)) hM H locs ls hP hS hl) (fun h => kf ((oI_eq ha hb').mp h) hM H locs ls hP hS hl)
theorem k_if_ne (C : Ctx sh N own cc nL ret R post K) {a : Int} {off : Int} {tgt : Nat} (hd : decode cc pc = .ok (.ifCond .ne off, 3)) (ht : (pc : Int) + off = (tgt : Int)) (ha : inR a) (kt : ¬ a = 0 → K tgt lv stk M) (kf : a = 0 → K (pc + 3) lv stk M) : K pc lv (.inl a :: stk) M := by
  obtain ⟨p, l, e, s, m, args, below, meth, c, D, cI, cZ, cB, ad, A, ⟨hx, hb, hml, hown, hts⟩, ⟨hr, hlk, hns⟩, hK, hA, hD, rfl⟩ := C
  intro hM H locs ls hP hS hl
  have r0 : inR 0 := by decide
  exact lv_if_ne hx hb hd ht (fun h => kt (fun q => h ((oI_eq ha r0).mpr q)) hM H locs ls hP hS hl) (fun h => kf ((oI_eq ha r0).mp h) hM H locs ls hP hS hl)
theorem k_icmp_lt (C : Ctx sh N own cc nL ret R post K) {a b : Int} {off : Int} {tgt : Nat} (hd : decode cc pc = .ok (.if_icmp .lt off, 3)) (ht : (pc : Int) + off = (tgt : Int)) (ha : inR a) (hb' : inR b) (kt : a < b → K tgt lv stk M) (kf : b ≤ a → K (pc + 3) lv stk M) : K pc lv (.inl b :: .inl a :: stk) M := by
  obtain ⟨p, l, e, s, m, args, below, meth, c, D, cI, cZ, cB, ad, A, ⟨hx, hb, hml, hown, hts⟩, ⟨hr, hlk, hns⟩, hK, hA, hD, rfl⟩ := C
  intro hM H locs ls hP hS hl
  exact lv_icmp_lt hx hb hd ht (fun h => kt ((oI_lt ha hb').mp h) hM H locs ls hP hS hl) (fun h => kf (Int.not_lt.mp (fun q => h ((oI_lt ha hb').mpr q))) hM H locs ls hP hS hl)
theorem k_if_lt (C : Ctx sh N own cc nL ret R post K) {a : Int} {off : Int} {tgt : Nat} (hd : decode cc pc = .ok (.ifCond .lt off, 3)) (ht : (pc : Int) + off = (tgt : Int)) (ha : inR a) (kt : a < 0 → K tgt lv stk M) (kf : 0 ≤ a → K (pc + 3) lv stk M) : K pc lv (.inl a :: stk) M := by
  obtain ⟨p, l, e, s, m, args, below, meth, c, D, cI, cZ, cB, ad, A, ⟨hx, hb, hml, hown, hts⟩, ⟨hr, hlk, hns⟩, hK, hA, hD, rfl⟩ := C
  intro hM H locs ls hP hS hl
  have r0 : inR 0 := by decide
  exact lv_if_lt hx hb hd ht (fun h => kt ((oI_lt ha r0).mp h) hM H locs ls hP hS hl) (fun h => kf (Int.not_lt.mp (fun q => h ((oI_lt ha r0).mpr q))) hM H locs ls hP hS hl)
theorem k_icmp_ge (C : Ctx sh N own cc nL ret R post K) {a b : Int} {off : Int} {tgt : Nat} (hd : decode cc pc = .ok (.if_icmp .ge off, 3)) (ht : (pc : Int) + off = (tgt : Int)) (ha : inR a) (hb' : inR b) (kt : b ≤ a → K tgt lv stk M) (kf : a < b → K (pc + 3) lv stk M) : K pc lv (.inl b :: .inl a :: stk) M := by
  obtain ⟨p, l, e, s, m, args, below, meth, c, D, cI, cZ, cB, ad, A, ⟨hx, hb, hml, hown, hts⟩, ⟨hr, hlk, hns⟩, hK, hA, hD, rfl⟩ := C
  intro hM H locs ls hP hS hl
  exact lv_icmp_ge hx hb hd ht (fun h => kt ((oI_le hb' ha).mp h) hM H locs ls hP hS hl) (fun h => kf (Int.not_le.mp (fun q => h ((oI_le hb' ha).mpr q))) hM H locs ls hP hS hl)
theorem k_if_ge (C : Ctx sh N own cc nL ret R post K) {a : Int} {off : Int} {tgt : Nat} (hd : decode cc pc = .ok (.ifCond .ge off, 3)) (ht : (pc : Int) + off = (tgt : Int)) (ha : inR a) (kt : 0 ≤ a → K tgt lv stk M) (kf : a < 0 → K (pc + 3) lv stk M) : K pc lv (.inl a :: stk) M := by
  obtain ⟨p, l, e, s, m, args, below, meth, c, D, cI, cZ, cB, ad, A, ⟨hx, hb, hml, hown, hts⟩, ⟨hr, hlk, hns⟩, hK, hA, hD, rfl⟩ := C
  intro hM H locs ls hP hS hl
  have r0 : inR 0 := by decide
  exact lv_if_ge hx hb hd ht (fun h => kt ((oI_le r0 ha).mp h) hM H locs ls hP hS hl) (fun h => kf (Int.not_le.mp (fun q => h ((oI_le r0 ha).mpr q))) hM H locs ls hP hS hl)
theorem k_icmp_gt (C : Ctx sh N own cc nL ret R post K) {a b : Int} {off : Int} {tgt : Nat} (hd : decode cc pc = .ok (.if_icmp .gt off, 3)) (ht : (pc : Int) + off = (tgt : Int)) (ha : inR a) (hb' : inR b) (kt : b < a → K tgt lv stk M) (kf : a ≤ b → K (pc + 3) lv stk M) : K pc lv (.inl b :: .inl a :: stk) M := by
  obtain ⟨p, l, e, s, m, args, below, meth, c, D, cI, cZ, cB, ad, A, ⟨hx, hb, hml, hown, hts⟩, ⟨hr, hlk, hns⟩, hK, hA, hD, rfl⟩ := C
  intro hM H locs ls hP hS hl
  exact lv_icmp_gt hx hb hd ht (fun h => kt ((oI_lt hb' ha).mp h) hM H locs ls hP hS hl) (fun h => kf (Int.not_lt.mp (fun q => h ((oI_lt hb' ha).mpr q))) hM H locs ls hP hS hl)
theorem k_if_gt (C : Ctx sh N own cc nL ret R post K) {a : Int} {off : Int} {tgt : Nat} (hd : decode cc pc = .ok (.ifCond .gt off, 3)) (ht : (pc : Int) + off = (tgt : Int)) (ha : inR a) (kt : 0 < a → K tgt lv stk M) (kf : a ≤ 0 → K (pc + 3) lv stk M) : K pc lv (.inl a :: stk) M := by
  obtain ⟨p, l, e, s, m, args, below, meth, c, D, cI, cZ, cB, ad, A, ⟨hx, hb, hml, hown, hts⟩, ⟨hr, hlk, hns⟩, hK, hA, hD, rfl⟩ := C
  intro hM H locs ls hP hS hl
  have r0 : inR 0 := by decide
  exact lv_if_gt hx hb hd ht (fun h => kt ((oI_lt r0 ha).mp h) hM H locs ls hP hS hl) (fun h => kf (Int.not_lt.mp (fun q => h ((oI_lt r0 ha).mpr q))) hM H locs ls hP hS hl)
theorem k_icmp_le (C : Ctx sh N own cc nL ret R post K) {a b : Int} {off : Int} {tgt : Nat} (hd : decode cc pc = .ok (.if_icmp .le off, 3)) (ht : (pc : Int) + off = (tgt : Int)) (ha : inR a) (hb' : inR b) (kt : a ≤ b → K tgt lv stk M) (kf : b < a → K (pc + 3) lv stk M) : K pc lv (.inl b :: .inl a :: stk) M := by
  obtain ⟨p, l, e, s, m, args, below, meth, c, D, cI, cZ, cB, ad, A, ⟨hx, hb, hml, hown, hts⟩, ⟨hr, hlk, hns⟩, hK, hA, hD, rfl⟩ := C
  intro hM H locs ls hP hS hl
  exact lv_icmp_le hx hb hd ht (fun h => kt ((oI_le ha hb').mp h) hM H locs ls hP hS hl) (fun h => kf (Int.not_le.mp (fun q => h ((oI_le ha hb').mpr q))) hM H locs ls hP hS hl)
theorem k_if_le (C : Ctx sh N own cc nL ret R post K) {a : Int} {off : Int} {tgt : Nat} (hd : decode cc pc = .ok (.ifCond .le off, 3)) (ht : (pc : Int) + off = (tgt : Int)) (ha : inR a) (kt : a ≤ 0 → K tgt lv stk M) (kf : 0 < a → K (pc + 3) lv stk M) : K pc lv (.inl a :: stk) M := by
  obtain ⟨p, l, e, s, m, args, below, meth, c, D, cI, cZ, cB, ad, A, ⟨hx, hb, hml, hown, hts⟩, ⟨hr, hlk, hns⟩, hK, hA, hD, rfl⟩ := C
  intro hM H locs ls hP hS hl
  have r0 : inR 0 := by decide
  exact lv_if_le hx hb hd ht (fun h => kt ((oI_le ha r0).mp h) hM H locs ls hP hS hl) (fun h => kf (Int.not_le.mp (fun q => h ((oI_le ha r0).mpr q))) hM H locs ls hP hS hl)
theorem k_iaload (C : Ctx sh N own cc nL ret R post K) {k n : Nat} {i : Int} (hs : sh k = .inl (.int, n)) (hk : k < N) (hn : n < 2147483648) (hi : 0 ≤ i ∧ i < n) (hd : decode cc pc = .ok (.iaload, 1)) (kk : inR (M k i) → K (pc + 1) lv (.inl (M k i) :: stk) M) : K pc lv (.inl i :: .inr k :: stk) M := by
  obtain ⟨p, l, e, s, m, args, below, meth, c, D, cI, cZ, cB, ad, A, ⟨hx, hb, hml, hown, hts⟩, ⟨hr, hlk, hns⟩, hK, hA, hD, rfl⟩ := C
  intro hM H locs ls hP hS hl
  obtain ⟨h1, h2⟩ := oI_in hi.1 hi.2 hn
  have hc := wsOf_at (sh := sh) (cI := cI) (cZ := cZ) (cB := cB) (ad := ad) (M := M) hk
  rw [hs] at hc
  refine va_iald hx hb hK hP k 0 hc rfl h1 hd ?_
  have h := kk (hM k i) hM H locs ls hP hS hl
  simp only [h2]
  exact h
theorem k_zaload (C : Ctx sh N own cc nL ret R post K) {k n : Nat} {i : Int} (hs : sh k = .inl (.boolean, n)) (hk : k < N) (hn : n < 2147483648) (hi : 0 ≤ i ∧ i < n) (hd : decode cc pc = .ok (.baload, 1)) (kk : inR (M k i) → K (pc + 1) lv (.inl (M k i) :: stk) M) : K pc lv (.inl i :: .inr k :: stk) M := by
  obtain ⟨p, l, e, s, m, args, below, meth, c, D, cI, cZ, cB, ad, A, ⟨hx, hb, hml, hown, hts⟩, ⟨hr, hlk, hns⟩, hK, hA, hD, rfl⟩ := C
  intro hM H locs ls hP hS hl
  obtain ⟨h1, h2⟩ := oI_in hi.1 hi.2 hn
  have hc := wsOf_at (sh := sh) (cI := cI) (cZ := cZ) (cB := cB) (ad := ad) (M := M) hk
  rw [hs] at hc
  refine va_zald hx hb hK hP k 1 hc rfl h1 hd ?_
  have h := kk (hM k i) hM H locs ls hP hS hl
  simp only [h2]
  exact h
theorem k_baload (C : Ctx sh N own cc nL ret R post K) {k n : Nat} {i : Int} (hs : sh k = .inl (.byte, n)) (hk : k < N) (hn : n < 2147483648) (hi : 0 ≤ i ∧ i < n) (hd : decode cc pc = .ok (.baload, 1)) (kk : inR (M k i) → K (pc + 1) lv (.inl (M k i) :: stk) M) : K pc lv (.inl i :: .inr k :: stk) M := by
  obtain ⟨p, l, e, s, m, args, below, meth, c, D, cI, cZ, cB, ad, A, ⟨hx, hb, hml, hown, hts⟩, ⟨hr, hlk, hns⟩, hK, hA, hD, rfl⟩ := C
  intro hM H locs ls hP hS hl
  obtain ⟨h1, h2⟩ := oI_in hi.1 hi.2 hn
  have hc := wsOf_at (sh := sh) (cI := cI) (cZ := cZ) (cB := cB) (ad := ad) (M := M) hk
  rw [hs] at hc
  refine va_bald hx hb hK hP k 2 hc rfl h1 hd ?_
  have h := kk (hM k i) hM H locs ls hP hS hl
  simp only [h2]
  exact h
theorem upd_M {M : Mem} {k : Nat} {i v : Int} {x : Int32} {j : Nat} (hj : (j : Int) = i) (hx : x = Int32.ofInt v) : upd (fun (j : Nat) => Int32.ofInt (M k j)) j x = fun (j : Nat) => Int32.ofInt (up M k i v k j) := by
  funext q
  unfold upd
  subst hx
  by_cases h : q = j
  · subst h; rw [if_pos rfl, up_at, if_pos hj]
  · rw [if_neg h, up_at, if_neg (by omega)]
theorem k_iastore (C : Ctx sh N own cc nL ret R post K) {k n : Nat} {i v : Int} (hs : sh k = .inl (.int, n)) (hk : k < N) (hn : n < 2147483648) (hi : 0 ≤ i ∧ i < n) (hv : inR v) (hd : decode cc pc = .ok (.iastore, 1)) (kk : K (pc + 1) lv stk (up M k i v)) : K pc lv (.inl v :: .inl i :: .inr k :: stk) M := by
  obtain ⟨p, l, e, s, m, args, below, meth, c, D, cI, cZ, cB, ad, A, ⟨hx, hb, hml, hown, hts⟩, ⟨hr, hlk, hns⟩, hK, hA, hD, rfl⟩ := C
  intro hM H locs ls hP hS hl
  obtain ⟨h1, h2⟩ := oI_in hi.1 hi.2 hn
  have hc := wsOf_at (sh := sh) (cI := cI) (cZ := cZ) (cB := cB) (ad := ad) (M := M) hk
  rw [hs] at hc
  refine va_iast hx hb hK hP (hD M) hS k 0 hc rfl h1 hd (fun H1 locs1 hP1 _ hS1 => ?_)
  rw [upd_M h2 rfl, wsOf_set (M' := up M k i v) hk (by rw [hs]; rfl) (fun j hj => up_ne hj)] at hP1
  exact kk (hM.up hv) H1 locs1 ls hP1 hS1 hl
theorem nar_z {v : Int} (h : v = 0 ∨ v = 1) : vp_nar .boolean (Int32.ofInt v) = Int32.ofInt v := by
  rcases h with rfl | rfl <;> decide
theorem k_zastore (C : Ctx sh N own cc nL ret R post K) {k n : Nat} {i v : Int} (hs : sh k = .inl (.boolean, n)) (hk : k < N) (hn : n < 2147483648) (hi : 0 ≤ i ∧ i < n) (hv : v = 0 ∨ v = 1) (hd : decode cc pc = .ok (.bastore, 1)) (kk : K (pc + 1) lv stk (up M k i v)) : K pc lv (.inl v :: .inl i :: .inr k :: stk) M := by
  obtain ⟨p, l, e, s, m, args, below, meth, c, D, cI, cZ, cB, ad, A, ⟨hx, hb, hml, hown, hts⟩, ⟨hr, hlk, hns⟩, hK, hA, hD, rfl⟩ := C
  intro hM H locs ls hP hS hl
  obtain ⟨h1, h2⟩ := oI_in hi.1 hi.2 hn
  have hc := wsOf_at (sh := sh) (cI := cI) (cZ := cZ) (cB := cB) (ad := ad) (M := M) hk
  rw [hs] at hc
  refine va_zast hx hb hK hP (hD M) hS k 1 hc rfl h1 hd (fun H1 locs1 hP1 _ hS1 => ?_)
  rw [upd_M h2 (nar_z hv), wsOf_set (M' := up M k i v) hk (by rw [hs]; rfl) (fun j hj => up_ne hj)] at hP1
  exact kk (hM.up (by omega)) H1 locs1 ls hP1 hS1 hl
theorem k_bastore (C : Ctx sh N own cc nL ret R post K) {k n : Nat} {i v : Int} (hs : sh k = .inl (.byte, n)) (hk : k < N) (hn : n < 2147483648) (hi : 0 ≤ i ∧ i < n) (hv : -128 ≤ v ∧ v < 128) (hd : decode cc pc = .ok (.bastore, 1)) (kk : K (pc + 1) lv stk (up M k i v)) : K pc lv (.inl v :: .inl i :: .inr k :: stk) M := by
  obtain ⟨p, l, e, s, m, args, below, meth, c, D, cI, cZ, cB, ad, A, ⟨hx, hb, hml, hown, hts⟩, ⟨hr, hlk, hns⟩, hK, hA, hD, rfl⟩ := C
  intro hM H locs ls hP hS hl
  obtain ⟨h1, h2⟩ := oI_in hi.1 hi.2 hn
  have hc := wsOf_at (sh := sh) (cI := cI) (cZ := cZ) (cB := cB) (ad := ad) (M := M) hk
  rw [hs] at hc
  have hr : inR v := by omega
  have hn8 : vp_nar .byte (Int32.ofInt v) = Int32.ofInt v := by
    rw [vp_nar_byte]
    apply Int32.toInt_inj.mp
    rw [Int8.toInt_toInt32, Int32.toInt_toInt8, tI hr]
    exact Int.bmod_eq_of_le (by simp; omega) (by simp; omega)
  refine va_bast hx hb hK hP (hD M) hS k 2 hc rfl h1 hd (fun H1 locs1 hP1 _ hS1 => ?_)
  rw [upd_M h2 hn8, wsOf_set (M' := up M k i v) hk (by rw [hs]; rfl) (fun j hj => up_ne hj)] at hP1
  exact kk (hM.up hr) H1 locs1 ls hP1 hS1 hl
theorem k_alen (C : Ctx sh N own cc nL ret R post K) {k n : Nat} {ty : FieldType} (hs : sh k = .inl (ty, n)) (hk : k < N) (hty : ty = .int ∨ ty = .boolean ∨ ty = .byte) (hd : decode cc pc = .ok (.arraylength, 1)) (kk : K (pc + 1) lv (.inl (n : Int) :: stk) M) : K pc lv (.inr k :: stk) M := by
  obtain ⟨p, l, e, s, m, args, below, meth, c, D, cI, cZ, cB, ad, A, ⟨hx, hb, hml, hown, hts⟩, ⟨hr, hlk, hns⟩, hK, hA, hD, rfl⟩ := C
  intro hM H locs ls hP hS hl
  have hc := wsOf_at (sh := sh) (cI := cI) (cZ := cZ) (cB := cB) (ad := ad) (M := M) hk
  rw [hs] at hc
  rcases hty with rfl | rfl | rfl
  · exact va_alen hx hb hK hP k 0 hc rfl rfl hd (kk hM H locs ls hP hS hl)
  · exact va_alen hx hb hK hP k 1 hc rfl rfl hd (kk hM H locs ls hP hS hl)
  · exact va_alen hx hb hK hP k 2 hc rfl rfl hd (kk hM H locs ls hP hS hl)
/-- what a class's own table says: its words are among the tables' -/
def okC (ci : Nat) (C : String) (T : u_T) (n : Nat) (ty : Nat → FieldType) : Prop := vwCl[ci]? = some (C, T, n) ∧ (∀ w ∈ u_ws C T n, w ∈ tbg) ∧ (∀ k, k < n → parseFieldDescriptor (T k).2.2.1 = some (ty k)) ∧ ∀ a, a < n → ∀ b, b < n → a ≠ b → (T a).2.1 ≠ (T b).2.1
theorem k_getR (C : Ctx sh N own cc nL ret R post K) {k r ci j n index : Nat} {fs : List (Option Nat)} {CC : String} {T : u_T} {ty : Nat → FieldType} (hc : okC ci CC T n ty) (hs : sh k = .inr (ci, fs)) (hk : k < N) (hj : j < n) (hf : fs[j]? = some (some r)) (hw : Cond.fieldLink own index (T j).1 (T j).2.1 (T j).2.2.1 ∈ tbg) (hd : decode cc pc = .ok (.getfield index, 3)) (kk : K (pc + 3) lv (.inr r :: stk) M) : K pc lv (.inr k :: stk) M := by
  obtain ⟨p, l, e, s, m, args, below, meth, c, D, cI, cZ, cB, ad, A, ⟨hx, hb, hml, hown, hts⟩, ⟨hr, hlk, hns⟩, hK, hA, hD, rfl⟩ := C
  intro hM H locs ls hP hS hl
  have he := wsOf_at (sh := sh) (cI := cI) (cZ := cZ) (cB := cB) (ad := ad) (M := M) hk
  rw [hs] at he
  exact va_get (v := .ref (ad r)) hx hb hts hc.2.1 hown hK hP k he hc.1 j hj (hts _ hw) (fun _ h => h) (by rw [List.getElem?_mapIdx, hf]; rfl) hd (kk hM H locs ls hP hS hl)
theorem k_getI (C : Ctx sh N own cc nL ret R post K) {k ci j n index : Nat} {fs : List (Option Nat)} {CC : String} {T : u_T} {ty : Nat → FieldType} (hc : okC ci CC T n ty) (hs : sh k = .inr (ci, fs)) (hk : k < N) (hj : j < n) (hf : fs[j]? = some none) (hw : Cond.fieldLink own index (T j).1 (T j).2.1 (T j).2.2.1 ∈ tbg) (hd : decode cc pc = .ok (.getfield index, 3)) (kk : inR (M k j) → K (pc + 3) lv (.inl (M k j) :: stk) M) : K pc lv (.inr k :: stk) M := by
  obtain ⟨p, l, e, s, m, args, below, meth, c, D, cI, cZ, cB, ad, A, ⟨hx, hb, hml, hown, hts⟩, ⟨hr, hlk, hns⟩, hK, hA, hD, rfl⟩ := C
  intro hM H locs ls hP hS hl
  have he := wsOf_at (sh := sh) (cI := cI) (cZ := cZ) (cB := cB) (ad := ad) (M := M) hk
  rw [hs] at he
  exact va_get (v := .int (Int32.ofInt (M k j))) hx hb hts hc.2.1 hown hK hP k he hc.1 j hj (hts _ hw) (fun _ h => h) (by rw [List.getElem?_mapIdx, hf]; rfl) hd (kk (hM k j) hM H locs ls hP hS hl)
theorem set_M {M : Mem} {ad : Nat → Nat} {k j : Nat} {v : Int} {fs : List (Option Nat)} (hf : fs[j]? = some none) : (fs.mapIdx (fun j f => fv ad M k j f)).set j (.int (Int32.ofInt v)) = fs.mapIdx (fun i f => fv ad (up M k j v) k i f) := by
  apply List.ext_getElem?
  intro i
  by_cases hi : i = j
  · subst hi
    rw [List.getElem?_set_self (by rw [List.length_mapIdx]; exact (List.getElem?_eq_some_iff.mp hf).1), List.getElem?_mapIdx, hf]
    simp [fv, up]
  · rw [List.getElem?_set_ne (Ne.symm hi), List.getElem?_mapIdx, List.getElem?_mapIdx]
    cases fs[i]? with
    | none => rfl
    | some f => cases f with
      | none => simp only [Option.map_some, fv, up]; rw [if_neg (by omega)]
      | some r => rfl
theorem k_putI (C : Ctx sh N own cc nL ret R post K) {k ci j n index : Nat} {fs : List (Option Nat)} {CC : String} {T : u_T} {ty : Nat → FieldType} {v : Int} (hc : okC ci CC T n ty) (hs : sh k = .inr (ci, fs)) (hk : k < N) (hj : j < n) (hf : fs[j]? = some none) (hfin : (T j).2.2.2 = false) (hty : ty j = .int) (hv : inR v) (hw : Cond.fieldLink own index (T j).1 (T j).2.1 (T j).2.2.1 ∈ tbg) (hd : decode cc pc = .ok (.putfield index, 3)) (kk : K (pc + 3) lv stk (up M k j v)) : K pc lv (.inl v :: .inr k :: stk) M := by
  obtain ⟨p, l, e, s, m, args, below, meth, c, D, cI, cZ, cB, ad, A, ⟨hx, hb, hml, hown, hts⟩, ⟨hr, hlk, hns⟩, hK, hA, hD, rfl⟩ := C
  intro hM H locs ls hP hS hl
  have he := wsOf_at (sh := sh) (cI := cI) (cZ := cZ) (cB := cB) (ad := ad) (M := M) hk
  rw [hs] at he
  refine va_put (v := .int (Int32.ofInt v)) (ty := .int) hx hb hts hc.2.1 ty hc.2.2.1 hc.2.2.2 hown hK hP (hD M) hS k he hc.1 j hj (hts _ hw) (fun _ h => h) hfin (by rw [hc.2.2.1 j hj, hty]) rfl rfl (by rw [List.length_mapIdx]; exact (List.getElem?_eq_some_iff.mp hf).1) hd (fun H1 locs1 hP1 _ hS1 => ?_)
  rw [set_M hf, wsOf_set (M' := up M k j v) hk (by rw [hs]; rfl) (fun j hj => up_ne hj)] at hP1
  exact kk (hM.up hv) H1 locs1 ls hP1 hS1 hl
theorem k_putZ (C : Ctx sh N own cc nL ret R post K) {k ci j n index : Nat} {fs : List (Option Nat)} {CC : String} {T : u_T} {ty : Nat → FieldType} {v : Int} (hc : okC ci CC T n ty) (hs : sh k = .inr (ci, fs)) (hk : k < N) (hj : j < n) (hf : fs[j]? = some none) (hfin : (T j).2.2.2 = false) (hty : ty j = .boolean) (hv : v = 0 ∨ v = 1) (hw : Cond.fieldLink own index (T j).1 (T j).2.1 (T j).2.2.1 ∈ tbg) (hd : decode cc pc = .ok (.putfield index, 3)) (kk : K (pc + 3) lv stk (up M k j v)) : K pc lv (.inl v :: .inr k :: stk) M := by
  obtain ⟨p, l, e, s, m, args, below, meth, c, D, cI, cZ, cB, ad, A, ⟨hx, hb, hml, hown, hts⟩, ⟨hr, hlk, hns⟩, hK, hA, hD, rfl⟩ := C
  intro hM H locs ls hP hS hl
  have he := wsOf_at (sh := sh) (cI := cI) (cZ := cZ) (cB := cB) (ad := ad) (M := M) hk
  rw [hs] at he
  refine va_put (v := .int (Int32.ofInt v)) (ty := .boolean) hx hb hts hc.2.1 ty hc.2.2.1 hc.2.2.2 hown hK hP (hD M) hS k he hc.1 j hj (hts _ hw) (fun _ h => h) hfin (by rw [hc.2.2.1 j hj, hty]) (by rcases hv with rfl | rfl <;> decide) (by rcases hv with rfl | rfl <;> decide) (by rw [List.length_mapIdx]; exact (List.getElem?_eq_some_iff.mp hf).1) hd (fun H1 locs1 hP1 _ hS1 => ?_)
  rw [set_M hf, wsOf_set (M' := up M k j v) hk (by rw [hs]; rfl) (fun j hj => up_ne hj)] at hP1
  exact kk (hM.up (by omega)) H1 locs1 ls hP1 hS1 hl
theorem k_iret (C : Ctx sh N own cc nL (some .int) R post K) {z : Int} (hd : decode cc pc = .ok (.ireturn, 1)) (hz : inR z) (hp : Rg M → post z M) : K pc lv [.inl z] M := by
  obtain ⟨p, l, e, s, m, args, below, meth, c, D, cI, cZ, cB, ad, A, ⟨hx, hb, hml, hown, hts⟩, ⟨hr, hlk, hns⟩, hK, hA, hD, rfl⟩ := C
  intro hM H locs ls hP hS hl
  exact W.iret (v := Int32.ofInt z) hx hb hr (fun t ht hW => ⟨⟨Int32.ofInt z, M, rfl, ⟨z, rfl, hz, hp hM⟩, hM, by rw [ht]; exact hP, va_K.moved hW.alike hK, hD M⟩, hS.F ht⟩) hS.2.2 hd hlk
theorem k_zret (C : Ctx sh N own cc nL (some .boolean) R post K) {z : Int} (hd : decode cc pc = .ok (.ireturn, 1)) (hz : z = 0 ∨ z = 1) (hp : Rg M → post z M) : K pc lv [.inl z] M := by
  obtain ⟨p, l, e, s, m, args, below, meth, c, D, cI, cZ, cB, ad, A, ⟨hx, hb, hml, hown, hts⟩, ⟨hr, hlk, hns⟩, hK, hA, hD, rfl⟩ := C
  intro hM H locs ls hP hS hl
  exact W.zret (v := Int32.ofInt z) hx hb hr (by rcases hz with rfl | rfl <;> decide) (fun t ht hW => ⟨⟨Int32.ofInt z, M, rfl, ⟨z, rfl, by omega, hp hM⟩, hM, by rw [ht]; exact hP, va_K.moved hW.alike hK, hD M⟩, hS.F ht⟩) hS.2.2 hd hlk
theorem k_vret (C : Ctx sh N own cc nL none R post K) (hd : decode cc pc = .ok (.return_, 1)) (hp : Rg M → post 0 M) : K pc lv [] M := by
  obtain ⟨p, l, e, s, m, args, below, meth, c, D, cI, cZ, cB, ad, A, ⟨hx, hb, hml, hown, hts⟩, ⟨hr, hlk, hns⟩, hK, hA, hD, rfl⟩ := C
  intro hM H locs ls hP hS hl
  exact W.vret hx hb hr (fun t ht hW => ⟨⟨M, rfl, hp hM, hM, by rw [ht]; exact hP, va_K.moved hW.alike hK, hD M⟩, hS.F ht⟩) hS.2.2 hd hlk
end ROWS2
end
section
/-! contracts and calls -/
theorem tbl_good : tbg.all goodWord = true := List.all_eq_true.mpr fun w hw => (List.mem_filter.mp hw).2
theorem tbl_in : GoodIn tbg tbg := fun w hw => ⟨hw, good_of_word (List.all_eq_true.mp tbl_good w hw)⟩
def ae : Nat → List V → Lv
  | _, [] => []
  | i, v :: t => (i, v) :: ae (i + 1) t
theorem ae_args (ad : Nat → Nat) : ∀ (vs : List V) (i : Nat), lv_args i (vs.map (vv ad)) = lm ad (ae i vs)
  | [], i => rfl
  | v :: t, i => by
    have h : (vv ad v).category ≠ 2 := by rw [vv_cat]; decide
    simp only [List.map_cons, lv_args, ae, lm, if_neg h]
    rw [ae_args ad t (i + 1)]
    rfl
theorem ae_len (ad : Nat → Nat) : ∀ (vs : List V), (lg_sl (vs.map (vv ad))).length = vs.length
  | [] => rfl
  | v :: t => by
    have h := ae_len ad t
    have e : lg_sl (vv ad v :: t.map (vv ad)) = [Slot.val (vv ad v)] ++ lg_sl (t.map (vv ad)) := by simp [lg_sl, vv_cat]
    rw [List.map_cons, e, List.length_append, h, List.length_cons]
    simp; omega
def Ct (sh : Nat → Sh) (N : Nat) (y : MethodName) (cc : ByteArray) (nL : Nat) (ret : Option FieldType) (rm : Room) (args : List V) (M : Mem) (post : Int → Mem → Prop) : Prop :=
  ∀ (l : Launch) (D : va_G) (cI cZ cB : ClassId) (ad : Nat → Nat) (sz : Nat), Met l y (.code y cc nL ret :: tbg) rm (va_Pc (args.map (vv ad)) (fun U => U.heap.size = sz ∧ NS U ∧ wd sh N D cI cZ cB ad (fun _ => True) M U)) (qq ret post (wd sh N D cI cZ cB ad (va_A (wsOf sh N cI cZ cB ad M) sz)) (va_A (wsOf sh N cI cZ cB ad M) sz)) 0 0 (va_A (wsOf sh N cI cZ cB ad M) sz)
theorem wsOf_D {sh : Nat → Sh} {N : Nat} {cI cZ cB : ClassId} {ad : Nat → Nat} {M : Mem} {A : Nat → Prop} (h : va_D A (wsOf sh N cI cZ cB ad M)) (M' : Mem) : va_D A (wsOf sh N cI cZ cB ad M') := by
  have key : ∀ (k : Nat) (q : Nat × va_E), (wsOf sh N cI cZ cB ad M')[k]? = some q → k < N ∧ q.1 = ad k := by
    intro k q hq
    have hk : k < N := by
      have := (List.getElem?_eq_some_iff.mp hq).1
      rw [wsOf_len] at this
      exact this
    rw [wsOf_at hk] at hq
    cases hq
    exact ⟨hk, rfl⟩
  refine ⟨fun i j x y hi hj hxy => ?_, fun k q hq => ?_⟩
  · obtain ⟨hi1, hi2⟩ := key i x hi
    obtain ⟨hj1, hj2⟩ := key j y hj
    exact h.1 i j _ _ (wsOf_at hi1) (wsOf_at hj1) (by rw [← hi2, ← hj2]; exact hxy)
  · obtain ⟨h1, h2⟩ := key k q hq
    rw [h2]
    exact h.2 k _ (wsOf_at h1)
theorem wsOf_A {sh : Nat → Sh} {N : Nat} {cI cZ cB : ClassId} {ad : Nat → Nat} {M M' : Mem} {sz q : Nat} (h : va_A (wsOf sh N cI cZ cB ad M) sz q) : va_A (wsOf sh N cI cZ cB ad M') sz q := by
  rcases h with ⟨k, e, h⟩ | h
  · have hk : k < N := by
      have := (List.getElem?_eq_some_iff.mp h).1
      rw [wsOf_len] at this
      exact this
    rw [wsOf_at hk] at h
    cases h
    exact Or.inl ⟨k, _, wsOf_at hk⟩
  · exact Or.inr h
theorem Ct_of {sh : Nat → Sh} {N : Nat} {y : MethodName} {cc : ByteArray} {nL : Nat} {ret : Option FieldType} {rm : Room} {args : List V} {M : Mem} {post : Int → Mem → Prop} (hy : plainName y.cls = true) (hn : args.length ≤ nL)
    (h : ∀ K : Kt, Ctx sh N y.cls cc nL ret rm post K → K 0 (ae 0 args) [] M) : Ct sh N y cc nL ret rm args M post := by
  intro l D cI cZ cB ad sz
  refine Met.ofW (cc := cc) (maxL := nL) (ret := ret) hy rfl ?_
  intro p e s m vs below meth c s₁ B hml hv
  obtain ⟨rfl, hsz, hns, hM, hP, hK, hD0⟩ := hv
  have hts := atoms_spec (ws := .code y cc nL ret :: tbg) B.pre
  have hown : s.vm.findClass y.cls = some m.cls := findClass_of_methodNamed B.named
  subst hsz
  have hA : ∀ q : Nat, s.heap.size ≤ q → va_A (wsOf sh N cI cZ cB ad M) s.heap.size q := fun q h => Or.inr h
  have hl := lv_entry (args.map (vv ad)) (n := nL) (by rw [ae_len]; exact hn)
  rw [ae_args] at hl
  rw [lg_entry_eq]
  exact h _ ⟨p, l, e, s, m, _, below, meth, c, D, cI, cZ, cB, ad, va_A (wsOf sh N cI cZ cB ad M) s.heap.size, ⟨B.exec, B.bytes, hml, hown, fun w hw => hts w (List.mem_cons_of_mem _ hw)⟩, ⟨B.returns, B.notSynchronized, hns⟩, hK, hA, fun M' => wsOf_D hD0.self M', rfl⟩ hM s.heap [] _ hP va_S.rf hl
/-- a contract's words at a call -/
def okV (own : String) (index : Nat) (y : MethodName) (bytes : ByteArray) (maxL : Nat) (ret : Option FieldType) (n : Nat) : Prop :=
  GoodIn tbg (wsV own index y.cls y [.code y bytes maxL ret]) ∧ y.cls ≠ "java/lang/invoke/MethodHandle" ∧ y.cls ≠ "java/lang/invoke/VarHandle" ∧ (parseMethodDescriptor y.desc).map (fun d => d.parameters.length) = some n
def okS (own : String) (index : Nat) (y : MethodName) (bytes : ByteArray) (maxL : Nat) (ret : Option FieldType) (n : Nat) : Prop :=
  GoodIn tbg (va_wsS own index y [.code y bytes maxL ret]) ∧ y.cls ≠ "java/lang/invoke/MethodHandle" ∧ y.cls ≠ "java/lang/invoke/VarHandle" ∧ (parseMethodDescriptor y.desc).map (fun d => d.parameters.length) = some n
def okN (own : String) (index : Nat) (y : MethodName) (host : String) (bytes : ByteArray) (maxL : Nat) (ret : Option FieldType) (n : Nat) : Prop :=
  (GoodIn tbg [.static y, .initialized y.cls, .code y bytes maxL ret] ∧ (own, index, y, host) ∈ nst) ∧ y.cls ≠ "java/lang/invoke/MethodHandle" ∧ y.cls ≠ "java/lang/invoke/VarHandle" ∧ (parseMethodDescriptor y.desc).map (fun d => d.parameters.length) = some n
theorem good_code {y : MethodName} {bytes : ByteArray} {maxL : Nat} {ret : Option FieldType} (h : Cond.code y bytes maxL ret ∈ tbg) : GoodIn tbg (.code y bytes maxL ret :: tbg) := by
  intro w hw
  rcases List.mem_cons.mp hw with rfl | hw
  · exact tbl_in _ h
  · exact tbl_in w hw
def psh (ret : Option FieldType) (r : Int) (stk : List V) : List V := match ret with
  | none => stk
  | some _ => .inl r :: stk
theorem wd_K {sh : Nat → Sh} {N : Nat} {D : va_G} {cI cZ cB : ClassId} {ad : Nat → Nat} {A : Nat → Prop} {M : Mem} {u U : State} (hh : U.heap = u.heap) (hv : u.vm.Alike U.vm) (h : wd sh N D cI cZ cB ad A M u) : wd sh N D cI cZ cB ad A M U := ⟨h.1, by rw [hh]; exact h.2.1, va_K.moved hv h.2.2.1, h.2.2.2⟩
theorem vvs_cat (ad : Nat → Nat) : ∀ stk : List V, ((stk.map (vv ad)).map fun v => v.category).sum = stk.length
  | [] => rfl
  | v :: t => by
    have h := vvs_cat ad t
    simp only [List.map_cons, List.sum_cons, vv_cat, List.length_cons]
    rw [h]; omega
section CALLS
variable {sh : Nat → Sh} {N : Nat} {own : String} {cc : ByteArray} {nL : Nat} {ret : Option FieldType} {R : Room} {post : Int → Mem → Prop} {K : Kt}
variable {pc : Nat} {lv : Lv} {stk stk0 : List V} {M : Mem}
/-- what is the same behind every call -/
theorem k_behind {p : Program} {l : Launch} {e : Env} {s : State} {m : MethodId} {args : Array Value} {below : List Frame} {meth : Method} {c : Code} {D : va_G} {cI cZ cB : ClassId} {ad : Nat → Nat} {A : Nat → Prop} {ret' : Option FieldType} {post' : Int → Mem → Prop} {H : Heap} {locs : List Loc} {ls : Array Slot} {st0 : List Value} {a : Array Value} {Q : State → Prop} {ce sn mc ms : Nat}
    (hr : va_Run p l e R s m args below meth c H locs ce sn mc ms (F0 m pc ls st0) (stk.map (vv ad)) (qq ret' post' (wd sh N D cI cZ cB ad (va_A (wsOf sh N cI cZ cB ad M) H.size)) (va_A (wsOf sh N cI cZ cB ad M) H.size) a) (va_A (wsOf sh N cI cZ cB ad M) H.size))
    (hS : va_S A s.heap H locs) (hA : ∀ q, s.heap.size ≤ q → A q) (hD : ∀ M, va_D A (wsOf sh N cI cZ cB ad M)) (hl : lv_has ls nL (lm ad lv))
    (kk : ∀ r M', inR r → post' r M' → KK sh N nL R p l e s m args below meth c D cI cZ cB ad A (ce + mc) (sn + ms) Q (pc + 3) lv (psh ret' r stk) M') : W p l e R s m args below meth c H locs ce sn Q (F0 m pc ls st0) := by
  have hF : ∀ q, va_A (wsOf sh N cI cZ cB ad M) H.size q → A q := by
    intro q h
    rcases h with ⟨k, e, h⟩ | h
    · exact (hD M).2 k _ h
    · exact hA q (Nat.le_trans hS.1 h)
  cases ret' with
  | none =>
    refine va_callv (a := a) hr hS (fun q _ h => hF q h) hF (fun u t H1 locs1 ht hvm hp hB hz1 hk1 hS1 => ?_)
    exact kk 0 u (by decide) hp hB.1 H1 locs1 ls (by rw [← ht]; exact hB.2.1) hS1 hl
  | some ty =>
    refine va_calli (a := a) hr hS (fun q _ h => hF q h) hF (fun r u t H1 locs1 ht hvm hp hB hz1 hk1 hS1 => ?_)
    obtain ⟨z, rfl, hz, hp⟩ := hp
    exact kk z u hz hp hB.1 H1 locs1 ls (by rw [← ht]; exact hB.2.1) hS1 hl
theorem k_callV (C : Ctx sh N own cc nL ret R post K) {y : MethodName} {bytes : ByteArray} {maxL index n : Nat} {ret' : Option FieldType} {rm : Room} {k ci nf : Nat} {fs : List (Option Nat)} {T : u_T} {As : List V} {post' : Int → Mem → Prop}
    (hw : okV own index y bytes maxL ret' n) (hd : decode cc pc = .ok (.invokevirtual index, 3)) (hc : Ct sh N y bytes maxL ret' rm (.inr k :: As) M post') (hst : stk0 = As.reverse ++ .inr k :: stk) (hs : sh k = .inr (ci, fs)) (hk : k < N) (hci : vwCl[ci]? = some (y.cls, T, nf))
    (hrm : rm.cells = 0 ∧ rm.slots = 0 ∧ rm.frames + 1 ≤ R.frames ∧ 8 + (maxL + 11) + rm.locals ≤ R.locals) (hn : As.length = n) (h8 : stk.length ≤ 8)
    (kk : ∀ r M', inR r → post' r M' → K (pc + 3) lv (psh ret' r stk) M') : K pc lv stk0 M := by
  obtain ⟨p, l, e, s, m, args, below, meth, c, D, cI, cZ, cB, ad, A, ⟨hx, hb, hml, hown, hts⟩, ⟨hr, hlk, hns⟩, hK, hA, hD, rfl⟩ := C
  intro hM H locs ls hP hS hl
  have he := wsOf_at (sh := sh) (cI := cI) (cZ := cZ) (cB := cB) (ad := ad) (M := M) hk
  rw [hs] at he
  have hcode : Cond.code y bytes maxL ret' ∈ tbg := (hw.1 _ (by simp [wsV])).1
  have hG : GoodIn tbg (wsV own index y.cls y (.code y bytes maxL ret' :: tbg)) := by
    intro w hw'
    rcases List.mem_append.mp hw' with h | h
    · exact hw.1 w (List.mem_append_left _ h)
    · exact good_code hcode w h
  subst hst
  refine k_behind (sh := sh) (N := N) (nL := nL) (cI := cI) (cZ := cZ) (cB := cB) (mc := 0) (ms := 0) (va_runV (C := y.cls) (As := As.map (vv ad)) (rest := stk.map (vv ad)) ⟨hx, hb, hml, hown, hts⟩ (hc l D cI cZ cB ad H.size) (cwV n hts hG rfl hrm.1 hrm.2.1 ⟨rfl, hw.2⟩ hrm.2.2) ⟨fun a U g mk q => ?_, va_recv hK hP hci he, fun U hU hW => ⟨rfl, by rw [hU], hns.warm hW, hM, by rw [hU]; exact hP, va_K.moved hW.alike hK, ?_⟩⟩ rfl (by rw [List.length_map]; exact hn) hl.1 (by simp [vv]) (lv_room (by rw [vvs_cat]; exact h8)) hd ⟨Nat.zero_le _, Nat.zero_le _⟩) hS hA hD hl kk
  · exact ⟨q.1, q.2.1, q.2.2.1.same rfl, wd_K (u := U) (U := U.calling g mk a) rfl (Vm.Alike.refl U.vm) q.2.2.2⟩
  · exact (hD M).weaken (fun _ _ _ _ => trivial)
theorem k_callS (C : Ctx sh N own cc nL ret R post K) {y : MethodName} {bytes : ByteArray} {maxL index n : Nat} {ret' : Option FieldType} {rm : Room} {As : List V} {post' : Int → Mem → Prop}
    (hw : okS own index y bytes maxL ret' n) (hd : decode cc pc = .ok (.invokestatic index, 3)) (hc : Ct sh N y bytes maxL ret' rm As M post') (hst : stk0 = As.reverse ++ stk)
    (hrm : rm.cells = 0 ∧ rm.slots = 0 ∧ rm.frames + 1 ≤ R.frames ∧ 8 + (maxL + 11) + rm.locals ≤ R.locals) (hn : As.length = n) (h8 : stk.length ≤ 8)
    (kk : ∀ r M', inR r → post' r M' → K (pc + 3) lv (psh ret' r stk) M') : K pc lv stk0 M := by
  obtain ⟨p, l, e, s, m, args, below, meth, c, D, cI, cZ, cB, ad, A, ⟨hx, hb, hml, hown, hts⟩, ⟨hr, hlk, hns⟩, hK, hA, hD, rfl⟩ := C
  intro hM H locs ls hP hS hl
  have hcode : Cond.code y bytes maxL ret' ∈ tbg := (hw.1 _ (by simp [va_wsS])).1
  have hG : GoodIn tbg (va_wsS own index y (.code y bytes maxL ret' :: tbg)) := by
    intro w hw'
    rcases List.mem_append.mp hw' with h | h
    · exact hw.1 w (List.mem_append_left _ h)
    · exact good_code hcode w h
  subst hst
  refine k_behind (sh := sh) (N := N) (nL := nL) (cI := cI) (cZ := cZ) (cB := cB) (mc := 0) (ms := 0) (va_runS (As := As.map (vv ad)) (rest := stk.map (vv ad)) ⟨hx, hb, hml, hown, hts⟩ (hc l D cI cZ cB ad H.size) (va_cwS n hts hG rfl hrm.1 hrm.2.1 hw.2 hrm.2.2) ⟨fun a U g mk q => ?_, fun U hU hW => ⟨rfl, by rw [hU], hns.warm hW, hM, by rw [hU]; exact hP, va_K.moved hW.alike hK, ?_⟩⟩ rfl (by rw [List.length_map]; exact hn) hl.1 (by simp) (lv_room (by rw [vvs_cat]; exact h8)) hd ⟨Nat.zero_le _, Nat.zero_le _⟩) hS hA hD hl kk
  · exact ⟨q.1, q.2.1, q.2.2.1.same rfl, wd_K (u := U) (U := U.calling g mk a) rfl (Vm.Alike.refl U.vm) q.2.2.2⟩
  · exact (hD M).weaken (fun _ _ _ _ => trivial)
theorem k_callN (C : Ctx sh N own cc nL ret R post K) {y : MethodName} {host : String} {bytes : ByteArray} {maxL index n : Nat} {ret' : Option FieldType} {rm : Room} {As : List V} {post' : Int → Mem → Prop}
    (hw : okN own index y host bytes maxL ret' n) (hd : decode cc pc = .ok (.invokestatic index, 3)) (hc : Ct sh N y bytes maxL ret' rm As M post') (hst : stk0 = As.reverse ++ stk)
    (hrm : rm.cells = 0 ∧ rm.slots = 0 ∧ rm.frames + 1 ≤ R.frames ∧ 8 + (maxL + 11) + rm.locals ≤ R.locals) (hn : As.length = n) (h8 : stk.length ≤ 8)
    (kk : ∀ r M', inR r → post' r M' → K (pc + 3) lv (psh ret' r stk) M') : K pc lv stk0 M := by
  obtain ⟨p, l, e, s, m, args, below, meth, c, D, cI, cZ, cB, ad, A, ⟨hx, hb, hml, hown, hts⟩, ⟨hr, hlk, hns⟩, hK, hA, hD, rfl⟩ := C
  intro hM H locs ls hP hS hl
  have hcode : Cond.code y bytes maxL ret' ∈ tbg := (hw.1.1 _ (by simp)).1
  have h2 := hw.1.1 (.static y) (by simp)
  have h3 := hw.1.1 (.initialized y.cls) (by simp)
  subst hst
  refine k_behind (sh := sh) (N := N) (nL := nL) (cI := cI) (cZ := cZ) (cB := cB) (mc := 0) (ms := 0) (va_runSN (As := As.map (vv ad)) (rest := stk.map (vv ad)) ⟨hx, hb, hml, hown, hts⟩ (hc l D cI cZ cB ad H.size) ⟨va_cnB n hts (good_code hcode) rfl hrm.1 hrm.2.1 (hns _ hw.1.2) (hts _ h3.1) hw.2 hrm.2.2, hts _ h2.1, trivial⟩ ⟨fun a U g mk q => ?_, fun U hU hW => ⟨rfl, by rw [hU], hns.warm hW, hM, by rw [hU]; exact hP, va_K.moved hW.alike hK, ?_⟩⟩ rfl (by rw [List.length_map]; exact hn) hl.1 (by simp) (lv_room (by rw [vvs_cat]; exact h8)) hd ⟨Nat.zero_le _, Nat.zero_le _⟩) hS hA hD hl kk
  · exact ⟨q.1, q.2.1, q.2.2.1.same rfl, wd_K (u := U) (U := U.calling g mk a) rfl (Vm.Alike.refl U.vm) q.2.2.2⟩
  · exact (hD M).weaken (fun _ _ _ _ => trivial)
end CALLS
end
section
set_option maxRecDepth 100000 in
theorem good_l {ws : List Cond} (h : ∀ w ∈ ws, w ∈ tbg) : GoodIn tbg ws := fun w hw => tbl_in w (h w hw)
set_option maxRecDepth 100000 in
theorem in_t {w : Cond} (h : w ∈ tables_1) (g : goodWord w = true) : w ∈ tbg := List.mem_filter.mpr ⟨List.mem_append_right _ h, g⟩
set_option maxRecDepth 100000 in
theorem in_s {w : Cond} (i : Nat) (h : (k2_sels lw_privs)[i]? = some w) (g : goodWord w = true) : w ∈ tbg := List.mem_filter.mpr ⟨List.mem_append_left _ (List.mem_of_getElem? h), g⟩
set_option maxRecDepth 100000 in
theorem in_1 {w : Cond} (i : Nat) (h : tables_1_1[i]? = some w) (g : goodWord w = true) : w ∈ tbg := in_t (List.mem_append_left _ (List.mem_of_getElem? h)) g
set_option maxRecDepth 100000 in
theorem in_2 {w : Cond} (i : Nat) (h : tables_1_2[i]? = some w) (g : goodWord w = true) : w ∈ tbg := in_t (List.mem_append_right _ (List.mem_append_left _ (List.mem_of_getElem? h))) g
set_option maxRecDepth 100000 in
theorem in_3 {w : Cond} (i : Nat) (h : tables_1_3[i]? = some w) (g : goodWord w = true) : w ∈ tbg := in_t (List.mem_append_right _ (List.mem_append_right _ (List.mem_append_left _ (List.mem_of_getElem? h)))) g
set_option maxRecDepth 100000 in
theorem in_4 {w : Cond} (i : Nat) (h : tables_1_4[i]? = some w) (g : goodWord w = true) : w ∈ tbg := in_t (List.mem_append_right _ (List.mem_append_right _ (List.mem_append_right _ (List.mem_append_left _ (List.mem_of_getElem? h))))) g
set_option maxRecDepth 100000 in
theorem in_5 {w : Cond} (i : Nat) (h : tables_1_5[i]? = some w) (g : goodWord w = true) : w ∈ tbg := in_t (List.mem_append_right _ (List.mem_append_right _ (List.mem_append_right _ (List.mem_append_right _ (List.mem_append_left _ (List.mem_of_getElem? h)))))) g
set_option maxRecDepth 100000 in
theorem in_6 {w : Cond} (i : Nat) (h : tables_1_6[i]? = some w) (g : goodWord w = true) : w ∈ tbg := in_t (List.mem_append_right _ (List.mem_append_right _ (List.mem_append_right _ (List.mem_append_right _ (List.mem_append_right _ (List.mem_of_getElem? h)))))) g
set_option maxRecDepth 100000 in
theorem ly0_0 : u_lay RX0 TX0 0 ∈ tbg := in_1 72 (by decide +kernel) rfl
set_option maxRecDepth 100000 in
theorem ly0_1 : u_lay RX0 TX0 1 ∈ tbg := in_1 74 (by decide +kernel) rfl
set_option maxRecDepth 100000 in
theorem ly0_2 : u_lay RX0 TX0 2 ∈ tbg := in_1 76 (by decide +kernel) rfl
set_option maxRecDepth 100000 in
theorem ly0_3 : u_lay RX0 TX0 3 ∈ tbg := in_1 78 (by decide +kernel) rfl
set_option maxRecDepth 100000 in
theorem ly0_4 : u_lay RX0 TX0 4 ∈ tbg := in_1 80 (by decide +kernel) rfl
set_option maxRecDepth 100000 in
theorem ly0_5 : u_lay RX0 TX0 5 ∈ tbg := in_1 82 (by decide +kernel) rfl
set_option maxRecDepth 100000 in
theorem ly0_6 : u_lay RX0 TX0 6 ∈ tbg := in_1 84 (by decide +kernel) rfl
set_option maxRecDepth 100000 in
theorem ly0 : ∀ w ∈ u_ws RX0 TX0 7, w ∈ tbg := by
  intro w hw
  obtain ⟨k, hk, rfl⟩ := List.mem_map.mp hw
  have hk := List.mem_range.mp hk
  match k, hk with
  | 0, _ => exact ly0_0
  | 1, _ => exact ly0_1
  | 2, _ => exact ly0_2
  | 3, _ => exact ly0_3
  | 4, _ => exact ly0_4
  | 5, _ => exact ly0_5
  | 6, _ => exact ly0_6
  | k + 7, h => omega
set_option maxRecDepth 100000 in
theorem okC0 : okC 0 RX0 TX0 7 tyX0 := ⟨rfl, ly0, tyX0_ok, nmX0⟩
set_option maxRecDepth 100000 in
theorem ly1_0 : u_lay RX1 TX1 0 ∈ tbg := in_1 201 (by decide +kernel) rfl
set_option maxRecDepth 100000 in
theorem ly1_1 : u_lay RX1 TX1 1 ∈ tbg := in_1 203 (by decide +kernel) rfl
set_option maxRecDepth 100000 in
theorem ly1_2 : u_lay RX1 TX1 2 ∈ tbg := in_1 205 (by decide +kernel) rfl
set_option maxRecDepth 100000 in
theorem ly1_3 : u_lay RX1 TX1 3 ∈ tbg := in_1 207 (by decide +kernel) rfl
set_option maxRecDepth 100000 in
theorem ly1_4 : u_lay RX1 TX1 4 ∈ tbg := in_1 209 (by decide +kernel) rfl
set_option maxRecDepth 100000 in
theorem ly1 : ∀ w ∈ u_ws RX1 TX1 5, w ∈ tbg := by
  intro w hw
  obtain ⟨k, hk, rfl⟩ := List.mem_map.mp hw
  have hk := List.mem_range.mp hk
  match k, hk with
  | 0, _ => exact ly1_0
  | 1, _ => exact ly1_1
  | 2, _ => exact ly1_2
  | 3, _ => exact ly1_3
  | 4, _ => exact ly1_4
  | k + 5, h => omega
set_option maxRecDepth 100000 in
theorem okC1 : okC 1 RX1 TX1 5 tyX1 := ⟨rfl, ly1, tyX1_ok, nmX1⟩
set_option maxRecDepth 100000 in
theorem ly2_0 : u_lay RX2 TX2 0 ∈ tbg := in_2 86 (by decide +kernel) rfl
set_option maxRecDepth 100000 in
theorem ly2_1 : u_lay RX2 TX2 1 ∈ tbg := in_2 88 (by decide +kernel) rfl
set_option maxRecDepth 100000 in
theorem ly2_2 : u_lay RX2 TX2 2 ∈ tbg := in_2 90 (by decide +kernel) rfl
set_option maxRecDepth 100000 in
theorem ly2_3 : u_lay RX2 TX2 3 ∈ tbg := in_2 92 (by decide +kernel) rfl
set_option maxRecDepth 100000 in
theorem ly2 : ∀ w ∈ u_ws RX2 TX2 4, w ∈ tbg := by
  intro w hw
  obtain ⟨k, hk, rfl⟩ := List.mem_map.mp hw
  have hk := List.mem_range.mp hk
  match k, hk with
  | 0, _ => exact ly2_0
  | 1, _ => exact ly2_1
  | 2, _ => exact ly2_2
  | 3, _ => exact ly2_3
  | k + 4, h => omega
set_option maxRecDepth 100000 in
theorem okC2 : okC 2 RX2 TX2 4 tyX2 := ⟨rfl, ly2, tyX2_ok, nmX2⟩
set_option maxRecDepth 100000 in
theorem ly3_0 : u_lay RX3 TX3 0 ∈ tbg := in_2 28 (by decide +kernel) rfl
set_option maxRecDepth 100000 in
theorem ly3_1 : u_lay RX3 TX3 1 ∈ tbg := in_2 30 (by decide +kernel) rfl
set_option maxRecDepth 100000 in
theorem ly3_2 : u_lay RX3 TX3 2 ∈ tbg := in_2 32 (by decide +kernel) rfl
set_option maxRecDepth 100000 in
theorem ly3_3 : u_lay RX3 TX3 3 ∈ tbg := in_2 34 (by decide +kernel) rfl
set_option maxRecDepth 100000 in
theorem ly3_4 : u_lay RX3 TX3 4 ∈ tbg := in_2 36 (by decide +kernel) rfl
set_option maxRecDepth 100000 in
theorem ly3_5 : u_lay RX3 TX3 5 ∈ tbg := in_2 38 (by decide +kernel) rfl
set_option maxRecDepth 100000 in
theorem ly3_6 : u_lay RX3 TX3 6 ∈ tbg := in_2 40 (by decide +kernel) rfl
set_option maxRecDepth 100000 in
theorem ly3_7 : u_lay RX3 TX3 7 ∈ tbg := in_2 42 (by decide +kernel) rfl
set_option maxRecDepth 100000 in
theorem ly3_8 : u_lay RX3 TX3 8 ∈ tbg := in_2 44 (by decide +kernel) rfl
set_option maxRecDepth 100000 in
theorem ly3_9 : u_lay RX3 TX3 9 ∈ tbg := in_2 46 (by decide +kernel) rfl
set_option maxRecDepth 100000 in
theorem ly3 : ∀ w ∈ u_ws RX3 TX3 10, w ∈ tbg := by
  intro w hw
  obtain ⟨k, hk, rfl⟩ := List.mem_map.mp hw
  have hk := List.mem_range.mp hk
  match k, hk with
  | 0, _ => exact ly3_0
  | 1, _ => exact ly3_1
  | 2, _ => exact ly3_2
  | 3, _ => exact ly3_3
  | 4, _ => exact ly3_4
  | 5, _ => exact ly3_5
  | 6, _ => exact ly3_6
  | 7, _ => exact ly3_7
  | 8, _ => exact ly3_8
  | 9, _ => exact ly3_9
  | k + 10, h => omega
set_option maxRecDepth 100000 in
theorem okC3 : okC 3 RX3 TX3 10 tyX3 := ⟨rfl, ly3, tyX3_ok, nmX3⟩
set_option maxRecDepth 100000 in
theorem ly4_0 : u_lay RX4 TX4 0 ∈ tbg := in_1 183 (by decide +kernel) rfl
set_option maxRecDepth 100000 in
theorem ly4_1 : u_lay RX4 TX4 1 ∈ tbg := in_1 185 (by decide +kernel) rfl
set_option maxRecDepth 100000 in
theorem ly4_2 : u_lay RX4 TX4 2 ∈ tbg := in_1 187 (by decide +kernel) rfl
set_option maxRecDepth 100000 in
theorem ly4 : ∀ w ∈ u_ws RX4 TX4 3, w ∈ tbg := by
  intro w hw
  obtain ⟨k, hk, rfl⟩ := List.mem_map.mp hw
  have hk := List.mem_range.mp hk
  match k, hk with
  | 0, _ => exact ly4_0
  | 1, _ => exact ly4_1
  | 2, _ => exact ly4_2
  | k + 3, h => omega
set_option maxRecDepth 100000 in
theorem okC4 : okC 4 RX4 TX4 3 tyX4 := ⟨rfl, ly4, tyX4_ok, nmX4⟩
set_option maxRecDepth 100000 in
theorem ly5_0 : u_lay RX5 TX5 0 ∈ tbg := in_1 44 (by decide +kernel) rfl
set_option maxRecDepth 100000 in
theorem ly5_1 : u_lay RX5 TX5 1 ∈ tbg := in_1 46 (by decide +kernel) rfl
set_option maxRecDepth 100000 in
theorem ly5 : ∀ w ∈ u_ws RX5 TX5 2, w ∈ tbg := by
  intro w hw
  obtain ⟨k, hk, rfl⟩ := List.mem_map.mp hw
  have hk := List.mem_range.mp hk
  match k, hk with
  | 0, _ => exact ly5_0
  | 1, _ => exact ly5_1
  | k + 2, h => omega
set_option maxRecDepth 100000 in
theorem okC5 : okC 5 RX5 TX5 2 tyX5 := ⟨rfl, ly5, tyX5_ok, nmX5⟩
set_option maxRecDepth 100000 in
theorem ly6_0 : u_lay RX6 TX6 0 ∈ tbg := in_1 142 (by decide +kernel) rfl
set_option maxRecDepth 100000 in
theorem ly6_1 : u_lay RX6 TX6 1 ∈ tbg := in_1 144 (by decide +kernel) rfl
set_option maxRecDepth 100000 in
theorem ly6_2 : u_lay RX6 TX6 2 ∈ tbg := in_1 146 (by decide +kernel) rfl
set_option maxRecDepth 100000 in
theorem ly6_3 : u_lay RX6 TX6 3 ∈ tbg := in_1 148 (by decide +kernel) rfl
set_option maxRecDepth 100000 in
theorem ly6_4 : u_lay RX6 TX6 4 ∈ tbg := in_1 150 (by decide +kernel) rfl
set_option maxRecDepth 100000 in
theorem ly6_5 : u_lay RX6 TX6 5 ∈ tbg := in_1 152 (by decide +kernel) rfl
set_option maxRecDepth 100000 in
theorem ly6_6 : u_lay RX6 TX6 6 ∈ tbg := in_1 154 (by decide +kernel) rfl
set_option maxRecDepth 100000 in
theorem ly6_7 : u_lay RX6 TX6 7 ∈ tbg := in_1 156 (by decide +kernel) rfl
set_option maxRecDepth 100000 in
theorem ly6_8 : u_lay RX6 TX6 8 ∈ tbg := in_1 158 (by decide +kernel) rfl
set_option maxRecDepth 100000 in
theorem ly6_9 : u_lay RX6 TX6 9 ∈ tbg := in_1 160 (by decide +kernel) rfl
set_option maxRecDepth 100000 in
theorem ly6_10 : u_lay RX6 TX6 10 ∈ tbg := in_1 162 (by decide +kernel) rfl
set_option maxRecDepth 100000 in
theorem ly6_11 : u_lay RX6 TX6 11 ∈ tbg := in_1 164 (by decide +kernel) rfl
set_option maxRecDepth 100000 in
theorem ly6_12 : u_lay RX6 TX6 12 ∈ tbg := in_1 166 (by decide +kernel) rfl
set_option maxRecDepth 100000 in
theorem ly6 : ∀ w ∈ u_ws RX6 TX6 13, w ∈ tbg := by
  intro w hw
  obtain ⟨k, hk, rfl⟩ := List.mem_map.mp hw
  have hk := List.mem_range.mp hk
  match k, hk with
  | 0, _ => exact ly6_0
  | 1, _ => exact ly6_1
  | 2, _ => exact ly6_2
  | 3, _ => exact ly6_3
  | 4, _ => exact ly6_4
  | 5, _ => exact ly6_5
  | 6, _ => exact ly6_6
  | 7, _ => exact ly6_7
  | 8, _ => exact ly6_8
  | 9, _ => exact ly6_9
  | 10, _ => exact ly6_10
  | 11, _ => exact ly6_11
  | 12, _ => exact ly6_12
  | k + 13, h => omega
set_option maxRecDepth 100000 in
theorem okC6 : okC 6 RX6 TX6 13 tyX6 := ⟨rfl, ly6, tyX6_ok, nmX6⟩
set_option maxRecDepth 100000 in
theorem ly7_0 : u_lay RX7 TX7 0 ∈ tbg := in_2 63 (by decide +kernel) rfl
set_option maxRecDepth 100000 in
theorem ly7_1 : u_lay RX7 TX7 1 ∈ tbg := in_2 65 (by decide +kernel) rfl
set_option maxRecDepth 100000 in
theorem ly7_2 : u_lay RX7 TX7 2 ∈ tbg := in_2 67 (by decide +kernel) rfl
set_option maxRecDepth 100000 in
theorem ly7_3 : u_lay RX7 TX7 3 ∈ tbg := in_2 69 (by decide +kernel) rfl
set_option maxRecDepth 100000 in
theorem ly7_4 : u_lay RX7 TX7 4 ∈ tbg := in_2 71 (by decide +kernel) rfl
set_option maxRecDepth 100000 in
theorem ly7_5 : u_lay RX7 TX7 5 ∈ tbg := in_2 73 (by decide +kernel) rfl
set_option maxRecDepth 100000 in
theorem ly7 : ∀ w ∈ u_ws RX7 TX7 6, w ∈ tbg := by
  intro w hw
  obtain ⟨k, hk, rfl⟩ := List.mem_map.mp hw
  have hk := List.mem_range.mp hk
  match k, hk with
  | 0, _ => exact ly7_0
  | 1, _ => exact ly7_1
  | 2, _ => exact ly7_2
  | 3, _ => exact ly7_3
  | 4, _ => exact ly7_4
  | 5, _ => exact ly7_5
  | k + 6, h => omega
set_option maxRecDepth 100000 in
theorem okC7 : okC 7 RX7 TX7 6 tyX7 := ⟨rfl, ly7, tyX7_ok, nmX7⟩
set_option maxRecDepth 100000 in
theorem ly8_0 : u_lay RX8 TX8 0 ∈ tbg := in_1 232 (by decide +kernel) rfl
set_option maxRecDepth 100000 in
theorem ly8_1 : u_lay RX8 TX8 1 ∈ tbg := in_1 234 (by decide +kernel) rfl
set_option maxRecDepth 100000 in
theorem ly8_2 : u_lay RX8 TX8 2 ∈ tbg := in_1 236 (by decide +kernel) rfl
set_option maxRecDepth 100000 in
theorem ly8_3 : u_lay RX8 TX8 3 ∈ tbg := in_1 238 (by decide +kernel) rfl
set_option maxRecDepth 100000 in
theorem ly8_4 : u_lay RX8 TX8 4 ∈ tbg := in_2 0 (by decide +kernel) rfl
set_option maxRecDepth 100000 in
theorem ly8_5 : u_lay RX8 TX8 5 ∈ tbg := in_2 2 (by decide +kernel) rfl
set_option maxRecDepth 100000 in
theorem ly8_6 : u_lay RX8 TX8 6 ∈ tbg := in_2 4 (by decide +kernel) rfl
set_option maxRecDepth 100000 in
theorem ly8_7 : u_lay RX8 TX8 7 ∈ tbg := in_2 6 (by decide +kernel) rfl
set_option maxRecDepth 100000 in
theorem ly8 : ∀ w ∈ u_ws RX8 TX8 8, w ∈ tbg := by
  intro w hw
  obtain ⟨k, hk, rfl⟩ := List.mem_map.mp hw
  have hk := List.mem_range.mp hk
  match k, hk with
  | 0, _ => exact ly8_0
  | 1, _ => exact ly8_1
  | 2, _ => exact ly8_2
  | 3, _ => exact ly8_3
  | 4, _ => exact ly8_4
  | 5, _ => exact ly8_5
  | 6, _ => exact ly8_6
  | 7, _ => exact ly8_7
  | k + 8, h => omega
set_option maxRecDepth 100000 in
theorem okC8 : okC 8 RX8 TX8 8 tyX8 := ⟨rfl, ly8, tyX8_ok, nmX8⟩
set_option maxRecDepth 100000 in
theorem ly9_0 : u_lay RX9 TX9 0 ∈ tbg := in_1 108 (by decide +kernel) rfl
set_option maxRecDepth 100000 in
theorem ly9_1 : u_lay RX9 TX9 1 ∈ tbg := in_1 110 (by decide +kernel) rfl
set_option maxRecDepth 100000 in
theorem ly9_2 : u_lay RX9 TX9 2 ∈ tbg := in_1 112 (by decide +kernel) rfl
set_option maxRecDepth 100000 in
theorem ly9_3 : u_lay RX9 TX9 3 ∈ tbg := in_1 114 (by decide +kernel) rfl
set_option maxRecDepth 100000 in
theorem ly9_4 : u_lay RX9 TX9 4 ∈ tbg := in_1 116 (by decide +kernel) rfl
set_option maxRecDepth 100000 in
theorem ly9_5 : u_lay RX9 TX9 5 ∈ tbg := in_1 118 (by decide +kernel) rfl
set_option maxRecDepth 100000 in
theorem ly9_6 : u_lay RX9 TX9 6 ∈ tbg := in_1 120 (by decide +kernel) rfl
set_option maxRecDepth 100000 in
theorem ly9 : ∀ w ∈ u_ws RX9 TX9 7, w ∈ tbg := by
  intro w hw
  obtain ⟨k, hk, rfl⟩ := List.mem_map.mp hw
  have hk := List.mem_range.mp hk
  match k, hk with
  | 0, _ => exact ly9_0
  | 1, _ => exact ly9_1
  | 2, _ => exact ly9_2
  | 3, _ => exact ly9_3
  | 4, _ => exact ly9_4
  | 5, _ => exact ly9_5
  | 6, _ => exact ly9_6
  | k + 7, h => omega
set_option maxRecDepth 100000 in
theorem okC9 : okC 9 RX9 TX9 7 tyX9 := ⟨rfl, ly9, tyX9_ok, nmX9⟩
set_option maxRecDepth 100000 in
theorem ly10_0 : u_lay RX10 TX10 0 ∈ tbg := in_2 106 (by decide +kernel) rfl
set_option maxRecDepth 100000 in
theorem ly10_1 : u_lay RX10 TX10 1 ∈ tbg := in_2 108 (by decide +kernel) rfl
set_option maxRecDepth 100000 in
theorem ly10_2 : u_lay RX10 TX10 2 ∈ tbg := in_2 110 (by decide +kernel) rfl
set_option maxRecDepth 100000 in
theorem ly10_3 : u_lay RX10 TX10 3 ∈ tbg := in_2 112 (by decide +kernel) rfl
set_option maxRecDepth 100000 in
theorem ly10_4 : u_lay RX10 TX10 4 ∈ tbg := in_2 114 (by decide +kernel) rfl
set_option maxRecDepth 100000 in
theorem ly10_5 : u_lay RX10 TX10 5 ∈ tbg := in_2 116 (by decide +kernel) rfl
set_option maxRecDepth 100000 in
theorem ly10_6 : u_lay RX10 TX10 6 ∈ tbg := in_2 118 (by decide +kernel) rfl
set_option maxRecDepth 100000 in
theorem ly10_7 : u_lay RX10 TX10 7 ∈ tbg := in_2 120 (by decide +kernel) rfl
set_option maxRecDepth 100000 in
theorem ly10_8 : u_lay RX10 TX10 8 ∈ tbg := in_2 122 (by decide +kernel) rfl
set_option maxRecDepth 100000 in
theorem ly10_9 : u_lay RX10 TX10 9 ∈ tbg := in_2 124 (by decide +kernel) rfl
set_option maxRecDepth 100000 in
theorem ly10_10 : u_lay RX10 TX10 10 ∈ tbg := in_2 126 (by decide +kernel) rfl
set_option maxRecDepth 100000 in
theorem ly10 : ∀ w ∈ u_ws RX10 TX10 11, w ∈ tbg := by
  intro w hw
  obtain ⟨k, hk, rfl⟩ := List.mem_map.mp hw
  have hk := List.mem_range.mp hk
  match k, hk with
  | 0, _ => exact ly10_0
  | 1, _ => exact ly10_1
  | 2, _ => exact ly10_2
  | 3, _ => exact ly10_3
  | 4, _ => exact ly10_4
  | 5, _ => exact ly10_5
  | 6, _ => exact ly10_6
  | 7, _ => exact ly10_7
  | 8, _ => exact ly10_8
  | 9, _ => exact ly10_9
  | 10, _ => exact ly10_10
  | k + 11, h => omega
set_option maxRecDepth 100000 in
theorem okC10 : okC 10 RX10 TX10 11 tyX10 := ⟨rfl, ly10, tyX10_ok, nmX10⟩
set_option maxRecDepth 100000 in
theorem ly11_0 : u_lay RX11 TX11 0 ∈ tbg := in_5 37 (by decide +kernel) rfl
set_option maxRecDepth 100000 in
theorem ly11_1 : u_lay RX11 TX11 1 ∈ tbg := in_5 39 (by decide +kernel) rfl
set_option maxRecDepth 100000 in
theorem ly11_2 : u_lay RX11 TX11 2 ∈ tbg := in_5 41 (by decide +kernel) rfl
set_option maxRecDepth 100000 in
theorem ly11_3 : u_lay RX11 TX11 3 ∈ tbg := in_5 43 (by decide +kernel) rfl
set_option maxRecDepth 100000 in
theorem ly11_4 : u_lay RX11 TX11 4 ∈ tbg := in_5 45 (by decide +kernel) rfl
set_option maxRecDepth 100000 in
theorem ly11_5 : u_lay RX11 TX11 5 ∈ tbg := in_5 47 (by decide +kernel) rfl
set_option maxRecDepth 100000 in
theorem ly11_6 : u_lay RX11 TX11 6 ∈ tbg := in_5 49 (by decide +kernel) rfl
set_option maxRecDepth 100000 in
theorem ly11_7 : u_lay RX11 TX11 7 ∈ tbg := in_5 51 (by decide +kernel) rfl
set_option maxRecDepth 100000 in
theorem ly11_8 : u_lay RX11 TX11 8 ∈ tbg := in_5 53 (by decide +kernel) rfl
set_option maxRecDepth 100000 in
theorem ly11_9 : u_lay RX11 TX11 9 ∈ tbg := in_5 55 (by decide +kernel) rfl
set_option maxRecDepth 100000 in
theorem ly11_10 : u_lay RX11 TX11 10 ∈ tbg := in_5 57 (by decide +kernel) rfl
set_option maxRecDepth 100000 in
theorem ly11_11 : u_lay RX11 TX11 11 ∈ tbg := in_5 59 (by decide +kernel) rfl
set_option maxRecDepth 100000 in
theorem ly11_12 : u_lay RX11 TX11 12 ∈ tbg := in_5 61 (by decide +kernel) rfl
set_option maxRecDepth 100000 in
theorem ly11_13 : u_lay RX11 TX11 13 ∈ tbg := in_5 63 (by decide +kernel) rfl
set_option maxRecDepth 100000 in
theorem ly11_14 : u_lay RX11 TX11 14 ∈ tbg := in_5 65 (by decide +kernel) rfl
set_option maxRecDepth 100000 in
theorem ly11_15 : u_lay RX11 TX11 15 ∈ tbg := in_5 67 (by decide +kernel) rfl
set_option maxRecDepth 100000 in
theorem ly11_16 : u_lay RX11 TX11 16 ∈ tbg := in_5 69 (by decide +kernel) rfl
set_option maxRecDepth 100000 in
theorem ly11_17 : u_lay RX11 TX11 17 ∈ tbg := in_5 71 (by decide +kernel) rfl
set_option maxRecDepth 100000 in
theorem ly11_18 : u_lay RX11 TX11 18 ∈ tbg := in_5 73 (by decide +kernel) rfl
set_option maxRecDepth 100000 in
theorem ly11_19 : u_lay RX11 TX11 19 ∈ tbg := in_5 75 (by decide +kernel) rfl
set_option maxRecDepth 100000 in
theorem ly11_20 : u_lay RX11 TX11 20 ∈ tbg := in_5 77 (by decide +kernel) rfl
set_option maxRecDepth 100000 in
theorem ly11_21 : u_lay RX11 TX11 21 ∈ tbg := in_5 79 (by decide +kernel) rfl
set_option maxRecDepth 100000 in
theorem ly11_22 : u_lay RX11 TX11 22 ∈ tbg := in_5 81 (by decide +kernel) rfl
set_option maxRecDepth 100000 in
theorem ly11_23 : u_lay RX11 TX11 23 ∈ tbg := in_5 83 (by decide +kernel) rfl
set_option maxRecDepth 100000 in
theorem ly11_24 : u_lay RX11 TX11 24 ∈ tbg := in_5 85 (by decide +kernel) rfl
set_option maxRecDepth 100000 in
theorem ly11_25 : u_lay RX11 TX11 25 ∈ tbg := in_5 87 (by decide +kernel) rfl
set_option maxRecDepth 100000 in
theorem ly11_26 : u_lay RX11 TX11 26 ∈ tbg := in_5 89 (by decide +kernel) rfl
set_option maxRecDepth 100000 in
theorem ly11_27 : u_lay RX11 TX11 27 ∈ tbg := in_5 91 (by decide +kernel) rfl
set_option maxRecDepth 100000 in
theorem ly11_28 : u_lay RX11 TX11 28 ∈ tbg := in_5 93 (by decide +kernel) rfl
set_option maxRecDepth 100000 in
theorem ly11_29 : u_lay RX11 TX11 29 ∈ tbg := in_5 95 (by decide +kernel) rfl
set_option maxRecDepth 100000 in
theorem ly11_30 : u_lay RX11 TX11 30 ∈ tbg := in_5 97 (by decide +kernel) rfl
set_option maxRecDepth 100000 in
theorem ly11_31 : u_lay RX11 TX11 31 ∈ tbg := in_5 99 (by decide +kernel) rfl
set_option maxRecDepth 100000 in
theorem ly11_32 : u_lay RX11 TX11 32 ∈ tbg := in_5 101 (by decide +kernel) rfl
set_option maxRecDepth 100000 in
theorem ly11_33 : u_lay RX11 TX11 33 ∈ tbg := in_5 103 (by decide +kernel) rfl
set_option maxRecDepth 100000 in
theorem ly11_34 : u_lay RX11 TX11 34 ∈ tbg := in_5 105 (by decide +kernel) rfl
set_option maxRecDepth 100000 in
theorem ly11_35 : u_lay RX11 TX11 35 ∈ tbg := in_5 107 (by decide +kernel) rfl
set_option maxRecDepth 100000 in
theorem ly11_36 : u_lay RX11 TX11 36 ∈ tbg := in_5 109 (by decide +kernel) rfl
set_option maxRecDepth 100000 in
theorem ly11_37 : u_lay RX11 TX11 37 ∈ tbg := in_5 111 (by decide +kernel) rfl
set_option maxRecDepth 100000 in
theorem ly11_38 : u_lay RX11 TX11 38 ∈ tbg := in_5 113 (by decide +kernel) rfl
set_option maxRecDepth 100000 in
theorem ly11_39 : u_lay RX11 TX11 39 ∈ tbg := in_5 115 (by decide +kernel) rfl
set_option maxRecDepth 100000 in
theorem ly11_40 : u_lay RX11 TX11 40 ∈ tbg := in_5 117 (by decide +kernel) rfl
set_option maxRecDepth 100000 in
theorem ly11_41 : u_lay RX11 TX11 41 ∈ tbg := in_5 119 (by decide +kernel) rfl
set_option maxRecDepth 100000 in
theorem ly11_42 : u_lay RX11 TX11 42 ∈ tbg := in_5 121 (by decide +kernel) rfl
set_option maxRecDepth 100000 in
theorem ly11_43 : u_lay RX11 TX11 43 ∈ tbg := in_5 123 (by decide +kernel) rfl
set_option maxRecDepth 100000 in
theorem ly11_44 : u_lay RX11 TX11 44 ∈ tbg := in_5 125 (by decide +kernel) rfl
set_option maxRecDepth 100000 in
theorem ly11_45 : u_lay RX11 TX11 45 ∈ tbg := in_5 127 (by decide +kernel) rfl
set_option maxRecDepth 100000 in
theorem ly11_46 : u_lay RX11 TX11 46 ∈ tbg := in_5 129 (by decide +kernel) rfl
set_option maxRecDepth 100000 in
theorem ly11_47 : u_lay RX11 TX11 47 ∈ tbg := in_5 131 (by decide +kernel) rfl
set_option maxRecDepth 100000 in
theorem ly11_48 : u_lay RX11 TX11 48 ∈ tbg := in_5 133 (by decide +kernel) rfl
set_option maxRecDepth 100000 in
theorem ly11_49 : u_lay RX11 TX11 49 ∈ tbg := in_5 135 (by decide +kernel) rfl
set_option maxRecDepth 100000 in
theorem ly11_50 : u_lay RX11 TX11 50 ∈ tbg := in_5 137 (by decide +kernel) rfl
set_option maxRecDepth 100000 in
theorem ly11_51 : u_lay RX11 TX11 51 ∈ tbg := in_5 139 (by decide +kernel) rfl
set_option maxRecDepth 100000 in
theorem ly11_52 : u_lay RX11 TX11 52 ∈ tbg := in_5 141 (by decide +kernel) rfl
set_option maxRecDepth 100000 in
theorem ly11_53 : u_lay RX11 TX11 53 ∈ tbg := in_5 143 (by decide +kernel) rfl
set_option maxRecDepth 100000 in
theorem ly11_54 : u_lay RX11 TX11 54 ∈ tbg := in_5 145 (by decide +kernel) rfl
set_option maxRecDepth 100000 in
theorem ly11 : ∀ w ∈ u_ws RX11 TX11 55, w ∈ tbg := by
  intro w hw
  obtain ⟨k, hk, rfl⟩ := List.mem_map.mp hw
  have hk := List.mem_range.mp hk
  match k, hk with
  | 0, _ => exact ly11_0
  | 1, _ => exact ly11_1
  | 2, _ => exact ly11_2
  | 3, _ => exact ly11_3
  | 4, _ => exact ly11_4
  | 5, _ => exact ly11_5
  | 6, _ => exact ly11_6
  | 7, _ => exact ly11_7
  | 8, _ => exact ly11_8
  | 9, _ => exact ly11_9
  | 10, _ => exact ly11_10
  | 11, _ => exact ly11_11
  | 12, _ => exact ly11_12
  | 13, _ => exact ly11_13
  | 14, _ => exact ly11_14
  | 15, _ => exact ly11_15
  | 16, _ => exact ly11_16
  | 17, _ => exact ly11_17
  | 18, _ => exact ly11_18
  | 19, _ => exact ly11_19
  | 20, _ => exact ly11_20
  | 21, _ => exact ly11_21
  | 22, _ => exact ly11_22
  | 23, _ => exact ly11_23
  | 24, _ => exact ly11_24
  | 25, _ => exact ly11_25
  | 26, _ => exact ly11_26
  | 27, _ => exact ly11_27
  | 28, _ => exact ly11_28
  | 29, _ => exact ly11_29
  | 30, _ => exact ly11_30
  | 31, _ => exact ly11_31
  | 32, _ => exact ly11_32
  | 33, _ => exact ly11_33
  | 34, _ => exact ly11_34
  | 35, _ => exact ly11_35
  | 36, _ => exact ly11_36
  | 37, _ => exact ly11_37
  | 38, _ => exact ly11_38
  | 39, _ => exact ly11_39
  | 40, _ => exact ly11_40
  | 41, _ => exact ly11_41
  | 42, _ => exact ly11_42
  | 43, _ => exact ly11_43
  | 44, _ => exact ly11_44
  | 45, _ => exact ly11_45
  | 46, _ => exact ly11_46
  | 47, _ => exact ly11_47
  | 48, _ => exact ly11_48
  | 49, _ => exact ly11_49
  | 50, _ => exact ly11_50
  | 51, _ => exact ly11_51
  | 52, _ => exact ly11_52
  | 53, _ => exact ly11_53
  | 54, _ => exact ly11_54
  | k + 55, h => omega
set_option maxRecDepth 100000 in
theorem okC11 : okC 11 RX11 TX11 55 tyX11 := ⟨rfl, ly11, tyX11_ok, nmX11⟩
set_option maxRecDepth 100000 in
theorem okX0_57 : okV RX0 57 yX0_sizeOf cX0_sizeOf 2 (some .int) 1 := ⟨good_l (List.forall_mem_cons.mpr ⟨in_2 174 (by decide +kernel) rfl, List.forall_mem_cons.mpr ⟨in_2 175 (by decide +kernel) rfl, List.forall_mem_cons.mpr ⟨in_2 176 (by decide +kernel) rfl, List.forall_mem_cons.mpr ⟨in_1 4 (by decide +kernel) rfl, List.forall_mem_cons.mpr ⟨in_2 177 (by decide +kernel) rfl, List.forall_mem_nil _⟩⟩⟩⟩⟩), by decide +kernel⟩
set_option maxRecDepth 100000 in
theorem okX0_67 : okV RX0 67 yX0_callAt cX0_callAt 3 (some .int) 2 := ⟨good_l (List.forall_mem_cons.mpr ⟨in_2 186 (by decide +kernel) rfl, List.forall_mem_cons.mpr ⟨in_2 187 (by decide +kernel) rfl, List.forall_mem_cons.mpr ⟨in_2 188 (by decide +kernel) rfl, List.forall_mem_cons.mpr ⟨in_1 4 (by decide +kernel) rfl, List.forall_mem_cons.mpr ⟨in_2 189 (by decide +kernel) rfl, List.forall_mem_nil _⟩⟩⟩⟩⟩), by decide +kernel⟩
set_option maxRecDepth 100000 in
theorem flX0_9 : Cond.fieldLink RX0 9 (TX0 0).1 (TX0 0).2.1 (TX0 0).2.2.1 ∈ tbg := in_1 56 (by decide +kernel) rfl
set_option maxRecDepth 100000 in
theorem flX0_28 : Cond.fieldLink RX0 28 (TX0 6).1 (TX0 6).2.1 (TX0 6).2.2.1 ∈ tbg := in_1 68 (by decide +kernel) rfl
set_option maxRecDepth 100000 in
theorem flX0_22 : Cond.fieldLink RX0 22 (TX0 3).1 (TX0 3).2.1 (TX0 3).2.2.1 ∈ tbg := in_1 60 (by decide +kernel) rfl
set_option maxRecDepth 100000 in
theorem okX0_51 : okV RX0 51 yX0_isWrongThere cX0_isWrongThere 2 (some .boolean) 1 := ⟨good_l (List.forall_mem_cons.mpr ⟨in_2 178 (by decide +kernel) rfl, List.forall_mem_cons.mpr ⟨in_2 179 (by decide +kernel) rfl, List.forall_mem_cons.mpr ⟨in_2 180 (by decide +kernel) rfl, List.forall_mem_cons.mpr ⟨in_1 4 (by decide +kernel) rfl, List.forall_mem_cons.mpr ⟨in_2 181 (by decide +kernel) rfl, List.forall_mem_nil _⟩⟩⟩⟩⟩), by decide +kernel⟩
set_option maxRecDepth 100000 in
theorem okX0_60 : okV RX0 60 yX0_beginsWith cX0_beginsWith 5 (some .boolean) 2 := ⟨good_l (List.forall_mem_cons.mpr ⟨in_2 182 (by decide +kernel) rfl, List.forall_mem_cons.mpr ⟨in_2 184 (by decide +kernel) rfl, List.forall_mem_cons.mpr ⟨in_s 1 (by decide +kernel) rfl, List.forall_mem_cons.mpr ⟨in_1 4 (by decide +kernel) rfl, List.forall_mem_cons.mpr ⟨in_2 185 (by decide +kernel) rfl, List.forall_mem_nil _⟩⟩⟩⟩⟩), by decide +kernel⟩
set_option maxRecDepth 100000 in
theorem flX0_32 : Cond.fieldLink RX0 32 (TX5 1).1 (TX5 1).2.1 (TX5 1).2.2.1 ∈ tbg := in_1 43 (by decide +kernel) rfl
set_option maxRecDepth 100000 in
theorem okX0_37 : okV RX0 37 yX5_at cX5_at 2 (some .int) 1 := ⟨good_l (List.forall_mem_cons.mpr ⟨in_2 149 (by decide +kernel) rfl, List.forall_mem_cons.mpr ⟨in_2 138 (by decide +kernel) rfl, List.forall_mem_cons.mpr ⟨in_2 139 (by decide +kernel) rfl, List.forall_mem_cons.mpr ⟨in_1 2 (by decide +kernel) rfl, List.forall_mem_cons.mpr ⟨in_2 140 (by decide +kernel) rfl, List.forall_mem_nil _⟩⟩⟩⟩⟩), by decide +kernel⟩
set_option maxRecDepth 100000 in
theorem flX0_15 : Cond.fieldLink RX0 15 (TX0 1).1 (TX0 1).2.1 (TX0 1).2.2.1 ∈ tbg := in_1 57 (by decide +kernel) rfl
set_option maxRecDepth 100000 in
theorem flX0_18 : Cond.fieldLink RX0 18 (TX0 2).1 (TX0 2).2.1 (TX0 2).2.2.1 ∈ tbg := in_1 58 (by decide +kernel) rfl
set_option maxRecDepth 100000 in
theorem flX0_64 : Cond.fieldLink RX0 64 (TX0 5).1 (TX0 5).2.1 (TX0 5).2.2.1 ∈ tbg := in_1 67 (by decide +kernel) rfl
set_option maxRecDepth 100000 in
theorem okX0_54 : okV RX0 54 yX0_isLeftOut cX0_isLeftOut 3 (some .boolean) 1 := ⟨good_l (List.forall_mem_cons.mpr ⟨in_2 218 (by decide +kernel) rfl, List.forall_mem_cons.mpr ⟨in_2 219 (by decide +kernel) rfl, List.forall_mem_cons.mpr ⟨in_2 220 (by decide +kernel) rfl, List.forall_mem_cons.mpr ⟨in_1 4 (by decide +kernel) rfl, List.forall_mem_cons.mpr ⟨in_2 221 (by decide +kernel) rfl, List.forall_mem_nil _⟩⟩⟩⟩⟩), by decide +kernel⟩
set_option maxRecDepth 100000 in
theorem flX0_25 : Cond.fieldLink RX0 25 (TX0 4).1 (TX0 4).2.1 (TX0 4).2.2.1 ∈ tbg := in_1 62 (by decide +kernel) rfl
set_option maxRecDepth 100000 in
theorem okX0_45 : okV RX0 45 yX0_isRightThere cX0_isRightThere 2 (some .boolean) 1 := ⟨good_l (List.forall_mem_cons.mpr ⟨in_2 222 (by decide +kernel) rfl, List.forall_mem_cons.mpr ⟨in_2 163 (by decide +kernel) rfl, List.forall_mem_cons.mpr ⟨in_2 164 (by decide +kernel) rfl, List.forall_mem_cons.mpr ⟨in_1 4 (by decide +kernel) rfl, List.forall_mem_cons.mpr ⟨in_2 165 (by decide +kernel) rfl, List.forall_mem_nil _⟩⟩⟩⟩⟩), by decide +kernel⟩
set_option maxRecDepth 100000 in
theorem okX0_41 : okV RX0 41 yX0_knows cX0_knows 2 (some .boolean) 1 := ⟨good_l (List.forall_mem_cons.mpr ⟨in_2 166 (by decide +kernel) rfl, List.forall_mem_cons.mpr ⟨in_2 167 (by decide +kernel) rfl, List.forall_mem_cons.mpr ⟨in_2 168 (by decide +kernel) rfl, List.forall_mem_cons.mpr ⟨in_1 4 (by decide +kernel) rfl, List.forall_mem_cons.mpr ⟨in_2 169 (by decide +kernel) rfl, List.forall_mem_nil _⟩⟩⟩⟩⟩), by decide +kernel⟩
set_option maxRecDepth 100000 in
theorem okX0_48 : okV RX0 48 yX0_cutSize cX0_cutSize 4 (some .int) 1 := ⟨good_l (List.forall_mem_cons.mpr ⟨in_4 103 (by decide +kernel) rfl, List.forall_mem_cons.mpr ⟨in_2 171 (by decide +kernel) rfl, List.forall_mem_cons.mpr ⟨in_2 172 (by decide +kernel) rfl, List.forall_mem_cons.mpr ⟨in_1 4 (by decide +kernel) rfl, List.forall_mem_cons.mpr ⟨in_2 173 (by decide +kernel) rfl, List.forall_mem_nil _⟩⟩⟩⟩⟩), by decide +kernel⟩
set_option maxRecDepth 100000 in
theorem flX10_57 : Cond.fieldLink RX10 57 (TX10 6).1 (TX10 6).2.1 (TX10 6).2.2.1 ∈ tbg := in_2 101 (by decide +kernel) rfl
set_option maxRecDepth 100000 in
theorem okX10_103 : okV RX10 103 yX5_append cX5_append 2 (some .boolean) 1 := ⟨good_l (List.forall_mem_cons.mpr ⟨in_3 122 (by decide +kernel) rfl, List.forall_mem_cons.mpr ⟨in_3 123 (by decide +kernel) rfl, List.forall_mem_cons.mpr ⟨in_3 124 (by decide +kernel) rfl, List.forall_mem_cons.mpr ⟨in_1 2 (by decide +kernel) rfl, List.forall_mem_cons.mpr ⟨in_3 125 (by decide +kernel) rfl, List.forall_mem_nil _⟩⟩⟩⟩⟩), by decide +kernel⟩
set_option maxRecDepth 100000 in
theorem flX10_72 : Cond.fieldLink RX10 72 (TX10 8).1 (TX10 8).2.1 (TX10 8).2.2.1 ∈ tbg := in_2 103 (by decide +kernel) rfl
set_option maxRecDepth 100000 in
theorem flX10_199 : Cond.fieldLink RX10 199 (TX3 7).1 (TX3 7).2.1 (TX3 7).2.2.1 ∈ tbg := in_2 25 (by decide +kernel) rfl
set_option maxRecDepth 100000 in
theorem okX10_110 : okV RX10 110 yX5_at cX5_at 2 (some .int) 1 := ⟨good_l (List.forall_mem_cons.mpr ⟨in_2 137 (by decide +kernel) rfl, List.forall_mem_cons.mpr ⟨in_2 138 (by decide +kernel) rfl, List.forall_mem_cons.mpr ⟨in_2 139 (by decide +kernel) rfl, List.forall_mem_cons.mpr ⟨in_1 2 (by decide +kernel) rfl, List.forall_mem_cons.mpr ⟨in_2 140 (by decide +kernel) rfl, List.forall_mem_nil _⟩⟩⟩⟩⟩), by decide +kernel⟩
set_option maxRecDepth 100000 in
theorem flX10_46 : Cond.fieldLink RX10 46 (TX10 4).1 (TX10 4).2.1 (TX10 4).2.2.1 ∈ tbg := in_2 99 (by decide +kernel) rfl
set_option maxRecDepth 100000 in
theorem okX10_223 : okV RX10 223 yX4_hasState cX4_hasState 2 (some .boolean) 1 := ⟨good_l (List.forall_mem_cons.mpr ⟨in_4 116 (by decide +kernel) rfl, List.forall_mem_cons.mpr ⟨in_3 39 (by decide +kernel) rfl, List.forall_mem_cons.mpr ⟨in_3 40 (by decide +kernel) rfl, List.forall_mem_cons.mpr ⟨in_1 7 (by decide +kernel) rfl, List.forall_mem_cons.mpr ⟨in_3 41 (by decide +kernel) rfl, List.forall_mem_nil _⟩⟩⟩⟩⟩), by decide +kernel⟩
set_option maxRecDepth 100000 in
theorem okX10_92 : okS RX10 92 yX10_isCall cX10_isCall 1 (some .boolean) 1 := ⟨good_l (List.forall_mem_cons.mpr ⟨in_3 238 (by decide +kernel) rfl, List.forall_mem_cons.mpr ⟨in_2 196 (by decide +kernel) rfl, List.forall_mem_cons.mpr ⟨in_1 1 (by decide +kernel) rfl, List.forall_mem_cons.mpr ⟨in_2 197 (by decide +kernel) rfl, List.forall_mem_nil _⟩⟩⟩⟩), by decide +kernel⟩
set_option maxRecDepth 100000 in
theorem flX10_21 : Cond.fieldLink RX10 21 (TX10 1).1 (TX10 1).2.1 (TX10 1).2.2.1 ∈ tbg := in_2 96 (by decide +kernel) rfl
set_option maxRecDepth 100000 in
theorem okX10_217 : okV RX10 217 yX0_countThere cX0_countThere 3 (some .int) 0 := ⟨good_l (List.forall_mem_cons.mpr ⟨in_3 222 (by decide +kernel) rfl, List.forall_mem_cons.mpr ⟨in_3 223 (by decide +kernel) rfl, List.forall_mem_cons.mpr ⟨in_3 224 (by decide +kernel) rfl, List.forall_mem_cons.mpr ⟨in_1 4 (by decide +kernel) rfl, List.forall_mem_cons.mpr ⟨in_3 225 (by decide +kernel) rfl, List.forall_mem_nil _⟩⟩⟩⟩⟩), by decide +kernel⟩
set_option maxRecDepth 100000 in
theorem flX10_114 : Cond.fieldLink RX10 114 (TX0 6).1 (TX0 6).2.1 (TX0 6).2.2.1 ∈ tbg := in_1 70 (by decide +kernel) rfl
set_option maxRecDepth 100000 in
theorem flX10_158 : Cond.fieldLink RX10 158 (TX4 2).1 (TX4 2).2.1 (TX4 2).2.2.1 ∈ tbg := in_1 182 (by decide +kernel) rfl
set_option maxRecDepth 100000 in
theorem okX10_220 : okV RX10 220 yX4_countSteps cX4_countSteps 3 (some .int) 0 := ⟨good_l (List.forall_mem_cons.mpr ⟨in_3 226 (by decide +kernel) rfl, List.forall_mem_cons.mpr ⟨in_3 227 (by decide +kernel) rfl, List.forall_mem_cons.mpr ⟨in_3 228 (by decide +kernel) rfl, List.forall_mem_cons.mpr ⟨in_1 7 (by decide +kernel) rfl, List.forall_mem_cons.mpr ⟨in_3 229 (by decide +kernel) rfl, List.forall_mem_nil _⟩⟩⟩⟩⟩), by decide +kernel⟩
set_option maxRecDepth 100000 in
theorem flX10_14 : Cond.fieldLink RX10 14 (TX10 0).1 (TX10 0).2.1 (TX10 0).2.2.1 ∈ tbg := in_2 95 (by decide +kernel) rfl
set_option maxRecDepth 100000 in
theorem flX10_106 : Cond.fieldLink RX10 106 (TX5 1).1 (TX5 1).2.1 (TX5 1).2.2.1 ∈ tbg := in_1 41 (by decide +kernel) rfl
set_option maxRecDepth 100000 in
theorem flX10_30 : Cond.fieldLink RX10 30 (TX10 2).1 (TX10 2).2.1 (TX10 2).2.2.1 ∈ tbg := in_2 97 (by decide +kernel) rfl
set_option maxRecDepth 100000 in
theorem okX10_144 : okV RX10 144 yX9_grow cX9_grow 4 none 0 := ⟨good_l (List.forall_mem_cons.mpr ⟨in_2 154 (by decide +kernel) rfl, List.forall_mem_cons.mpr ⟨in_2 155 (by decide +kernel) rfl, List.forall_mem_cons.mpr ⟨in_2 156 (by decide +kernel) rfl, List.forall_mem_cons.mpr ⟨in_1 5 (by decide +kernel) rfl, List.forall_mem_cons.mpr ⟨in_2 157 (by decide +kernel) rfl, List.forall_mem_nil _⟩⟩⟩⟩⟩), by decide +kernel⟩
set_option maxRecDepth 100000 in
theorem flX10_175 : Cond.fieldLink RX10 175 (TX9 6).1 (TX9 6).2.1 (TX9 6).2.2.1 ∈ tbg := in_1 107 (by decide +kernel) rfl
set_option maxRecDepth 100000 in
theorem okX10_172 : okV RX10 172 yX4_stepsBelow cX4_stepsBelow 4 (some .int) 1 := ⟨good_l (List.forall_mem_cons.mpr ⟨in_3 60 (by decide +kernel) rfl, List.forall_mem_cons.mpr ⟨in_3 61 (by decide +kernel) rfl, List.forall_mem_cons.mpr ⟨in_3 62 (by decide +kernel) rfl, List.forall_mem_cons.mpr ⟨in_1 7 (by decide +kernel) rfl, List.forall_mem_cons.mpr ⟨in_3 63 (by decide +kernel) rfl, List.forall_mem_nil _⟩⟩⟩⟩⟩), by decide +kernel⟩
set_option maxRecDepth 100000 in
theorem okX10_121 : okV RX10 121 yX0_knows cX0_knows 2 (some .boolean) 1 := ⟨good_l (List.forall_mem_cons.mpr ⟨in_4 74 (by decide +kernel) rfl, List.forall_mem_cons.mpr ⟨in_2 167 (by decide +kernel) rfl, List.forall_mem_cons.mpr ⟨in_2 168 (by decide +kernel) rfl, List.forall_mem_cons.mpr ⟨in_1 4 (by decide +kernel) rfl, List.forall_mem_cons.mpr ⟨in_2 169 (by decide +kernel) rfl, List.forall_mem_nil _⟩⟩⟩⟩⟩), by decide +kernel⟩
set_option maxRecDepth 100000 in
theorem flX10_129 : Cond.fieldLink RX10 129 (TX0 3).1 (TX0 3).2.1 (TX0 3).2.2.1 ∈ tbg := in_1 61 (by decide +kernel) rfl
set_option maxRecDepth 100000 in
theorem okX10_179 : okV RX10 179 yX10_addBytes cX10_addBytes 3 none 1 := ⟨good_l (List.forall_mem_cons.mpr ⟨in_3 118 (by decide +kernel) rfl, List.forall_mem_cons.mpr ⟨in_3 120 (by decide +kernel) rfl, List.forall_mem_cons.mpr ⟨in_s 22 (by decide +kernel) rfl, List.forall_mem_cons.mpr ⟨in_1 1 (by decide +kernel) rfl, List.forall_mem_cons.mpr ⟨in_3 121 (by decide +kernel) rfl, List.forall_mem_nil _⟩⟩⟩⟩⟩), by decide +kernel⟩
set_option maxRecDepth 100000 in
theorem flX10_88 : Cond.fieldLink RX10 88 (TX10 10).1 (TX10 10).2.1 (TX10 10).2.2.1 ∈ tbg := in_2 105 (by decide +kernel) rfl
set_option maxRecDepth 100000 in
theorem okX10_205 : okV RX10 205 yX2_survey cX2_survey 2 none 0 := ⟨good_l (List.forall_mem_cons.mpr ⟨in_4 162 (by decide +kernel) rfl, List.forall_mem_cons.mpr ⟨in_4 163 (by decide +kernel) rfl, List.forall_mem_cons.mpr ⟨in_4 164 (by decide +kernel) rfl, List.forall_mem_cons.mpr ⟨in_1 13 (by decide +kernel) rfl, List.forall_mem_cons.mpr ⟨in_4 165 (by decide +kernel) rfl, List.forall_mem_nil _⟩⟩⟩⟩⟩), by decide +kernel⟩
set_option maxRecDepth 100000 in
theorem okX10_208 : okV RX10 208 yX2_having cX2_having 2 (some .int) 1 := ⟨good_l (List.forall_mem_cons.mpr ⟨in_4 179 (by decide +kernel) rfl, List.forall_mem_cons.mpr ⟨in_4 180 (by decide +kernel) rfl, List.forall_mem_cons.mpr ⟨in_4 181 (by decide +kernel) rfl, List.forall_mem_cons.mpr ⟨in_1 13 (by decide +kernel) rfl, List.forall_mem_cons.mpr ⟨in_4 182 (by decide +kernel) rfl, List.forall_mem_nil _⟩⟩⟩⟩⟩), by decide +kernel⟩
set_option maxRecDepth 100000 in
theorem okX10_211 : okV RX10 211 yX2_holding cX2_holding 3 (some .int) 2 := ⟨good_l (List.forall_mem_cons.mpr ⟨in_4 183 (by decide +kernel) rfl, List.forall_mem_cons.mpr ⟨in_4 184 (by decide +kernel) rfl, List.forall_mem_cons.mpr ⟨in_4 185 (by decide +kernel) rfl, List.forall_mem_cons.mpr ⟨in_1 13 (by decide +kernel) rfl, List.forall_mem_cons.mpr ⟨in_4 186 (by decide +kernel) rfl, List.forall_mem_nil _⟩⟩⟩⟩⟩), by decide +kernel⟩
set_option maxRecDepth 100000 in
theorem okX10_196 : okV RX10 196 yX3_findBreak cX3_findBreak 3 none 0 := ⟨good_l (List.forall_mem_cons.mpr ⟨in_3 130 (by decide +kernel) rfl, List.forall_mem_cons.mpr ⟨in_3 131 (by decide +kernel) rfl, List.forall_mem_cons.mpr ⟨in_3 132 (by decide +kernel) rfl, List.forall_mem_cons.mpr ⟨in_1 11 (by decide +kernel) rfl, List.forall_mem_cons.mpr ⟨in_3 133 (by decide +kernel) rfl, List.forall_mem_nil _⟩⟩⟩⟩⟩), by decide +kernel⟩
set_option maxRecDepth 100000 in
theorem flX10_39 : Cond.fieldLink RX10 39 (TX10 3).1 (TX10 3).2.1 (TX10 3).2.2.1 ∈ tbg := in_2 98 (by decide +kernel) rfl
set_option maxRecDepth 100000 in
theorem flX10_53 : Cond.fieldLink RX10 53 (TX10 5).1 (TX10 5).2.1 (TX10 5).2.2.1 ∈ tbg := in_2 100 (by decide +kernel) rfl
set_option maxRecDepth 100000 in
theorem flX10_63 : Cond.fieldLink RX10 63 (TX10 7).1 (TX10 7).2.1 (TX10 7).2.2.1 ∈ tbg := in_2 102 (by decide +kernel) rfl
set_option maxRecDepth 100000 in
theorem flX10_81 : Cond.fieldLink RX10 81 (TX10 9).1 (TX10 9).2.1 (TX10 9).2.2.1 ∈ tbg := in_2 104 (by decide +kernel) rfl
set_option maxRecDepth 100000 in
theorem okX10_147 : okV RX10 147 yX6_meltAll cX6_meltAll 2 (some .boolean) 0 := ⟨good_l (List.forall_mem_cons.mpr ⟨in_2 210 (by decide +kernel) rfl, List.forall_mem_cons.mpr ⟨in_2 211 (by decide +kernel) rfl, List.forall_mem_cons.mpr ⟨in_2 212 (by decide +kernel) rfl, List.forall_mem_cons.mpr ⟨in_1 6 (by decide +kernel) rfl, List.forall_mem_cons.mpr ⟨in_2 213 (by decide +kernel) rfl, List.forall_mem_nil _⟩⟩⟩⟩⟩), by decide +kernel⟩
set_option maxRecDepth 100000 in
theorem okX10_151 : okV RX10 151 yX6_writeInto cX6_writeInto 5 none 1 := ⟨good_l (List.forall_mem_cons.mpr ⟨in_3 26 (by decide +kernel) rfl, List.forall_mem_cons.mpr ⟨in_3 27 (by decide +kernel) rfl, List.forall_mem_cons.mpr ⟨in_3 28 (by decide +kernel) rfl, List.forall_mem_cons.mpr ⟨in_1 6 (by decide +kernel) rfl, List.forall_mem_cons.mpr ⟨in_3 29 (by decide +kernel) rfl, List.forall_mem_nil _⟩⟩⟩⟩⟩), by decide +kernel⟩
set_option maxRecDepth 100000 in
theorem okX10_155 : okV RX10 155 yX4_countOver cX4_countOver 4 none 2 := ⟨good_l (List.forall_mem_cons.mpr ⟨in_3 43 (by decide +kernel) rfl, List.forall_mem_cons.mpr ⟨in_3 44 (by decide +kernel) rfl, List.forall_mem_cons.mpr ⟨in_3 45 (by decide +kernel) rfl, List.forall_mem_cons.mpr ⟨in_1 7 (by decide +kernel) rfl, List.forall_mem_cons.mpr ⟨in_3 46 (by decide +kernel) rfl, List.forall_mem_nil _⟩⟩⟩⟩⟩), by decide +kernel⟩
set_option maxRecDepth 100000 in
theorem okX10_176 : okV RX10 176 yX1_states cX1_states 2 (some .int) 0 := ⟨good_l (List.forall_mem_cons.mpr ⟨in_3 73 (by decide +kernel) rfl, List.forall_mem_cons.mpr ⟨in_3 74 (by decide +kernel) rfl, List.forall_mem_cons.mpr ⟨in_3 75 (by decide +kernel) rfl, List.forall_mem_cons.mpr ⟨in_1 9 (by decide +kernel) rfl, List.forall_mem_cons.mpr ⟨in_3 76 (by decide +kernel) rfl, List.forall_mem_nil _⟩⟩⟩⟩⟩), by decide +kernel⟩
set_option maxRecDepth 100000 in
theorem okX10_202 : okV RX10 202 yX7_mendHand cX7_mendHand 3 (some .int) 0 := ⟨good_l (List.forall_mem_cons.mpr ⟨in_3 177 (by decide +kernel) rfl, List.forall_mem_cons.mpr ⟨in_3 178 (by decide +kernel) rfl, List.forall_mem_cons.mpr ⟨in_3 179 (by decide +kernel) rfl, List.forall_mem_cons.mpr ⟨in_1 12 (by decide +kernel) rfl, List.forall_mem_cons.mpr ⟨in_3 180 (by decide +kernel) rfl, List.forall_mem_nil _⟩⟩⟩⟩⟩), by decide +kernel⟩
set_option maxRecDepth 100000 in
theorem okX10_214 : okV RX10 214 yX2_atRank cX2_atRank 3 (some .int) 1 := ⟨good_l (List.forall_mem_cons.mpr ⟨in_4 194 (by decide +kernel) rfl, List.forall_mem_cons.mpr ⟨in_4 195 (by decide +kernel) rfl, List.forall_mem_cons.mpr ⟨in_4 196 (by decide +kernel) rfl, List.forall_mem_cons.mpr ⟨in_1 13 (by decide +kernel) rfl, List.forall_mem_cons.mpr ⟨in_4 197 (by decide +kernel) rfl, List.forall_mem_nil _⟩⟩⟩⟩⟩), by decide +kernel⟩
set_option maxRecDepth 100000 in
theorem flX10_184 : Cond.fieldLink RX10 184 (TX5 0).1 (TX5 0).2.1 (TX5 0).2.2.1 ∈ tbg := in_1 38 (by decide +kernel) rfl
set_option maxRecDepth 100000 in
theorem okX10_188 : okS RX10 188 yX8_faultIn cX8_faultIn 6 (some .int) 2 := ⟨good_l (List.forall_mem_cons.mpr ⟨in_4 137 (by decide +kernel) rfl, List.forall_mem_cons.mpr ⟨in_4 138 (by decide +kernel) rfl, List.forall_mem_cons.mpr ⟨in_1 10 (by decide +kernel) rfl, List.forall_mem_cons.mpr ⟨in_4 139 (by decide +kernel) rfl, List.forall_mem_nil _⟩⟩⟩⟩), by decide +kernel⟩
set_option maxRecDepth 100000 in
theorem okX10_192 : okV RX10 192 yX8_replaceBy cX8_replaceBy 5 none 2 := ⟨good_l (List.forall_mem_cons.mpr ⟨in_4 143 (by decide +kernel) rfl, List.forall_mem_cons.mpr ⟨in_4 144 (by decide +kernel) rfl, List.forall_mem_cons.mpr ⟨in_4 145 (by decide +kernel) rfl, List.forall_mem_cons.mpr ⟨in_1 10 (by decide +kernel) rfl, List.forall_mem_cons.mpr ⟨in_4 146 (by decide +kernel) rfl, List.forall_mem_nil _⟩⟩⟩⟩⟩), by decide +kernel⟩
set_option maxRecDepth 100000 in
theorem okX10_117 : okV RX10 117 yX0_enter cX0_enter 4 (some .int) 2 := ⟨good_l (List.forall_mem_cons.mpr ⟨in_2 145 (by decide +kernel) rfl, List.forall_mem_cons.mpr ⟨in_2 146 (by decide +kernel) rfl, List.forall_mem_cons.mpr ⟨in_2 147 (by decide +kernel) rfl, List.forall_mem_cons.mpr ⟨in_1 4 (by decide +kernel) rfl, List.forall_mem_cons.mpr ⟨in_2 148 (by decide +kernel) rfl, List.forall_mem_nil _⟩⟩⟩⟩⟩), by decide +kernel⟩
set_option maxRecDepth 100000 in
theorem okX10_161 : okV RX10 161 yX10_checkStep cX10_checkStep 3 none 2 := ⟨good_l (List.forall_mem_cons.mpr ⟨in_4 112 (by decide +kernel) rfl, List.forall_mem_cons.mpr ⟨in_4 114 (by decide +kernel) rfl, List.forall_mem_cons.mpr ⟨in_s 38 (by decide +kernel) rfl, List.forall_mem_cons.mpr ⟨in_1 1 (by decide +kernel) rfl, List.forall_mem_cons.mpr ⟨in_4 115 (by decide +kernel) rfl, List.forall_mem_nil _⟩⟩⟩⟩⟩), by decide +kernel⟩
set_option maxRecDepth 100000 in
theorem okX10_169 : okV RX10 169 yX4_timesOver cX4_timesOver 3 (some .int) 2 := ⟨good_l (List.forall_mem_cons.mpr ⟨in_4 125 (by decide +kernel) rfl, List.forall_mem_cons.mpr ⟨in_4 126 (by decide +kernel) rfl, List.forall_mem_cons.mpr ⟨in_4 127 (by decide +kernel) rfl, List.forall_mem_cons.mpr ⟨in_1 7 (by decide +kernel) rfl, List.forall_mem_cons.mpr ⟨in_4 128 (by decide +kernel) rfl, List.forall_mem_nil _⟩⟩⟩⟩⟩), by decide +kernel⟩
set_option maxRecDepth 100000 in
theorem okX10_165 : okV RX10 165 yX4_after cX4_after 3 (some .int) 2 := ⟨good_l (List.forall_mem_cons.mpr ⟨in_3 68 (by decide +kernel) rfl, List.forall_mem_cons.mpr ⟨in_3 53 (by decide +kernel) rfl, List.forall_mem_cons.mpr ⟨in_3 54 (by decide +kernel) rfl, List.forall_mem_cons.mpr ⟨in_1 7 (by decide +kernel) rfl, List.forall_mem_cons.mpr ⟨in_3 55 (by decide +kernel) rfl, List.forall_mem_nil _⟩⟩⟩⟩⟩), by decide +kernel⟩
set_option maxRecDepth 100000 in
theorem flX10_133 : Cond.fieldLink RX10 133 (TX0 2).1 (TX0 2).2.1 (TX0 2).2.2.1 ∈ tbg := in_1 59 (by decide +kernel) rfl
set_option maxRecDepth 100000 in
theorem okX10_136 : okV RX10 136 yX0_sizeOf cX0_sizeOf 2 (some .int) 1 := ⟨good_l (List.forall_mem_cons.mpr ⟨in_4 98 (by decide +kernel) rfl, List.forall_mem_cons.mpr ⟨in_2 175 (by decide +kernel) rfl, List.forall_mem_cons.mpr ⟨in_2 176 (by decide +kernel) rfl, List.forall_mem_cons.mpr ⟨in_1 4 (by decide +kernel) rfl, List.forall_mem_cons.mpr ⟨in_2 177 (by decide +kernel) rfl, List.forall_mem_nil _⟩⟩⟩⟩⟩), by decide +kernel⟩
set_option maxRecDepth 100000 in
theorem okX10_139 : okV RX10 139 yX0_standingOf cX0_standingOf 2 (some .int) 1 := ⟨good_l (List.forall_mem_cons.mpr ⟨in_4 99 (by decide +kernel) rfl, List.forall_mem_cons.mpr ⟨in_4 100 (by decide +kernel) rfl, List.forall_mem_cons.mpr ⟨in_4 101 (by decide +kernel) rfl, List.forall_mem_cons.mpr ⟨in_1 4 (by decide +kernel) rfl, List.forall_mem_cons.mpr ⟨in_4 102 (by decide +kernel) rfl, List.forall_mem_nil _⟩⟩⟩⟩⟩), by decide +kernel⟩
set_option maxRecDepth 100000 in
theorem flX11_93 : Cond.fieldLink RX11 93 (TX11 40).1 (TX11 40).2.1 (TX11 40).2.2.1 ∈ tbg := in_5 22 (by decide +kernel) rfl
set_option maxRecDepth 100000 in
theorem flX11_213 : Cond.fieldLink RX11 213 (TX11 43).1 (TX11 43).2.1 (TX11 43).2.2.1 ∈ tbg := in_5 25 (by decide +kernel) rfl
set_option maxRecDepth 100000 in
theorem flX11_96 : Cond.fieldLink RX11 96 (TX11 41).1 (TX11 41).2.1 (TX11 41).2.2.1 ∈ tbg := in_5 23 (by decide +kernel) rfl
set_option maxRecDepth 100000 in
theorem flX11_99 : Cond.fieldLink RX11 99 (TX11 42).1 (TX11 42).2.1 (TX11 42).2.2.1 ∈ tbg := in_5 24 (by decide +kernel) rfl
set_option maxRecDepth 100000 in
theorem flX11_133 : Cond.fieldLink RX11 133 (TX11 0).1 (TX11 0).2.1 (TX11 0).2.2.1 ∈ tbg := in_4 222 (by decide +kernel) rfl
set_option maxRecDepth 100000 in
theorem flX11_237 : Cond.fieldLink RX11 237 (TX11 33).1 (TX11 33).2.1 (TX11 33).2.2.1 ∈ tbg := in_5 15 (by decide +kernel) rfl
set_option maxRecDepth 100000 in
theorem flX11_219 : Cond.fieldLink RX11 219 (TX11 45).1 (TX11 45).2.1 (TX11 45).2.2.1 ∈ tbg := in_5 27 (by decide +kernel) rfl
set_option maxRecDepth 100000 in
theorem okX11_227 : okV RX11 227 yX11_state cX11_state 1 (some .int) 0 := ⟨good_l (List.forall_mem_cons.mpr ⟨in_6 39 (by decide +kernel) rfl, List.forall_mem_cons.mpr ⟨in_6 41 (by decide +kernel) rfl, List.forall_mem_cons.mpr ⟨in_s 64 (by decide +kernel) rfl, List.forall_mem_cons.mpr ⟨in_1 14 (by decide +kernel) rfl, List.forall_mem_cons.mpr ⟨in_6 42 (by decide +kernel) rfl, List.forall_mem_nil _⟩⟩⟩⟩⟩), by decide +kernel⟩
set_option maxRecDepth 100000 in
theorem okX11_230 : okV RX11 230 yX11_adds cX11_adds 4 none 3 := ⟨good_l (List.forall_mem_cons.mpr ⟨in_6 43 (by decide +kernel) rfl, List.forall_mem_cons.mpr ⟨in_6 45 (by decide +kernel) rfl, List.forall_mem_cons.mpr ⟨in_s 65 (by decide +kernel) rfl, List.forall_mem_cons.mpr ⟨in_1 14 (by decide +kernel) rfl, List.forall_mem_cons.mpr ⟨in_6 46 (by decide +kernel) rfl, List.forall_mem_nil _⟩⟩⟩⟩⟩), by decide +kernel⟩
set_option maxRecDepth 100000 in
theorem flX11_207 : Cond.fieldLink RX11 207 (TX11 32).1 (TX11 32).2.1 (TX11 32).2.2.1 ∈ tbg := in_5 14 (by decide +kernel) rfl
set_option maxRecDepth 100000 in
theorem okX11_240 : okV RX11 240 yX11_reads cX11_reads 5 (some .int) 1 := ⟨good_l (List.forall_mem_cons.mpr ⟨in_6 31 (by decide +kernel) rfl, List.forall_mem_cons.mpr ⟨in_6 33 (by decide +kernel) rfl, List.forall_mem_cons.mpr ⟨in_s 62 (by decide +kernel) rfl, List.forall_mem_cons.mpr ⟨in_1 14 (by decide +kernel) rfl, List.forall_mem_cons.mpr ⟨in_6 34 (by decide +kernel) rfl, List.forall_mem_nil _⟩⟩⟩⟩⟩), by decide +kernel⟩
set_option maxRecDepth 100000 in
theorem okX11_223 : okV RX11 223 yX11_now cX11_now 1 (some .int) 0 := ⟨good_l (List.forall_mem_cons.mpr ⟨in_6 35 (by decide +kernel) rfl, List.forall_mem_cons.mpr ⟨in_6 37 (by decide +kernel) rfl, List.forall_mem_cons.mpr ⟨in_s 63 (by decide +kernel) rfl, List.forall_mem_cons.mpr ⟨in_1 14 (by decide +kernel) rfl, List.forall_mem_cons.mpr ⟨in_6 38 (by decide +kernel) rfl, List.forall_mem_nil _⟩⟩⟩⟩⟩), by decide +kernel⟩
set_option maxRecDepth 100000 in
theorem flX11_252 : Cond.fieldLink RX11 252 (TX11 50).1 (TX11 50).2.1 (TX11 50).2.2.1 ∈ tbg := in_5 32 (by decide +kernel) rfl
set_option maxRecDepth 100000 in
theorem flX11_111 : Cond.fieldLink RX11 111 (TX11 49).1 (TX11 49).2.1 (TX11 49).2.2.1 ∈ tbg := in_5 31 (by decide +kernel) rfl
set_option maxRecDepth 100000 in
theorem flX11_164 : Cond.fieldLink RX11 164 (TX11 13).1 (TX11 13).2.1 (TX11 13).2.2.1 ∈ tbg := in_4 235 (by decide +kernel) rfl
set_option maxRecDepth 100000 in
theorem flX11_74 : Cond.fieldLink RX11 74 (TX11 27).1 (TX11 27).2.1 (TX11 27).2.2.1 ∈ tbg := in_5 9 (by decide +kernel) rfl
set_option maxRecDepth 100000 in
theorem flX11_35 : Cond.fieldLink RX11 35 (TX11 11).1 (TX11 11).2.1 (TX11 11).2.2.1 ∈ tbg := in_4 233 (by decide +kernel) rfl
set_option maxRecDepth 100000 in
theorem flX11_38 : Cond.fieldLink RX11 38 (TX11 12).1 (TX11 12).2.1 (TX11 12).2.2.1 ∈ tbg := in_4 234 (by decide +kernel) rfl
set_option maxRecDepth 100000 in
theorem flX11_77 : Cond.fieldLink RX11 77 (TX11 28).1 (TX11 28).2.1 (TX11 28).2.2.1 ∈ tbg := in_5 10 (by decide +kernel) rfl
set_option maxRecDepth 100000 in
theorem okX11_200 : okV RX11 200 yX11_can cX11_can 6 (some .boolean) 3 := ⟨good_l (List.forall_mem_cons.mpr ⟨in_6 19 (by decide +kernel) rfl, List.forall_mem_cons.mpr ⟨in_6 21 (by decide +kernel) rfl, List.forall_mem_cons.mpr ⟨in_s 61 (by decide +kernel) rfl, List.forall_mem_cons.mpr ⟨in_1 14 (by decide +kernel) rfl, List.forall_mem_cons.mpr ⟨in_6 22 (by decide +kernel) rfl, List.forall_mem_nil _⟩⟩⟩⟩⟩), by decide +kernel⟩
set_option maxRecDepth 100000 in
theorem okX11_197 : okV RX11 197 yX11_isWrongTaken cX11_isWrongTaken 4 (some .boolean) 0 := ⟨good_l (List.forall_mem_cons.mpr ⟨in_6 15 (by decide +kernel) rfl, List.forall_mem_cons.mpr ⟨in_6 17 (by decide +kernel) rfl, List.forall_mem_cons.mpr ⟨in_s 60 (by decide +kernel) rfl, List.forall_mem_cons.mpr ⟨in_1 14 (by decide +kernel) rfl, List.forall_mem_cons.mpr ⟨in_6 18 (by decide +kernel) rfl, List.forall_mem_nil _⟩⟩⟩⟩⟩), by decide +kernel⟩
set_option maxRecDepth 100000 in
theorem flX11_243 : Cond.fieldLink RX11 243 (TX11 37).1 (TX11 37).2.1 (TX11 37).2.2.1 ∈ tbg := in_5 19 (by decide +kernel) rfl
set_option maxRecDepth 100000 in
theorem flX11_90 : Cond.fieldLink RX11 90 (TX11 36).1 (TX11 36).2.1 (TX11 36).2.2.1 ∈ tbg := in_5 18 (by decide +kernel) rfl
set_option maxRecDepth 100000 in
theorem flX11_105 : Cond.fieldLink RX11 105 (TX11 47).1 (TX11 47).2.1 (TX11 47).2.2.1 ∈ tbg := in_5 29 (by decide +kernel) rfl
set_option maxRecDepth 100000 in
theorem flX11_84 : Cond.fieldLink RX11 84 (TX11 34).1 (TX11 34).2.1 (TX11 34).2.2.1 ∈ tbg := in_5 16 (by decide +kernel) rfl
set_option maxRecDepth 100000 in
theorem flX11_87 : Cond.fieldLink RX11 87 (TX11 35).1 (TX11 35).2.1 (TX11 35).2.2.1 ∈ tbg := in_5 17 (by decide +kernel) rfl
set_option maxRecDepth 100000 in
theorem flX11_147 : Cond.fieldLink RX11 147 (TX11 7).1 (TX11 7).2.1 (TX11 7).2.2.1 ∈ tbg := in_4 229 (by decide +kernel) rfl
set_option maxRecDepth 100000 in
theorem flX11_23 : Cond.fieldLink RX11 23 (TX11 6).1 (TX11 6).2.1 (TX11 6).2.2.1 ∈ tbg := in_4 228 (by decide +kernel) rfl
set_option maxRecDepth 100000 in
theorem flX11_126 : Cond.fieldLink RX11 126 (TX11 25).1 (TX11 25).2.1 (TX11 25).2.2.1 ∈ tbg := in_5 7 (by decide +kernel) rfl
set_option maxRecDepth 100000 in
theorem flX11_65 : Cond.fieldLink RX11 65 (TX11 23).1 (TX11 23).2.1 (TX11 23).2.2.1 ∈ tbg := in_5 5 (by decide +kernel) rfl
set_option maxRecDepth 100000 in
theorem flX11_144 : Cond.fieldLink RX11 144 (TX11 2).1 (TX11 2).2.1 (TX11 2).2.2.1 ∈ tbg := in_4 224 (by decide +kernel) rfl
set_option maxRecDepth 100000 in
theorem flX11_204 : Cond.fieldLink RX11 204 (TX11 30).1 (TX11 30).2.1 (TX11 30).2.2.1 ∈ tbg := in_5 12 (by decide +kernel) rfl
set_option maxRecDepth 100000 in
theorem okX11_177 : okV RX11 177 yX11_tree cX11_tree 7 none 0 := ⟨good_l (List.forall_mem_cons.mpr ⟨in_5 203 (by decide +kernel) rfl, List.forall_mem_cons.mpr ⟨in_5 205 (by decide +kernel) rfl, List.forall_mem_cons.mpr ⟨in_s 52 (by decide +kernel) rfl, List.forall_mem_cons.mpr ⟨in_1 14 (by decide +kernel) rfl, List.forall_mem_cons.mpr ⟨in_5 206 (by decide +kernel) rfl, List.forall_mem_nil _⟩⟩⟩⟩⟩), by decide +kernel⟩
set_option maxRecDepth 100000 in
theorem flX11_16 : Cond.fieldLink RX11 16 (TX11 4).1 (TX11 4).2.1 (TX11 4).2.2.1 ∈ tbg := in_4 226 (by decide +kernel) rfl
set_option maxRecDepth 100000 in
theorem okX11_153 : okV RX11 153 yX11_quarrels cX11_quarrels 5 (some .boolean) 2 := ⟨good_l (List.forall_mem_cons.mpr ⟨in_5 191 (by decide +kernel) rfl, List.forall_mem_cons.mpr ⟨in_5 193 (by decide +kernel) rfl, List.forall_mem_cons.mpr ⟨in_s 50 (by decide +kernel) rfl, List.forall_mem_cons.mpr ⟨in_1 14 (by decide +kernel) rfl, List.forall_mem_cons.mpr ⟨in_5 194 (by decide +kernel) rfl, List.forall_mem_nil _⟩⟩⟩⟩⟩), by decide +kernel⟩
set_option maxRecDepth 100000 in
theorem flX11_68 : Cond.fieldLink RX11 68 (TX11 24).1 (TX11 24).2.1 (TX11 24).2.2.1 ∈ tbg := in_5 6 (by decide +kernel) rfl
set_option maxRecDepth 100000 in
theorem okX11_150 : okV RX11 150 yX11_isRow cX11_isRow 2 (some .boolean) 1 := ⟨good_l (List.forall_mem_cons.mpr ⟨in_5 179 (by decide +kernel) rfl, List.forall_mem_cons.mpr ⟨in_5 181 (by decide +kernel) rfl, List.forall_mem_cons.mpr ⟨in_s 48 (by decide +kernel) rfl, List.forall_mem_cons.mpr ⟨in_1 14 (by decide +kernel) rfl, List.forall_mem_cons.mpr ⟨in_5 182 (by decide +kernel) rfl, List.forall_mem_nil _⟩⟩⟩⟩⟩), by decide +kernel⟩
set_option maxRecDepth 100000 in
theorem flX11_80 : Cond.fieldLink RX11 80 (TX11 29).1 (TX11 29).2.1 (TX11 29).2.2.1 ∈ tbg := in_5 11 (by decide +kernel) rfl
set_option maxRecDepth 100000 in
theorem flX11_246 : Cond.fieldLink RX11 246 (TX11 38).1 (TX11 38).2.1 (TX11 38).2.2.1 ∈ tbg := in_5 20 (by decide +kernel) rfl
set_option maxRecDepth 100000 in
theorem flX11_108 : Cond.fieldLink RX11 108 (TX11 48).1 (TX11 48).2.1 (TX11 48).2.2.1 ∈ tbg := in_5 30 (by decide +kernel) rfl
set_option maxRecDepth 100000 in
theorem okX11_136 : okS RX11 136 yX11_isCall cX11_isCall 1 (some .boolean) 1 := ⟨good_l (List.forall_mem_cons.mpr ⟨in_5 156 (by decide +kernel) rfl, List.forall_mem_cons.mpr ⟨in_5 157 (by decide +kernel) rfl, List.forall_mem_cons.mpr ⟨in_1 14 (by decide +kernel) rfl, List.forall_mem_cons.mpr ⟨in_5 158 (by decide +kernel) rfl, List.forall_mem_nil _⟩⟩⟩⟩), by decide +kernel⟩
set_option maxRecDepth 100000 in
theorem okX11_140 : okV RX11 140 yX11_bad cX11_bad 3 (some .boolean) 2 := ⟨good_l (List.forall_mem_cons.mpr ⟨in_5 159 (by decide +kernel) rfl, List.forall_mem_cons.mpr ⟨in_5 161 (by decide +kernel) rfl, List.forall_mem_cons.mpr ⟨in_s 47 (by decide +kernel) rfl, List.forall_mem_cons.mpr ⟨in_1 14 (by decide +kernel) rfl, List.forall_mem_cons.mpr ⟨in_5 162 (by decide +kernel) rfl, List.forall_mem_nil _⟩⟩⟩⟩⟩), by decide +kernel⟩
set_option maxRecDepth 100000 in
theorem okX11_272 : okV RX11 272 yX11_habits cX11_habits 7 none 0 := ⟨good_l (List.forall_mem_cons.mpr ⟨in_6 88 (by decide +kernel) rfl, List.forall_mem_cons.mpr ⟨in_6 90 (by decide +kernel) rfl, List.forall_mem_cons.mpr ⟨in_s 72 (by decide +kernel) rfl, List.forall_mem_cons.mpr ⟨in_1 14 (by decide +kernel) rfl, List.forall_mem_cons.mpr ⟨in_6 91 (by decide +kernel) rfl, List.forall_mem_nil _⟩⟩⟩⟩⟩), by decide +kernel⟩
set_option maxRecDepth 100000 in
theorem flX11_120 : Cond.fieldLink RX11 120 (TX11 53).1 (TX11 53).2.1 (TX11 53).2.2.1 ∈ tbg := in_5 35 (by decide +kernel) rfl
set_option maxRecDepth 100000 in
theorem flX11_123 : Cond.fieldLink RX11 123 (TX11 54).1 (TX11 54).2.1 (TX11 54).2.2.1 ∈ tbg := in_5 36 (by decide +kernel) rfl
set_option maxRecDepth 100000 in
theorem flX11_19 : Cond.fieldLink RX11 19 (TX11 5).1 (TX11 5).2.1 (TX11 5).2.2.1 ∈ tbg := in_4 227 (by decide +kernel) rfl
set_option maxRecDepth 100000 in
theorem flX11_13 : Cond.fieldLink RX11 13 (TX11 3).1 (TX11 3).2.1 (TX11 3).2.2.1 ∈ tbg := in_4 225 (by decide +kernel) rfl
set_option maxRecDepth 100000 in
theorem flX11_9 : Cond.fieldLink RX11 9 (TX11 1).1 (TX11 1).2.1 (TX11 1).2.2.1 ∈ tbg := in_4 223 (by decide +kernel) rfl
set_option maxRecDepth 100000 in
theorem okX11_130 : okV RX11 130 yX11_clearBreak cX11_clearBreak 1 none 0 := ⟨good_l (List.forall_mem_cons.mpr ⟨in_4 218 (by decide +kernel) rfl, List.forall_mem_cons.mpr ⟨in_4 220 (by decide +kernel) rfl, List.forall_mem_cons.mpr ⟨in_s 46 (by decide +kernel) rfl, List.forall_mem_cons.mpr ⟨in_1 14 (by decide +kernel) rfl, List.forall_mem_cons.mpr ⟨in_4 221 (by decide +kernel) rfl, List.forall_mem_nil _⟩⟩⟩⟩⟩), by decide +kernel⟩
set_option maxRecDepth 100000 in
theorem flX11_102 : Cond.fieldLink RX11 102 (TX11 46).1 (TX11 46).2.1 (TX11 46).2.2.1 ∈ tbg := in_5 28 (by decide +kernel) rfl
set_option maxRecDepth 100000 in
theorem okX11_256 : okV RX11 256 yX11_isNearer cX11_isNearer 6 (some .boolean) 2 := ⟨good_l (List.forall_mem_cons.mpr ⟨in_6 56 (by decide +kernel) rfl, List.forall_mem_cons.mpr ⟨in_6 58 (by decide +kernel) rfl, List.forall_mem_cons.mpr ⟨in_s 67 (by decide +kernel) rfl, List.forall_mem_cons.mpr ⟨in_1 14 (by decide +kernel) rfl, List.forall_mem_cons.mpr ⟨in_6 59 (by decide +kernel) rfl, List.forall_mem_nil _⟩⟩⟩⟩⟩), by decide +kernel⟩
set_option maxRecDepth 100000 in
theorem okX11_259 : okV RX11 259 yX11_closes cX11_closes 3 none 0 := ⟨good_l (List.forall_mem_cons.mpr ⟨in_6 60 (by decide +kernel) rfl, List.forall_mem_cons.mpr ⟨in_6 62 (by decide +kernel) rfl, List.forall_mem_cons.mpr ⟨in_s 68 (by decide +kernel) rfl, List.forall_mem_cons.mpr ⟨in_1 14 (by decide +kernel) rfl, List.forall_mem_cons.mpr ⟨in_6 63 (by decide +kernel) rfl, List.forall_mem_nil _⟩⟩⟩⟩⟩), by decide +kernel⟩
set_option maxRecDepth 100000 in
theorem okX11_262 : okV RX11 262 yX11_leads cX11_leads 6 (some .boolean) 3 := ⟨good_l (List.forall_mem_cons.mpr ⟨in_6 64 (by decide +kernel) rfl, List.forall_mem_cons.mpr ⟨in_6 66 (by decide +kernel) rfl, List.forall_mem_cons.mpr ⟨in_s 69 (by decide +kernel) rfl, List.forall_mem_cons.mpr ⟨in_1 14 (by decide +kernel) rfl, List.forall_mem_cons.mpr ⟨in_6 67 (by decide +kernel) rfl, List.forall_mem_nil _⟩⟩⟩⟩⟩), by decide +kernel⟩
set_option maxRecDepth 100000 in
theorem okX11_265 : okV RX11 265 yX11_breaksOn cX11_breaksOn 4 none 1 := ⟨good_l (List.forall_mem_cons.mpr ⟨in_6 68 (by decide +kernel) rfl, List.forall_mem_cons.mpr ⟨in_6 70 (by decide +kernel) rfl, List.forall_mem_cons.mpr ⟨in_s 70 (by decide +kernel) rfl, List.forall_mem_cons.mpr ⟨in_1 14 (by decide +kernel) rfl, List.forall_mem_cons.mpr ⟨in_6 71 (by decide +kernel) rfl, List.forall_mem_nil _⟩⟩⟩⟩⟩), by decide +kernel⟩
set_option maxRecDepth 100000 in
theorem okX11_269 : okV RX11 269 yX11_goesOn cX11_goesOn 4 (some .int) 2 := ⟨good_l (List.forall_mem_cons.mpr ⟨in_6 72 (by decide +kernel) rfl, List.forall_mem_cons.mpr ⟨in_6 74 (by decide +kernel) rfl, List.forall_mem_cons.mpr ⟨in_s 71 (by decide +kernel) rfl, List.forall_mem_cons.mpr ⟨in_1 14 (by decide +kernel) rfl, List.forall_mem_cons.mpr ⟨in_6 75 (by decide +kernel) rfl, List.forall_mem_nil _⟩⟩⟩⟩⟩), by decide +kernel⟩
set_option maxRecDepth 100000 in
theorem flX11_26 : Cond.fieldLink RX11 26 (TX11 8).1 (TX11 8).2.1 (TX11 8).2.2.1 ∈ tbg := in_4 230 (by decide +kernel) rfl
set_option maxRecDepth 100000 in
theorem flX11_29 : Cond.fieldLink RX11 29 (TX11 9).1 (TX11 9).2.1 (TX11 9).2.2.1 ∈ tbg := in_4 231 (by decide +kernel) rfl
set_option maxRecDepth 100000 in
theorem flX11_32 : Cond.fieldLink RX11 32 (TX11 10).1 (TX11 10).2.1 (TX11 10).2.2.1 ∈ tbg := in_4 232 (by decide +kernel) rfl
set_option maxRecDepth 100000 in
theorem flX11_41 : Cond.fieldLink RX11 41 (TX11 14).1 (TX11 14).2.1 (TX11 14).2.2.1 ∈ tbg := in_4 236 (by decide +kernel) rfl
set_option maxRecDepth 100000 in
theorem flX11_44 : Cond.fieldLink RX11 44 (TX11 15).1 (TX11 15).2.1 (TX11 15).2.2.1 ∈ tbg := in_4 237 (by decide +kernel) rfl
set_option maxRecDepth 100000 in
theorem flX11_47 : Cond.fieldLink RX11 47 (TX11 16).1 (TX11 16).2.1 (TX11 16).2.2.1 ∈ tbg := in_4 238 (by decide +kernel) rfl
set_option maxRecDepth 100000 in
theorem flX11_50 : Cond.fieldLink RX11 50 (TX11 17).1 (TX11 17).2.1 (TX11 17).2.2.1 ∈ tbg := in_4 239 (by decide +kernel) rfl
set_option maxRecDepth 100000 in
theorem flX11_53 : Cond.fieldLink RX11 53 (TX11 18).1 (TX11 18).2.1 (TX11 18).2.2.1 ∈ tbg := in_5 0 (by decide +kernel) rfl
set_option maxRecDepth 100000 in
theorem flX11_56 : Cond.fieldLink RX11 56 (TX11 19).1 (TX11 19).2.1 (TX11 19).2.2.1 ∈ tbg := in_5 1 (by decide +kernel) rfl
set_option maxRecDepth 100000 in
theorem flX11_59 : Cond.fieldLink RX11 59 (TX11 21).1 (TX11 21).2.1 (TX11 21).2.2.1 ∈ tbg := in_5 3 (by decide +kernel) rfl
set_option maxRecDepth 100000 in
theorem flX11_62 : Cond.fieldLink RX11 62 (TX11 22).1 (TX11 22).2.1 (TX11 22).2.2.1 ∈ tbg := in_5 4 (by decide +kernel) rfl
set_option maxRecDepth 100000 in
theorem flX11_71 : Cond.fieldLink RX11 71 (TX11 26).1 (TX11 26).2.1 (TX11 26).2.2.1 ∈ tbg := in_5 8 (by decide +kernel) rfl
set_option maxRecDepth 100000 in
theorem flX11_114 : Cond.fieldLink RX11 114 (TX11 51).1 (TX11 51).2.1 (TX11 51).2.2.1 ∈ tbg := in_5 33 (by decide +kernel) rfl
set_option maxRecDepth 100000 in
theorem flX11_117 : Cond.fieldLink RX11 117 (TX11 52).1 (TX11 52).2.1 (TX11 52).2.2.1 ∈ tbg := in_5 34 (by decide +kernel) rfl
set_option maxRecDepth 100000 in
theorem okX11_180 : okV RX11 180 yX11_melts cX11_melts 8 none 2 := ⟨good_l (List.forall_mem_cons.mpr ⟨in_5 207 (by decide +kernel) rfl, List.forall_mem_cons.mpr ⟨in_5 209 (by decide +kernel) rfl, List.forall_mem_cons.mpr ⟨in_s 53 (by decide +kernel) rfl, List.forall_mem_cons.mpr ⟨in_1 14 (by decide +kernel) rfl, List.forall_mem_cons.mpr ⟨in_5 210 (by decide +kernel) rfl, List.forall_mem_nil _⟩⟩⟩⟩⟩), by decide +kernel⟩
set_option maxRecDepth 100000 in
theorem okX11_183 : okV RX11 183 yX11_takesWrong cX11_takesWrong 4 (some .boolean) 0 := ⟨good_l (List.forall_mem_cons.mpr ⟨in_5 219 (by decide +kernel) rfl, List.forall_mem_cons.mpr ⟨in_5 221 (by decide +kernel) rfl, List.forall_mem_cons.mpr ⟨in_s 56 (by decide +kernel) rfl, List.forall_mem_cons.mpr ⟨in_1 14 (by decide +kernel) rfl, List.forall_mem_cons.mpr ⟨in_5 222 (by decide +kernel) rfl, List.forall_mem_nil _⟩⟩⟩⟩⟩), by decide +kernel⟩
set_option maxRecDepth 100000 in
theorem okX11_187 : okV RX11 187 yX11_takesBack cX11_takesBack 1 none 0 := ⟨good_l (List.forall_mem_cons.mpr ⟨in_5 223 (by decide +kernel) rfl, List.forall_mem_cons.mpr ⟨in_5 225 (by decide +kernel) rfl, List.forall_mem_cons.mpr ⟨in_s 57 (by decide +kernel) rfl, List.forall_mem_cons.mpr ⟨in_1 14 (by decide +kernel) rfl, List.forall_mem_cons.mpr ⟨in_5 226 (by decide +kernel) rfl, List.forall_mem_nil _⟩⟩⟩⟩⟩), by decide +kernel⟩
set_option maxRecDepth 100000 in
theorem okX11_170 : okV RX11 170 yX11_leastOf cX11_leastOf 3 (some .int) 1 := ⟨good_l (List.forall_mem_cons.mpr ⟨in_5 211 (by decide +kernel) rfl, List.forall_mem_cons.mpr ⟨in_5 213 (by decide +kernel) rfl, List.forall_mem_cons.mpr ⟨in_s 54 (by decide +kernel) rfl, List.forall_mem_cons.mpr ⟨in_1 14 (by decide +kernel) rfl, List.forall_mem_cons.mpr ⟨in_5 214 (by decide +kernel) rfl, List.forall_mem_nil _⟩⟩⟩⟩⟩), by decide +kernel⟩
set_option maxRecDepth 100000 in
theorem okX11_190 : okV RX11 190 yX11_placeOf cX11_placeOf 4 (some .int) 2 := ⟨good_l (List.forall_mem_cons.mpr ⟨in_5 227 (by decide +kernel) rfl, List.forall_mem_cons.mpr ⟨in_5 229 (by decide +kernel) rfl, List.forall_mem_cons.mpr ⟨in_s 58 (by decide +kernel) rfl, List.forall_mem_cons.mpr ⟨in_1 14 (by decide +kernel) rfl, List.forall_mem_cons.mpr ⟨in_5 230 (by decide +kernel) rfl, List.forall_mem_nil _⟩⟩⟩⟩⟩), by decide +kernel⟩
set_option maxRecDepth 100000 in
theorem flX11_167 : Cond.fieldLink RX11 167 (TX11 20).1 (TX11 20).2.1 (TX11 20).2.2.1 ∈ tbg := in_5 2 (by decide +kernel) rfl
set_option maxRecDepth 100000 in
theorem okX11_173 : okV RX11 173 yX11_sets cX11_sets 3 none 2 := ⟨good_l (List.forall_mem_cons.mpr ⟨in_5 215 (by decide +kernel) rfl, List.forall_mem_cons.mpr ⟨in_5 217 (by decide +kernel) rfl, List.forall_mem_cons.mpr ⟨in_s 55 (by decide +kernel) rfl, List.forall_mem_cons.mpr ⟨in_1 14 (by decide +kernel) rfl, List.forall_mem_cons.mpr ⟨in_5 218 (by decide +kernel) rfl, List.forall_mem_nil _⟩⟩⟩⟩⟩), by decide +kernel⟩
set_option maxRecDepth 100000 in
theorem flX11_210 : Cond.fieldLink RX11 210 (TX11 31).1 (TX11 31).2.1 (TX11 31).2.2.1 ∈ tbg := in_5 13 (by decide +kernel) rfl
set_option maxRecDepth 100000 in
theorem okX11_275 : okV RX11 275 yX11_isAhead cX11_isAhead 5 (some .boolean) 2 := ⟨good_l (List.forall_mem_cons.mpr ⟨in_6 96 (by decide +kernel) rfl, List.forall_mem_cons.mpr ⟨in_6 98 (by decide +kernel) rfl, List.forall_mem_cons.mpr ⟨in_s 73 (by decide +kernel) rfl, List.forall_mem_cons.mpr ⟨in_1 14 (by decide +kernel) rfl, List.forall_mem_cons.mpr ⟨in_6 99 (by decide +kernel) rfl, List.forall_mem_nil _⟩⟩⟩⟩⟩), by decide +kernel⟩
set_option maxRecDepth 100000 in
theorem okX11_234 : okV RX11 234 yX11_bracket cX11_bracket 4 (some .int) 1 := ⟨good_l (List.forall_mem_cons.mpr ⟨in_6 47 (by decide +kernel) rfl, List.forall_mem_cons.mpr ⟨in_6 49 (by decide +kernel) rfl, List.forall_mem_cons.mpr ⟨in_s 66 (by decide +kernel) rfl, List.forall_mem_cons.mpr ⟨in_1 14 (by decide +kernel) rfl, List.forall_mem_cons.mpr ⟨in_6 50 (by decide +kernel) rfl, List.forall_mem_nil _⟩⟩⟩⟩⟩), by decide +kernel⟩
set_option maxRecDepth 100000 in
theorem flX11_216 : Cond.fieldLink RX11 216 (TX11 44).1 (TX11 44).2.1 (TX11 44).2.2.1 ∈ tbg := in_5 26 (by decide +kernel) rfl
set_option maxRecDepth 100000 in
theorem flX11_249 : Cond.fieldLink RX11 249 (TX11 39).1 (TX11 39).2.1 (TX11 39).2.2.1 ∈ tbg := in_5 21 (by decide +kernel) rfl
set_option maxRecDepth 100000 in
theorem okX11_194 : okV RX11 194 yX11_isStep cX11_isStep 3 (some .boolean) 2 := ⟨good_l (List.forall_mem_cons.mpr ⟨in_5 235 (by decide +kernel) rfl, List.forall_mem_cons.mpr ⟨in_5 237 (by decide +kernel) rfl, List.forall_mem_cons.mpr ⟨in_s 59 (by decide +kernel) rfl, List.forall_mem_cons.mpr ⟨in_1 14 (by decide +kernel) rfl, List.forall_mem_cons.mpr ⟨in_5 238 (by decide +kernel) rfl, List.forall_mem_nil _⟩⟩⟩⟩⟩), by decide +kernel⟩
set_option maxRecDepth 100000 in
theorem okX11_157 : okV RX11 157 yX11_cutOf cX11_cutOf 4 (some .int) 1 := ⟨good_l (List.forall_mem_cons.mpr ⟨in_5 187 (by decide +kernel) rfl, List.forall_mem_cons.mpr ⟨in_5 189 (by decide +kernel) rfl, List.forall_mem_cons.mpr ⟨in_s 49 (by decide +kernel) rfl, List.forall_mem_cons.mpr ⟨in_1 14 (by decide +kernel) rfl, List.forall_mem_cons.mpr ⟨in_5 190 (by decide +kernel) rfl, List.forall_mem_nil _⟩⟩⟩⟩⟩), by decide +kernel⟩
set_option maxRecDepth 100000 in
theorem okX11_161 : okV RX11 161 yX11_isLeftOut cX11_isLeftOut 4 (some .boolean) 1 := ⟨good_l (List.forall_mem_cons.mpr ⟨in_5 195 (by decide +kernel) rfl, List.forall_mem_cons.mpr ⟨in_5 197 (by decide +kernel) rfl, List.forall_mem_cons.mpr ⟨in_s 51 (by decide +kernel) rfl, List.forall_mem_cons.mpr ⟨in_1 14 (by decide +kernel) rfl, List.forall_mem_cons.mpr ⟨in_5 198 (by decide +kernel) rfl, List.forall_mem_nil _⟩⟩⟩⟩⟩), by decide +kernel⟩
set_option maxRecDepth 100000 in
theorem flX1_18 : Cond.fieldLink RX1 18 (TX1 0).1 (TX1 0).2.1 (TX1 0).2.2.1 ∈ tbg := in_1 196 (by decide +kernel) rfl
set_option maxRecDepth 100000 in
theorem flX1_87 : Cond.fieldLink RX1 87 (TX0 5).1 (TX0 5).2.1 (TX0 5).2.2.1 ∈ tbg := in_1 65 (by decide +kernel) rfl
set_option maxRecDepth 100000 in
theorem flX1_90 : Cond.fieldLink RX1 90 (TX0 4).1 (TX0 4).2.1 (TX0 4).2.2.1 ∈ tbg := in_1 63 (by decide +kernel) rfl
set_option maxRecDepth 100000 in
theorem okX1_93 : okV RX1 93 yX1_slotLackedBy cX1_slotLackedBy 6 (some .int) 1 := ⟨good_l (List.forall_mem_cons.mpr ⟨in_3 103 (by decide +kernel) rfl, List.forall_mem_cons.mpr ⟨in_3 105 (by decide +kernel) rfl, List.forall_mem_cons.mpr ⟨in_s 20 (by decide +kernel) rfl, List.forall_mem_cons.mpr ⟨in_1 9 (by decide +kernel) rfl, List.forall_mem_cons.mpr ⟨in_3 106 (by decide +kernel) rfl, List.forall_mem_nil _⟩⟩⟩⟩⟩), by decide +kernel⟩
set_option maxRecDepth 100000 in
theorem flX1_9 : Cond.fieldLink RX1 9 (TX1 2).1 (TX1 2).2.1 (TX1 2).2.2.1 ∈ tbg := in_1 198 (by decide +kernel) rfl
set_option maxRecDepth 100000 in
theorem flX1_15 : Cond.fieldLink RX1 15 (TX1 3).1 (TX1 3).2.1 (TX1 3).2.2.1 ∈ tbg := in_1 199 (by decide +kernel) rfl
set_option maxRecDepth 100000 in
theorem flX1_22 : Cond.fieldLink RX1 22 (TX1 1).1 (TX1 1).2.1 (TX1 1).2.2.1 ∈ tbg := in_1 197 (by decide +kernel) rfl
set_option maxRecDepth 100000 in
theorem flX1_45 : Cond.fieldLink RX1 45 (TX9 6).1 (TX9 6).2.1 (TX9 6).2.2.1 ∈ tbg := in_1 106 (by decide +kernel) rfl
set_option maxRecDepth 100000 in
theorem flX1_71 : Cond.fieldLink RX1 71 (TX9 2).1 (TX9 2).2.1 (TX9 2).2.2.1 ∈ tbg := in_1 98 (by decide +kernel) rfl
set_option maxRecDepth 100000 in
theorem okX1_50 : okV RX1 50 yX1_slotInto cX1_slotInto 2 (some .int) 1 := ⟨good_l (List.forall_mem_cons.mpr ⟨in_3 83 (by decide +kernel) rfl, List.forall_mem_cons.mpr ⟨in_3 85 (by decide +kernel) rfl, List.forall_mem_cons.mpr ⟨in_s 16 (by decide +kernel) rfl, List.forall_mem_cons.mpr ⟨in_1 9 (by decide +kernel) rfl, List.forall_mem_cons.mpr ⟨in_3 86 (by decide +kernel) rfl, List.forall_mem_nil _⟩⟩⟩⟩⟩), by decide +kernel⟩
set_option maxRecDepth 100000 in
theorem flX1_31 : Cond.fieldLink RX1 31 (TX1 4).1 (TX1 4).2.1 (TX1 4).2.2.1 ∈ tbg := in_1 200 (by decide +kernel) rfl
set_option maxRecDepth 100000 in
theorem okX1_58 : okV RX1 58 yX1_barredSlots cX1_barredSlots 4 (some .int) 0 := ⟨good_l (List.forall_mem_cons.mpr ⟨in_3 99 (by decide +kernel) rfl, List.forall_mem_cons.mpr ⟨in_3 101 (by decide +kernel) rfl, List.forall_mem_cons.mpr ⟨in_s 19 (by decide +kernel) rfl, List.forall_mem_cons.mpr ⟨in_1 9 (by decide +kernel) rfl, List.forall_mem_cons.mpr ⟨in_3 102 (by decide +kernel) rfl, List.forall_mem_nil _⟩⟩⟩⟩⟩), by decide +kernel⟩
set_option maxRecDepth 100000 in
theorem okX1_62 : okV RX1 62 yX1_isLost cX1_isLost 5 (some .boolean) 2 := ⟨good_l (List.forall_mem_cons.mpr ⟨in_3 109 (by decide +kernel) rfl, List.forall_mem_cons.mpr ⟨in_3 111 (by decide +kernel) rfl, List.forall_mem_cons.mpr ⟨in_s 21 (by decide +kernel) rfl, List.forall_mem_cons.mpr ⟨in_1 9 (by decide +kernel) rfl, List.forall_mem_cons.mpr ⟨in_3 112 (by decide +kernel) rfl, List.forall_mem_nil _⟩⟩⟩⟩⟩), by decide +kernel⟩
set_option maxRecDepth 100000 in
theorem okX1_65 : okS RX1 65 yJ9_max_7cf53 cJ9_max_7cf53 2 (some .int) 2 := ⟨good_l (List.forall_mem_cons.mpr ⟨in_3 113 (by decide +kernel) rfl, List.forall_mem_cons.mpr ⟨in_1 35 (by decide +kernel) rfl, List.forall_mem_cons.mpr ⟨in_1 3 (by decide +kernel) rfl, List.forall_mem_cons.mpr ⟨in_1 36 (by decide +kernel) rfl, List.forall_mem_nil _⟩⟩⟩⟩), by decide +kernel⟩
set_option maxRecDepth 100000 in
theorem okX1_41 : okV RX1 41 yX1_placeFrom cX1_placeFrom 4 (some .boolean) 2 := ⟨good_l (List.forall_mem_cons.mpr ⟨in_3 79 (by decide +kernel) rfl, List.forall_mem_cons.mpr ⟨in_3 81 (by decide +kernel) rfl, List.forall_mem_cons.mpr ⟨in_s 15 (by decide +kernel) rfl, List.forall_mem_cons.mpr ⟨in_1 9 (by decide +kernel) rfl, List.forall_mem_cons.mpr ⟨in_3 82 (by decide +kernel) rfl, List.forall_mem_nil _⟩⟩⟩⟩⟩), by decide +kernel⟩
set_option maxRecDepth 100000 in
theorem okX1_54 : okV RX1 54 yX1_placeFree cX1_placeFree 5 (some .boolean) 3 := ⟨good_l (List.forall_mem_cons.mpr ⟨in_3 95 (by decide +kernel) rfl, List.forall_mem_cons.mpr ⟨in_3 97 (by decide +kernel) rfl, List.forall_mem_cons.mpr ⟨in_s 18 (by decide +kernel) rfl, List.forall_mem_cons.mpr ⟨in_1 9 (by decide +kernel) rfl, List.forall_mem_cons.mpr ⟨in_3 98 (by decide +kernel) rfl, List.forall_mem_nil _⟩⟩⟩⟩⟩), by decide +kernel⟩
set_option maxRecDepth 100000 in
theorem okX1_74 : okV RX1 74 yX1_stateAt cX1_stateAt 2 (some .int) 1 := ⟨good_l (List.forall_mem_cons.mpr ⟨in_3 87 (by decide +kernel) rfl, List.forall_mem_cons.mpr ⟨in_3 89 (by decide +kernel) rfl, List.forall_mem_cons.mpr ⟨in_s 17 (by decide +kernel) rfl, List.forall_mem_cons.mpr ⟨in_1 9 (by decide +kernel) rfl, List.forall_mem_cons.mpr ⟨in_3 90 (by decide +kernel) rfl, List.forall_mem_nil _⟩⟩⟩⟩⟩), by decide +kernel⟩
set_option maxRecDepth 100000 in
theorem flX1_77 : Cond.fieldLink RX1 77 (TX9 3).1 (TX9 3).2.1 (TX9 3).2.2.1 ∈ tbg := in_1 100 (by decide +kernel) rfl
set_option maxRecDepth 100000 in
theorem okX1_80 : okS RX1 80 yX1_slotOf cX1_slotOf 2 (some .int) 2 := ⟨good_l (List.forall_mem_cons.mpr ⟨in_3 91 (by decide +kernel) rfl, List.forall_mem_cons.mpr ⟨in_3 92 (by decide +kernel) rfl, List.forall_mem_cons.mpr ⟨in_1 9 (by decide +kernel) rfl, List.forall_mem_cons.mpr ⟨in_3 93 (by decide +kernel) rfl, List.forall_mem_nil _⟩⟩⟩⟩), by decide +kernel⟩
set_option maxRecDepth 100000 in
theorem okX1_96 : okV RX1 96 yX0_sizeOf cX0_sizeOf 2 (some .int) 1 := ⟨good_l (List.forall_mem_cons.mpr ⟨in_3 107 (by decide +kernel) rfl, List.forall_mem_cons.mpr ⟨in_2 175 (by decide +kernel) rfl, List.forall_mem_cons.mpr ⟨in_2 176 (by decide +kernel) rfl, List.forall_mem_cons.mpr ⟨in_1 4 (by decide +kernel) rfl, List.forall_mem_cons.mpr ⟨in_2 177 (by decide +kernel) rfl, List.forall_mem_nil _⟩⟩⟩⟩⟩), by decide +kernel⟩
set_option maxRecDepth 100000 in
theorem okX1_99 : okV RX1 99 yX0_callAt cX0_callAt 3 (some .int) 2 := ⟨good_l (List.forall_mem_cons.mpr ⟨in_3 108 (by decide +kernel) rfl, List.forall_mem_cons.mpr ⟨in_2 187 (by decide +kernel) rfl, List.forall_mem_cons.mpr ⟨in_2 188 (by decide +kernel) rfl, List.forall_mem_cons.mpr ⟨in_1 4 (by decide +kernel) rfl, List.forall_mem_cons.mpr ⟨in_2 189 (by decide +kernel) rfl, List.forall_mem_nil _⟩⟩⟩⟩⟩), by decide +kernel⟩
set_option maxRecDepth 100000 in
theorem okX1_83 : okN RX1 83 yX10_isCall RX10 cX10_isCall 1 (some .boolean) 1 := ⟨⟨good_l (List.forall_mem_cons.mpr ⟨in_2 196 (by decide +kernel) rfl, List.forall_mem_cons.mpr ⟨in_1 1 (by decide +kernel) rfl, List.forall_mem_cons.mpr ⟨in_2 197 (by decide +kernel) rfl, List.forall_mem_nil _⟩⟩⟩), by decide +kernel⟩, by decide +kernel⟩
set_option maxRecDepth 100000 in
theorem okX1_26 : okV RX1 26 yX0_gatherBinding cX0_gatherBinding 2 none 0 := ⟨good_l (List.forall_mem_cons.mpr ⟨in_3 77 (by decide +kernel) rfl, List.forall_mem_cons.mpr ⟨in_2 215 (by decide +kernel) rfl, List.forall_mem_cons.mpr ⟨in_2 216 (by decide +kernel) rfl, List.forall_mem_cons.mpr ⟨in_1 4 (by decide +kernel) rfl, List.forall_mem_cons.mpr ⟨in_2 217 (by decide +kernel) rfl, List.forall_mem_nil _⟩⟩⟩⟩⟩), by decide +kernel⟩
set_option maxRecDepth 100000 in
theorem okX1_35 : okS RX1 35 yJ7_fill_53178 cJ7_fill_53178 4 none 2 := ⟨good_l (List.forall_mem_cons.mpr ⟨in_3 78 (by decide +kernel) rfl, List.forall_mem_cons.mpr ⟨in_1 176 (by decide +kernel) rfl, List.forall_mem_cons.mpr ⟨in_1 8 (by decide +kernel) rfl, List.forall_mem_cons.mpr ⟨in_1 177 (by decide +kernel) rfl, List.forall_mem_nil _⟩⟩⟩⟩), by decide +kernel⟩
set_option maxRecDepth 100000 in
theorem flX2_18 : Cond.fieldLink RX2 18 (TX2 3).1 (TX2 3).2.1 (TX2 3).2.2.1 ∈ tbg := in_2 85 (by decide +kernel) rfl
set_option maxRecDepth 100000 in
theorem flX2_9 : Cond.fieldLink RX2 9 (TX2 1).1 (TX2 1).2.1 (TX2 1).2.2.1 ∈ tbg := in_2 83 (by decide +kernel) rfl
set_option maxRecDepth 100000 in
theorem flX2_15 : Cond.fieldLink RX2 15 (TX2 2).1 (TX2 2).2.1 (TX2 2).2.2.1 ∈ tbg := in_2 84 (by decide +kernel) rfl
set_option maxRecDepth 100000 in
theorem okX2_59 : okV RX2 59 yX2_isRanked cX2_isRanked 2 (some .boolean) 1 := ⟨good_l (List.forall_mem_cons.mpr ⟨in_4 198 (by decide +kernel) rfl, List.forall_mem_cons.mpr ⟨in_4 200 (by decide +kernel) rfl, List.forall_mem_cons.mpr ⟨in_s 43 (by decide +kernel) rfl, List.forall_mem_cons.mpr ⟨in_1 13 (by decide +kernel) rfl, List.forall_mem_cons.mpr ⟨in_4 201 (by decide +kernel) rfl, List.forall_mem_nil _⟩⟩⟩⟩⟩), by decide +kernel⟩
set_option maxRecDepth 100000 in
theorem okX2_62 : okV RX2 62 yX2_countAhead cX2_countAhead 4 (some .int) 1 := ⟨good_l (List.forall_mem_cons.mpr ⟨in_4 203 (by decide +kernel) rfl, List.forall_mem_cons.mpr ⟨in_4 205 (by decide +kernel) rfl, List.forall_mem_cons.mpr ⟨in_s 44 (by decide +kernel) rfl, List.forall_mem_cons.mpr ⟨in_1 13 (by decide +kernel) rfl, List.forall_mem_cons.mpr ⟨in_4 206 (by decide +kernel) rfl, List.forall_mem_nil _⟩⟩⟩⟩⟩), by decide +kernel⟩
set_option maxRecDepth 100000 in
theorem okX2_68 : okV RX2 68 yX2_isAhead cX2_isAhead 7 (some .boolean) 2 := ⟨good_l (List.forall_mem_cons.mpr ⟨in_4 207 (by decide +kernel) rfl, List.forall_mem_cons.mpr ⟨in_4 209 (by decide +kernel) rfl, List.forall_mem_cons.mpr ⟨in_s 45 (by decide +kernel) rfl, List.forall_mem_cons.mpr ⟨in_1 13 (by decide +kernel) rfl, List.forall_mem_cons.mpr ⟨in_4 210 (by decide +kernel) rfl, List.forall_mem_nil _⟩⟩⟩⟩⟩), by decide +kernel⟩
set_option maxRecDepth 100000 in
theorem okX2_29 : okS RX2 29 yJ7_fill_53178 cJ7_fill_53178 4 none 2 := ⟨good_l (List.forall_mem_cons.mpr ⟨in_4 166 (by decide +kernel) rfl, List.forall_mem_cons.mpr ⟨in_1 176 (by decide +kernel) rfl, List.forall_mem_cons.mpr ⟨in_1 8 (by decide +kernel) rfl, List.forall_mem_cons.mpr ⟨in_1 177 (by decide +kernel) rfl, List.forall_mem_nil _⟩⟩⟩⟩), by decide +kernel⟩
set_option maxRecDepth 100000 in
theorem flX2_21 : Cond.fieldLink RX2 21 (TX2 0).1 (TX2 0).2.1 (TX2 0).2.2.1 ∈ tbg := in_2 82 (by decide +kernel) rfl
set_option maxRecDepth 100000 in
theorem okX2_51 : okV RX2 51 yX0_sizeOf cX0_sizeOf 2 (some .int) 1 := ⟨good_l (List.forall_mem_cons.mpr ⟨in_4 172 (by decide +kernel) rfl, List.forall_mem_cons.mpr ⟨in_2 175 (by decide +kernel) rfl, List.forall_mem_cons.mpr ⟨in_2 176 (by decide +kernel) rfl, List.forall_mem_cons.mpr ⟨in_1 4 (by decide +kernel) rfl, List.forall_mem_cons.mpr ⟨in_2 177 (by decide +kernel) rfl, List.forall_mem_nil _⟩⟩⟩⟩⟩), by decide +kernel⟩
set_option maxRecDepth 100000 in
theorem okX2_55 : okV RX2 55 yX0_callAt cX0_callAt 3 (some .int) 2 := ⟨good_l (List.forall_mem_cons.mpr ⟨in_4 173 (by decide +kernel) rfl, List.forall_mem_cons.mpr ⟨in_2 187 (by decide +kernel) rfl, List.forall_mem_cons.mpr ⟨in_2 188 (by decide +kernel) rfl, List.forall_mem_cons.mpr ⟨in_1 4 (by decide +kernel) rfl, List.forall_mem_cons.mpr ⟨in_2 189 (by decide +kernel) rfl, List.forall_mem_nil _⟩⟩⟩⟩⟩), by decide +kernel⟩
set_option maxRecDepth 100000 in
theorem okX2_25 : okN RX2 25 yX10_isCall RX10 cX10_isCall 1 (some .boolean) 1 := ⟨⟨good_l (List.forall_mem_cons.mpr ⟨in_2 196 (by decide +kernel) rfl, List.forall_mem_cons.mpr ⟨in_1 1 (by decide +kernel) rfl, List.forall_mem_cons.mpr ⟨in_2 197 (by decide +kernel) rfl, List.forall_mem_nil _⟩⟩⟩), by decide +kernel⟩, by decide +kernel⟩
set_option maxRecDepth 100000 in
theorem okX2_65 : okV RX2 65 yX2_having cX2_having 2 (some .int) 1 := ⟨good_l (List.forall_mem_cons.mpr ⟨in_4 202 (by decide +kernel) rfl, List.forall_mem_cons.mpr ⟨in_4 180 (by decide +kernel) rfl, List.forall_mem_cons.mpr ⟨in_4 181 (by decide +kernel) rfl, List.forall_mem_cons.mpr ⟨in_1 13 (by decide +kernel) rfl, List.forall_mem_cons.mpr ⟨in_4 182 (by decide +kernel) rfl, List.forall_mem_nil _⟩⟩⟩⟩⟩), by decide +kernel⟩
set_option maxRecDepth 100000 in
theorem okX2_72 : okV RX2 72 yX2_holding cX2_holding 3 (some .int) 2 := ⟨good_l (List.forall_mem_cons.mpr ⟨in_4 211 (by decide +kernel) rfl, List.forall_mem_cons.mpr ⟨in_4 184 (by decide +kernel) rfl, List.forall_mem_cons.mpr ⟨in_4 185 (by decide +kernel) rfl, List.forall_mem_cons.mpr ⟨in_1 13 (by decide +kernel) rfl, List.forall_mem_cons.mpr ⟨in_4 186 (by decide +kernel) rfl, List.forall_mem_nil _⟩⟩⟩⟩⟩), by decide +kernel⟩
set_option maxRecDepth 100000 in
theorem flX2_35 : Cond.fieldLink RX2 35 (TX0 6).1 (TX0 6).2.1 (TX0 6).2.2.1 ∈ tbg := in_1 69 (by decide +kernel) rfl
set_option maxRecDepth 100000 in
theorem okX2_41 : okV RX2 41 yX0_isRightThere cX0_isRightThere 2 (some .boolean) 1 := ⟨good_l (List.forall_mem_cons.mpr ⟨in_4 167 (by decide +kernel) rfl, List.forall_mem_cons.mpr ⟨in_2 163 (by decide +kernel) rfl, List.forall_mem_cons.mpr ⟨in_2 164 (by decide +kernel) rfl, List.forall_mem_cons.mpr ⟨in_1 4 (by decide +kernel) rfl, List.forall_mem_cons.mpr ⟨in_2 165 (by decide +kernel) rfl, List.forall_mem_nil _⟩⟩⟩⟩⟩), by decide +kernel⟩
set_option maxRecDepth 100000 in
theorem okX2_44 : okV RX2 44 yX2_findLastPlaces cX2_findLastPlaces 5 none 1 := ⟨good_l (List.forall_mem_cons.mpr ⟨in_4 168 (by decide +kernel) rfl, List.forall_mem_cons.mpr ⟨in_4 170 (by decide +kernel) rfl, List.forall_mem_cons.mpr ⟨in_s 41 (by decide +kernel) rfl, List.forall_mem_cons.mpr ⟨in_1 13 (by decide +kernel) rfl, List.forall_mem_cons.mpr ⟨in_4 171 (by decide +kernel) rfl, List.forall_mem_nil _⟩⟩⟩⟩⟩), by decide +kernel⟩
set_option maxRecDepth 100000 in
theorem okX2_48 : okV RX2 48 yX2_addRow cX2_addRow 3 none 0 := ⟨good_l (List.forall_mem_cons.mpr ⟨in_4 175 (by decide +kernel) rfl, List.forall_mem_cons.mpr ⟨in_4 177 (by decide +kernel) rfl, List.forall_mem_cons.mpr ⟨in_s 42 (by decide +kernel) rfl, List.forall_mem_cons.mpr ⟨in_1 13 (by decide +kernel) rfl, List.forall_mem_cons.mpr ⟨in_4 178 (by decide +kernel) rfl, List.forall_mem_nil _⟩⟩⟩⟩⟩), by decide +kernel⟩
set_option maxRecDepth 100000 in
theorem flX3_19 : Cond.fieldLink RX3 19 (TX3 4).1 (TX3 4).2.1 (TX3 4).2.2.1 ∈ tbg := in_2 21 (by decide +kernel) rfl
set_option maxRecDepth 100000 in
theorem flX3_9 : Cond.fieldLink RX3 9 (TX3 2).1 (TX3 2).2.1 (TX3 2).2.2.1 ∈ tbg := in_2 19 (by decide +kernel) rfl
set_option maxRecDepth 100000 in
theorem flX3_37 : Cond.fieldLink RX3 37 (TX3 0).1 (TX3 0).2.1 (TX3 0).2.2.1 ∈ tbg := in_2 17 (by decide +kernel) rfl
set_option maxRecDepth 100000 in
theorem okX3_72 : okV RX3 72 yX8_callAt cX8_callAt 2 (some .int) 1 := ⟨good_l (List.forall_mem_cons.mpr ⟨in_3 154 (by decide +kernel) rfl, List.forall_mem_cons.mpr ⟨in_3 155 (by decide +kernel) rfl, List.forall_mem_cons.mpr ⟨in_3 156 (by decide +kernel) rfl, List.forall_mem_cons.mpr ⟨in_1 10 (by decide +kernel) rfl, List.forall_mem_cons.mpr ⟨in_3 157 (by decide +kernel) rfl, List.forall_mem_nil _⟩⟩⟩⟩⟩), by decide +kernel⟩
set_option maxRecDepth 100000 in
theorem flX3_41 : Cond.fieldLink RX3 41 (TX3 1).1 (TX3 1).2.1 (TX3 1).2.2.1 ∈ tbg := in_2 18 (by decide +kernel) rfl
set_option maxRecDepth 100000 in
theorem okX3_76 : okV RX3 76 yX4_after cX4_after 3 (some .int) 2 := ⟨good_l (List.forall_mem_cons.mpr ⟨in_3 159 (by decide +kernel) rfl, List.forall_mem_cons.mpr ⟨in_3 53 (by decide +kernel) rfl, List.forall_mem_cons.mpr ⟨in_3 54 (by decide +kernel) rfl, List.forall_mem_cons.mpr ⟨in_1 7 (by decide +kernel) rfl, List.forall_mem_cons.mpr ⟨in_3 55 (by decide +kernel) rfl, List.forall_mem_nil _⟩⟩⟩⟩⟩), by decide +kernel⟩
set_option maxRecDepth 100000 in
theorem okX3_58 : okV RX3 58 yX3_meet cX3_meet 4 none 2 := ⟨good_l (List.forall_mem_cons.mpr ⟨in_3 134 (by decide +kernel) rfl, List.forall_mem_cons.mpr ⟨in_3 136 (by decide +kernel) rfl, List.forall_mem_cons.mpr ⟨in_s 23 (by decide +kernel) rfl, List.forall_mem_cons.mpr ⟨in_1 11 (by decide +kernel) rfl, List.forall_mem_cons.mpr ⟨in_3 137 (by decide +kernel) rfl, List.forall_mem_nil _⟩⟩⟩⟩⟩), by decide +kernel⟩
set_option maxRecDepth 100000 in
theorem flX3_54 : Cond.fieldLink RX3 54 (TX3 9).1 (TX3 9).2.1 (TX3 9).2.2.1 ∈ tbg := in_2 27 (by decide +kernel) rfl
set_option maxRecDepth 100000 in
theorem flX3_51 : Cond.fieldLink RX3 51 (TX3 8).1 (TX3 8).2.1 (TX3 8).2.2.1 ∈ tbg := in_2 26 (by decide +kernel) rfl
set_option maxRecDepth 100000 in
theorem okX3_82 : okV RX3 82 yX3_spread cX3_spread 3 none 2 := ⟨good_l (List.forall_mem_cons.mpr ⟨in_3 142 (by decide +kernel) rfl, List.forall_mem_cons.mpr ⟨in_3 144 (by decide +kernel) rfl, List.forall_mem_cons.mpr ⟨in_s 25 (by decide +kernel) rfl, List.forall_mem_cons.mpr ⟨in_1 11 (by decide +kernel) rfl, List.forall_mem_cons.mpr ⟨in_3 145 (by decide +kernel) rfl, List.forall_mem_nil _⟩⟩⟩⟩⟩), by decide +kernel⟩
set_option maxRecDepth 100000 in
theorem flX3_22 : Cond.fieldLink RX3 22 (TX3 5).1 (TX3 5).2.1 (TX3 5).2.2.1 ∈ tbg := in_2 22 (by decide +kernel) rfl
set_option maxRecDepth 100000 in
theorem flX3_25 : Cond.fieldLink RX3 25 (TX3 6).1 (TX3 6).2.1 (TX3 6).2.2.1 ∈ tbg := in_2 23 (by decide +kernel) rfl
set_option maxRecDepth 100000 in
theorem flX3_90 : Cond.fieldLink RX3 90 (TX8 2).1 (TX8 2).2.1 (TX8 2).2.2.1 ∈ tbg := in_1 223 (by decide +kernel) rfl
set_option maxRecDepth 100000 in
theorem flX3_99 : Cond.fieldLink RX3 99 (TX8 1).1 (TX8 1).2.1 (TX8 1).2.2.1 ∈ tbg := in_1 221 (by decide +kernel) rfl
set_option maxRecDepth 100000 in
theorem flX3_96 : Cond.fieldLink RX3 96 (TX8 4).1 (TX8 4).2.1 (TX8 4).2.2.1 ∈ tbg := in_1 227 (by decide +kernel) rfl
set_option maxRecDepth 100000 in
theorem flX3_93 : Cond.fieldLink RX3 93 (TX8 3).1 (TX8 3).2.1 (TX8 3).2.2.1 ∈ tbg := in_1 225 (by decide +kernel) rfl
set_option maxRecDepth 100000 in
theorem flX3_45 : Cond.fieldLink RX3 45 (TX8 7).1 (TX8 7).2.1 (TX8 7).2.2.1 ∈ tbg := in_1 230 (by decide +kernel) rfl
set_option maxRecDepth 100000 in
theorem flX3_15 : Cond.fieldLink RX3 15 (TX3 3).1 (TX3 3).2.1 (TX3 3).2.2.1 ∈ tbg := in_2 20 (by decide +kernel) rfl
set_option maxRecDepth 100000 in
theorem flX3_33 : Cond.fieldLink RX3 33 (TX3 7).1 (TX3 7).2.1 (TX3 7).2.2.1 ∈ tbg := in_2 24 (by decide +kernel) rfl
set_option maxRecDepth 100000 in
theorem flX3_57 : Cond.fieldLink RX3 57 (TX5 1).1 (TX5 1).2.1 (TX5 1).2.2.1 ∈ tbg := in_1 42 (by decide +kernel) rfl
set_option maxRecDepth 100000 in
theorem okX3_62 : okV RX3 62 yX3_closeGroup cX3_closeGroup 5 none 2 := ⟨good_l (List.forall_mem_cons.mpr ⟨in_3 138 (by decide +kernel) rfl, List.forall_mem_cons.mpr ⟨in_3 140 (by decide +kernel) rfl, List.forall_mem_cons.mpr ⟨in_s 24 (by decide +kernel) rfl, List.forall_mem_cons.mpr ⟨in_1 11 (by decide +kernel) rfl, List.forall_mem_cons.mpr ⟨in_3 141 (by decide +kernel) rfl, List.forall_mem_nil _⟩⟩⟩⟩⟩), by decide +kernel⟩
set_option maxRecDepth 100000 in
theorem okX3_65 : okV RX3 65 yX3_breaks cX3_breaks 8 (some .boolean) 2 := ⟨good_l (List.forall_mem_cons.mpr ⟨in_3 150 (by decide +kernel) rfl, List.forall_mem_cons.mpr ⟨in_3 152 (by decide +kernel) rfl, List.forall_mem_cons.mpr ⟨in_s 27 (by decide +kernel) rfl, List.forall_mem_cons.mpr ⟨in_1 11 (by decide +kernel) rfl, List.forall_mem_cons.mpr ⟨in_3 153 (by decide +kernel) rfl, List.forall_mem_nil _⟩⟩⟩⟩⟩), by decide +kernel⟩
set_option maxRecDepth 100000 in
theorem okX3_69 : okV RX3 69 yX3_writeBreak cX3_writeBreak 5 none 2 := ⟨good_l (List.forall_mem_cons.mpr ⟨in_3 160 (by decide +kernel) rfl, List.forall_mem_cons.mpr ⟨in_3 162 (by decide +kernel) rfl, List.forall_mem_cons.mpr ⟨in_s 28 (by decide +kernel) rfl, List.forall_mem_cons.mpr ⟨in_1 11 (by decide +kernel) rfl, List.forall_mem_cons.mpr ⟨in_3 163 (by decide +kernel) rfl, List.forall_mem_nil _⟩⟩⟩⟩⟩), by decide +kernel⟩
set_option maxRecDepth 100000 in
theorem flX3_85 : Cond.fieldLink RX3 85 (TX8 0).1 (TX8 0).2.1 (TX8 0).2.2.1 ∈ tbg := in_1 219 (by decide +kernel) rfl
set_option maxRecDepth 100000 in
theorem okX3_87 : okV RX3 87 yX3_enterBracket cX3_enterBracket 6 none 2 := ⟨good_l (List.forall_mem_cons.mpr ⟨in_3 146 (by decide +kernel) rfl, List.forall_mem_cons.mpr ⟨in_3 148 (by decide +kernel) rfl, List.forall_mem_cons.mpr ⟨in_s 26 (by decide +kernel) rfl, List.forall_mem_cons.mpr ⟨in_1 11 (by decide +kernel) rfl, List.forall_mem_cons.mpr ⟨in_3 149 (by decide +kernel) rfl, List.forall_mem_nil _⟩⟩⟩⟩⟩), by decide +kernel⟩
set_option maxRecDepth 100000 in
theorem okX3_102 : okV RX3 102 yX5_append cX5_append 2 (some .boolean) 1 := ⟨good_l (List.forall_mem_cons.mpr ⟨in_3 164 (by decide +kernel) rfl, List.forall_mem_cons.mpr ⟨in_3 123 (by decide +kernel) rfl, List.forall_mem_cons.mpr ⟨in_3 124 (by decide +kernel) rfl, List.forall_mem_cons.mpr ⟨in_1 2 (by decide +kernel) rfl, List.forall_mem_cons.mpr ⟨in_3 125 (by decide +kernel) rfl, List.forall_mem_nil _⟩⟩⟩⟩⟩), by decide +kernel⟩
set_option maxRecDepth 100000 in
theorem okX3_106 : okV RX3 106 yX5_turnRound cX5_turnRound 4 none 0 := ⟨good_l (List.forall_mem_cons.mpr ⟨in_3 165 (by decide +kernel) rfl, List.forall_mem_cons.mpr ⟨in_3 166 (by decide +kernel) rfl, List.forall_mem_cons.mpr ⟨in_3 167 (by decide +kernel) rfl, List.forall_mem_cons.mpr ⟨in_1 2 (by decide +kernel) rfl, List.forall_mem_cons.mpr ⟨in_3 168 (by decide +kernel) rfl, List.forall_mem_nil _⟩⟩⟩⟩⟩), by decide +kernel⟩
set_option maxRecDepth 100000 in
theorem okX4_28 : okV RX4 28 yX4_hasState cX4_hasState 2 (some .boolean) 1 := ⟨good_l (List.forall_mem_cons.mpr ⟨in_3 38 (by decide +kernel) rfl, List.forall_mem_cons.mpr ⟨in_3 39 (by decide +kernel) rfl, List.forall_mem_cons.mpr ⟨in_3 40 (by decide +kernel) rfl, List.forall_mem_cons.mpr ⟨in_1 7 (by decide +kernel) rfl, List.forall_mem_cons.mpr ⟨in_3 41 (by decide +kernel) rfl, List.forall_mem_nil _⟩⟩⟩⟩⟩), by decide +kernel⟩
set_option maxRecDepth 100000 in
theorem okX4_32 : okN RX4 32 yX10_isCall RX10 cX10_isCall 1 (some .boolean) 1 := ⟨⟨good_l (List.forall_mem_cons.mpr ⟨in_2 196 (by decide +kernel) rfl, List.forall_mem_cons.mpr ⟨in_1 1 (by decide +kernel) rfl, List.forall_mem_cons.mpr ⟨in_2 197 (by decide +kernel) rfl, List.forall_mem_nil _⟩⟩⟩), by decide +kernel⟩, by decide +kernel⟩
set_option maxRecDepth 100000 in
theorem flX4_9 : Cond.fieldLink RX4 9 (TX4 0).1 (TX4 0).2.1 (TX4 0).2.2.1 ∈ tbg := in_1 178 (by decide +kernel) rfl
set_option maxRecDepth 100000 in
theorem okX4_18 : okS RX4 18 yJ7_fill_53178 cJ7_fill_53178 4 none 2 := ⟨good_l (List.forall_mem_cons.mpr ⟨in_1 175 (by decide +kernel) rfl, List.forall_mem_cons.mpr ⟨in_1 176 (by decide +kernel) rfl, List.forall_mem_cons.mpr ⟨in_1 8 (by decide +kernel) rfl, List.forall_mem_cons.mpr ⟨in_1 177 (by decide +kernel) rfl, List.forall_mem_nil _⟩⟩⟩⟩), by decide +kernel⟩
set_option maxRecDepth 100000 in
theorem flX4_15 : Cond.fieldLink RX4 15 (TX4 1).1 (TX4 1).2.1 (TX4 1).2.2.1 ∈ tbg := in_1 179 (by decide +kernel) rfl
set_option maxRecDepth 100000 in
theorem flX4_24 : Cond.fieldLink RX4 24 (TX4 2).1 (TX4 2).2.1 (TX4 2).2.2.1 ∈ tbg := in_1 180 (by decide +kernel) rfl
set_option maxRecDepth 100000 in
theorem flX4_35 : Cond.fieldLink RX4 35 (TX0 6).1 (TX0 6).2.1 (TX0 6).2.2.1 ∈ tbg := in_1 71 (by decide +kernel) rfl
set_option maxRecDepth 100000 in
theorem flX4_40 : Cond.fieldLink RX4 40 (TX9 4).1 (TX9 4).2.1 (TX9 4).2.2.1 ∈ tbg := in_1 102 (by decide +kernel) rfl
set_option maxRecDepth 100000 in
theorem okX4_45 : okV RX4 45 yX4_countRow cX4_countRow 8 none 3 := ⟨good_l (List.forall_mem_cons.mpr ⟨in_3 47 (by decide +kernel) rfl, List.forall_mem_cons.mpr ⟨in_3 49 (by decide +kernel) rfl, List.forall_mem_cons.mpr ⟨in_s 14 (by decide +kernel) rfl, List.forall_mem_cons.mpr ⟨in_1 7 (by decide +kernel) rfl, List.forall_mem_cons.mpr ⟨in_3 50 (by decide +kernel) rfl, List.forall_mem_nil _⟩⟩⟩⟩⟩), by decide +kernel⟩
set_option maxRecDepth 100000 in
theorem okX4_49 : okV RX4 49 yX0_callAt cX0_callAt 3 (some .int) 2 := ⟨good_l (List.forall_mem_cons.mpr ⟨in_3 51 (by decide +kernel) rfl, List.forall_mem_cons.mpr ⟨in_2 187 (by decide +kernel) rfl, List.forall_mem_cons.mpr ⟨in_2 188 (by decide +kernel) rfl, List.forall_mem_cons.mpr ⟨in_1 4 (by decide +kernel) rfl, List.forall_mem_cons.mpr ⟨in_2 189 (by decide +kernel) rfl, List.forall_mem_nil _⟩⟩⟩⟩⟩), by decide +kernel⟩
set_option maxRecDepth 100000 in
theorem okX4_53 : okV RX4 53 yX4_after cX4_after 3 (some .int) 2 := ⟨good_l (List.forall_mem_cons.mpr ⟨in_3 52 (by decide +kernel) rfl, List.forall_mem_cons.mpr ⟨in_3 53 (by decide +kernel) rfl, List.forall_mem_cons.mpr ⟨in_3 54 (by decide +kernel) rfl, List.forall_mem_cons.mpr ⟨in_1 7 (by decide +kernel) rfl, List.forall_mem_cons.mpr ⟨in_3 55 (by decide +kernel) rfl, List.forall_mem_nil _⟩⟩⟩⟩⟩), by decide +kernel⟩
set_option maxRecDepth 100000 in
theorem flX5_21 : Cond.fieldLink RX5 21 (TX5 1).1 (TX5 1).2.1 (TX5 1).2.2.1 ∈ tbg := in_1 39 (by decide +kernel) rfl
set_option maxRecDepth 100000 in
theorem flX5_15 : Cond.fieldLink RX5 15 (TX5 0).1 (TX5 0).2.1 (TX5 0).2.2.1 ∈ tbg := in_1 37 (by decide +kernel) rfl
set_option maxRecDepth 100000 in
theorem okX5_9 : okS RX5 9 yJ9_max_7cf53 cJ9_max_7cf53 2 (some .int) 2 := ⟨good_l (List.forall_mem_cons.mpr ⟨in_1 34 (by decide +kernel) rfl, List.forall_mem_cons.mpr ⟨in_1 35 (by decide +kernel) rfl, List.forall_mem_cons.mpr ⟨in_1 3 (by decide +kernel) rfl, List.forall_mem_cons.mpr ⟨in_1 36 (by decide +kernel) rfl, List.forall_mem_nil _⟩⟩⟩⟩), by decide +kernel⟩
set_option maxRecDepth 100000 in
theorem flX6_97 : Cond.fieldLink RX6 97 (TX6 10).1 (TX6 10).2.1 (TX6 10).2.2.1 ∈ tbg := in_1 139 (by decide +kernel) rfl
set_option maxRecDepth 100000 in
theorem flX6_21 : Cond.fieldLink RX6 21 (TX6 5).1 (TX6 5).2.1 (TX6 5).2.2.1 ∈ tbg := in_1 134 (by decide +kernel) rfl
set_option maxRecDepth 100000 in
theorem flX6_24 : Cond.fieldLink RX6 24 (TX6 6).1 (TX6 6).2.1 (TX6 6).2.2.1 ∈ tbg := in_1 135 (by decide +kernel) rfl
set_option maxRecDepth 100000 in
theorem flX6_9 : Cond.fieldLink RX6 9 (TX6 2).1 (TX6 2).2.1 (TX6 2).2.2.1 ∈ tbg := in_1 131 (by decide +kernel) rfl
set_option maxRecDepth 100000 in
theorem flX6_15 : Cond.fieldLink RX6 15 (TX6 3).1 (TX6 3).2.1 (TX6 3).2.2.1 ∈ tbg := in_1 132 (by decide +kernel) rfl
set_option maxRecDepth 100000 in
theorem flX6_18 : Cond.fieldLink RX6 18 (TX6 4).1 (TX6 4).2.1 (TX6 4).2.2.1 ∈ tbg := in_1 133 (by decide +kernel) rfl
set_option maxRecDepth 100000 in
theorem flX6_27 : Cond.fieldLink RX6 27 (TX6 7).1 (TX6 7).2.1 (TX6 7).2.2.1 ∈ tbg := in_1 136 (by decide +kernel) rfl
set_option maxRecDepth 100000 in
theorem flX6_30 : Cond.fieldLink RX6 30 (TX6 8).1 (TX6 8).2.1 (TX6 8).2.2.1 ∈ tbg := in_1 137 (by decide +kernel) rfl
set_option maxRecDepth 100000 in
theorem flX6_33 : Cond.fieldLink RX6 33 (TX6 0).1 (TX6 0).2.1 (TX6 0).2.2.1 ∈ tbg := in_1 129 (by decide +kernel) rfl
set_option maxRecDepth 100000 in
theorem flX6_37 : Cond.fieldLink RX6 37 (TX6 1).1 (TX6 1).2.1 (TX6 1).2.2.1 ∈ tbg := in_1 130 (by decide +kernel) rfl
set_option maxRecDepth 100000 in
theorem flX6_91 : Cond.fieldLink RX6 91 (TX6 11).1 (TX6 11).2.1 (TX6 11).2.2.1 ∈ tbg := in_1 140 (by decide +kernel) rfl
set_option maxRecDepth 100000 in
theorem flX6_114 : Cond.fieldLink RX6 114 (TX9 1).1 (TX9 1).2.1 (TX9 1).2.2.1 ∈ tbg := in_1 96 (by decide +kernel) rfl
set_option maxRecDepth 100000 in
theorem okX6_100 : okV RX6 100 yX6_addPair cX6_addPair 3 none 2 := ⟨good_l (List.forall_mem_cons.mpr ⟨in_2 231 (by decide +kernel) rfl, List.forall_mem_cons.mpr ⟨in_2 233 (by decide +kernel) rfl, List.forall_mem_cons.mpr ⟨in_s 7 (by decide +kernel) rfl, List.forall_mem_cons.mpr ⟨in_1 6 (by decide +kernel) rfl, List.forall_mem_cons.mpr ⟨in_2 234 (by decide +kernel) rfl, List.forall_mem_nil _⟩⟩⟩⟩⟩), by decide +kernel⟩
set_option maxRecDepth 100000 in
theorem flX6_94 : Cond.fieldLink RX6 94 (TX6 12).1 (TX6 12).2.1 (TX6 12).2.2.1 ∈ tbg := in_1 141 (by decide +kernel) rfl
set_option maxRecDepth 100000 in
theorem okX6_69 : okV RX6 69 yX6_standing cX6_standing 4 (some .int) 1 := ⟨good_l (List.forall_mem_cons.mpr ⟨in_2 235 (by decide +kernel) rfl, List.forall_mem_cons.mpr ⟨in_2 237 (by decide +kernel) rfl, List.forall_mem_cons.mpr ⟨in_s 8 (by decide +kernel) rfl, List.forall_mem_cons.mpr ⟨in_1 6 (by decide +kernel) rfl, List.forall_mem_cons.mpr ⟨in_2 238 (by decide +kernel) rfl, List.forall_mem_nil _⟩⟩⟩⟩⟩), by decide +kernel⟩
set_option maxRecDepth 100000 in
theorem okX6_103 : okS RX6 103 yJ9_min_7cf53 cJ9_min_7cf53 2 (some .int) 2 := ⟨good_l (List.forall_mem_cons.mpr ⟨in_2 239 (by decide +kernel) rfl, List.forall_mem_cons.mpr ⟨in_3 0 (by decide +kernel) rfl, List.forall_mem_cons.mpr ⟨in_1 3 (by decide +kernel) rfl, List.forall_mem_cons.mpr ⟨in_3 1 (by decide +kernel) rfl, List.forall_mem_nil _⟩⟩⟩⟩), by decide +kernel⟩
set_option maxRecDepth 100000 in
theorem okX6_108 : okS RX6 108 yJ9_max_7cf53 cJ9_max_7cf53 2 (some .int) 2 := ⟨good_l (List.forall_mem_cons.mpr ⟨in_3 2 (by decide +kernel) rfl, List.forall_mem_cons.mpr ⟨in_1 35 (by decide +kernel) rfl, List.forall_mem_cons.mpr ⟨in_1 3 (by decide +kernel) rfl, List.forall_mem_cons.mpr ⟨in_1 36 (by decide +kernel) rfl, List.forall_mem_nil _⟩⟩⟩⟩), by decide +kernel⟩
set_option maxRecDepth 100000 in
theorem okX6_111 : okV RX6 111 yX6_join cX6_join 6 none 2 := ⟨good_l (List.forall_mem_cons.mpr ⟨in_3 3 (by decide +kernel) rfl, List.forall_mem_cons.mpr ⟨in_3 5 (by decide +kernel) rfl, List.forall_mem_cons.mpr ⟨in_s 9 (by decide +kernel) rfl, List.forall_mem_cons.mpr ⟨in_1 6 (by decide +kernel) rfl, List.forall_mem_cons.mpr ⟨in_3 6 (by decide +kernel) rfl, List.forall_mem_nil _⟩⟩⟩⟩⟩), by decide +kernel⟩
set_option maxRecDepth 100000 in
theorem okX6_41 : okV RX6 41 yX0_gatherBinding cX0_gatherBinding 2 none 0 := ⟨good_l (List.forall_mem_cons.mpr ⟨in_2 214 (by decide +kernel) rfl, List.forall_mem_cons.mpr ⟨in_2 215 (by decide +kernel) rfl, List.forall_mem_cons.mpr ⟨in_2 216 (by decide +kernel) rfl, List.forall_mem_cons.mpr ⟨in_1 4 (by decide +kernel) rfl, List.forall_mem_cons.mpr ⟨in_2 217 (by decide +kernel) rfl, List.forall_mem_nil _⟩⟩⟩⟩⟩), by decide +kernel⟩
set_option maxRecDepth 100000 in
theorem flX6_46 : Cond.fieldLink RX6 46 (TX9 6).1 (TX9 6).2.1 (TX9 6).2.2.1 ∈ tbg := in_1 104 (by decide +kernel) rfl
set_option maxRecDepth 100000 in
theorem flX6_52 : Cond.fieldLink RX6 52 (TX6 9).1 (TX6 9).2.1 (TX6 9).2.2.1 ∈ tbg := in_1 138 (by decide +kernel) rfl
set_option maxRecDepth 100000 in
theorem okX6_55 : okV RX6 55 yX6_meltsWithKept cX6_meltsWithKept 3 (some .boolean) 1 := ⟨good_l (List.forall_mem_cons.mpr ⟨in_2 223 (by decide +kernel) rfl, List.forall_mem_cons.mpr ⟨in_2 225 (by decide +kernel) rfl, List.forall_mem_cons.mpr ⟨in_s 5 (by decide +kernel) rfl, List.forall_mem_cons.mpr ⟨in_1 6 (by decide +kernel) rfl, List.forall_mem_cons.mpr ⟨in_2 226 (by decide +kernel) rfl, List.forall_mem_nil _⟩⟩⟩⟩⟩), by decide +kernel⟩
set_option maxRecDepth 100000 in
theorem okX6_77 : okV RX6 77 yX6_melt cX6_melt 6 none 2 := ⟨good_l (List.forall_mem_cons.mpr ⟨in_2 227 (by decide +kernel) rfl, List.forall_mem_cons.mpr ⟨in_2 229 (by decide +kernel) rfl, List.forall_mem_cons.mpr ⟨in_s 6 (by decide +kernel) rfl, List.forall_mem_cons.mpr ⟨in_1 6 (by decide +kernel) rfl, List.forall_mem_cons.mpr ⟨in_2 230 (by decide +kernel) rfl, List.forall_mem_nil _⟩⟩⟩⟩⟩), by decide +kernel⟩
set_option maxRecDepth 100000 in
theorem okX6_81 : okV RX6 81 yX6_takesBindingRow cX6_takesBindingRow 2 (some .boolean) 0 := ⟨good_l (List.forall_mem_cons.mpr ⟨in_3 7 (by decide +kernel) rfl, List.forall_mem_cons.mpr ⟨in_3 9 (by decide +kernel) rfl, List.forall_mem_cons.mpr ⟨in_s 10 (by decide +kernel) rfl, List.forall_mem_cons.mpr ⟨in_1 6 (by decide +kernel) rfl, List.forall_mem_cons.mpr ⟨in_3 10 (by decide +kernel) rfl, List.forall_mem_nil _⟩⟩⟩⟩⟩), by decide +kernel⟩
set_option maxRecDepth 100000 in
theorem okX6_85 : okV RX6 85 yX6_shortenWays cX6_shortenWays 2 none 0 := ⟨good_l (List.forall_mem_cons.mpr ⟨in_3 18 (by decide +kernel) rfl, List.forall_mem_cons.mpr ⟨in_3 20 (by decide +kernel) rfl, List.forall_mem_cons.mpr ⟨in_s 12 (by decide +kernel) rfl, List.forall_mem_cons.mpr ⟨in_1 6 (by decide +kernel) rfl, List.forall_mem_cons.mpr ⟨in_3 21 (by decide +kernel) rfl, List.forall_mem_nil _⟩⟩⟩⟩⟩), by decide +kernel⟩
set_option maxRecDepth 100000 in
theorem okX6_88 : okV RX6 88 yX6_takeBack cX6_takeBack 3 none 0 := ⟨good_l (List.forall_mem_cons.mpr ⟨in_3 22 (by decide +kernel) rfl, List.forall_mem_cons.mpr ⟨in_3 24 (by decide +kernel) rfl, List.forall_mem_cons.mpr ⟨in_s 13 (by decide +kernel) rfl, List.forall_mem_cons.mpr ⟨in_1 6 (by decide +kernel) rfl, List.forall_mem_cons.mpr ⟨in_3 25 (by decide +kernel) rfl, List.forall_mem_nil _⟩⟩⟩⟩⟩), by decide +kernel⟩
set_option maxRecDepth 100000 in
theorem flX6_117 : Cond.fieldLink RX6 117 (TX0 5).1 (TX0 5).2.1 (TX0 5).2.2.1 ∈ tbg := in_1 66 (by decide +kernel) rfl
set_option maxRecDepth 100000 in
theorem flX6_120 : Cond.fieldLink RX6 120 (TX0 4).1 (TX0 4).2.1 (TX0 4).2.2.1 ∈ tbg := in_1 64 (by decide +kernel) rfl
set_option maxRecDepth 100000 in
theorem okX6_123 : okV RX6 123 yX6_takesRow cX6_takesRow 5 (some .boolean) 1 := ⟨good_l (List.forall_mem_cons.mpr ⟨in_3 11 (by decide +kernel) rfl, List.forall_mem_cons.mpr ⟨in_3 13 (by decide +kernel) rfl, List.forall_mem_cons.mpr ⟨in_s 11 (by decide +kernel) rfl, List.forall_mem_cons.mpr ⟨in_1 6 (by decide +kernel) rfl, List.forall_mem_cons.mpr ⟨in_3 14 (by decide +kernel) rfl, List.forall_mem_nil _⟩⟩⟩⟩⟩), by decide +kernel⟩
set_option maxRecDepth 100000 in
theorem okX6_126 : okV RX6 126 yX0_sizeOf cX0_sizeOf 2 (some .int) 1 := ⟨good_l (List.forall_mem_cons.mpr ⟨in_3 15 (by decide +kernel) rfl, List.forall_mem_cons.mpr ⟨in_2 175 (by decide +kernel) rfl, List.forall_mem_cons.mpr ⟨in_2 176 (by decide +kernel) rfl, List.forall_mem_cons.mpr ⟨in_1 4 (by decide +kernel) rfl, List.forall_mem_cons.mpr ⟨in_2 177 (by decide +kernel) rfl, List.forall_mem_nil _⟩⟩⟩⟩⟩), by decide +kernel⟩
set_option maxRecDepth 100000 in
theorem okX6_129 : okV RX6 129 yX0_callAt cX0_callAt 3 (some .int) 2 := ⟨good_l (List.forall_mem_cons.mpr ⟨in_3 16 (by decide +kernel) rfl, List.forall_mem_cons.mpr ⟨in_2 187 (by decide +kernel) rfl, List.forall_mem_cons.mpr ⟨in_2 188 (by decide +kernel) rfl, List.forall_mem_cons.mpr ⟨in_1 4 (by decide +kernel) rfl, List.forall_mem_cons.mpr ⟨in_2 189 (by decide +kernel) rfl, List.forall_mem_nil _⟩⟩⟩⟩⟩), by decide +kernel⟩
set_option maxRecDepth 100000 in
theorem okX6_65 : okV RX6 65 yX9_childOf cX9_childOf 3 (some .int) 2 := ⟨good_l (List.forall_mem_cons.mpr ⟨in_3 17 (by decide +kernel) rfl, List.forall_mem_cons.mpr ⟨in_2 207 (by decide +kernel) rfl, List.forall_mem_cons.mpr ⟨in_2 208 (by decide +kernel) rfl, List.forall_mem_cons.mpr ⟨in_1 5 (by decide +kernel) rfl, List.forall_mem_cons.mpr ⟨in_2 209 (by decide +kernel) rfl, List.forall_mem_nil _⟩⟩⟩⟩⟩), by decide +kernel⟩
set_option maxRecDepth 100000 in
theorem okX6_59 : okV RX6 59 yX4_clear cX4_clear 2 none 1 := ⟨good_l (List.forall_mem_cons.mpr ⟨in_3 30 (by decide +kernel) rfl, List.forall_mem_cons.mpr ⟨in_3 31 (by decide +kernel) rfl, List.forall_mem_cons.mpr ⟨in_3 32 (by decide +kernel) rfl, List.forall_mem_cons.mpr ⟨in_1 7 (by decide +kernel) rfl, List.forall_mem_cons.mpr ⟨in_3 33 (by decide +kernel) rfl, List.forall_mem_nil _⟩⟩⟩⟩⟩), by decide +kernel⟩
set_option maxRecDepth 100000 in
theorem okX6_73 : okV RX6 73 yX4_setStep cX4_setStep 4 none 3 := ⟨good_l (List.forall_mem_cons.mpr ⟨in_3 34 (by decide +kernel) rfl, List.forall_mem_cons.mpr ⟨in_3 35 (by decide +kernel) rfl, List.forall_mem_cons.mpr ⟨in_3 36 (by decide +kernel) rfl, List.forall_mem_cons.mpr ⟨in_1 7 (by decide +kernel) rfl, List.forall_mem_cons.mpr ⟨in_3 37 (by decide +kernel) rfl, List.forall_mem_nil _⟩⟩⟩⟩⟩), by decide +kernel⟩
set_option maxRecDepth 100000 in
theorem flX7_9 : Cond.fieldLink RX7 9 (TX7 2).1 (TX7 2).2.1 (TX7 2).2.2.1 ∈ tbg := in_2 59 (by decide +kernel) rfl
set_option maxRecDepth 100000 in
theorem flX7_27 : Cond.fieldLink RX7 27 (TX7 1).1 (TX7 1).2.1 (TX7 1).2.2.1 ∈ tbg := in_2 58 (by decide +kernel) rfl
set_option maxRecDepth 100000 in
theorem flX7_24 : Cond.fieldLink RX7 24 (TX7 0).1 (TX7 0).2.1 (TX7 0).2.2.1 ∈ tbg := in_2 57 (by decide +kernel) rfl
set_option maxRecDepth 100000 in
theorem okX7_45 : okV RX7 45 yX5_at cX5_at 2 (some .int) 1 := ⟨good_l (List.forall_mem_cons.mpr ⟨in_3 194 (by decide +kernel) rfl, List.forall_mem_cons.mpr ⟨in_2 138 (by decide +kernel) rfl, List.forall_mem_cons.mpr ⟨in_2 139 (by decide +kernel) rfl, List.forall_mem_cons.mpr ⟨in_1 2 (by decide +kernel) rfl, List.forall_mem_cons.mpr ⟨in_2 140 (by decide +kernel) rfl, List.forall_mem_nil _⟩⟩⟩⟩⟩), by decide +kernel⟩
set_option maxRecDepth 100000 in
theorem okX7_75 : okV RX7 75 yX4_after cX4_after 3 (some .int) 2 := ⟨good_l (List.forall_mem_cons.mpr ⟨in_3 195 (by decide +kernel) rfl, List.forall_mem_cons.mpr ⟨in_3 53 (by decide +kernel) rfl, List.forall_mem_cons.mpr ⟨in_3 54 (by decide +kernel) rfl, List.forall_mem_cons.mpr ⟨in_1 7 (by decide +kernel) rfl, List.forall_mem_cons.mpr ⟨in_3 55 (by decide +kernel) rfl, List.forall_mem_nil _⟩⟩⟩⟩⟩), by decide +kernel⟩
set_option maxRecDepth 100000 in
theorem okX7_41 : okV RX7 41 yX7_costFrom cX7_costFrom 3 (some .int) 2 := ⟨good_l (List.forall_mem_cons.mpr ⟨in_3 186 (by decide +kernel) rfl, List.forall_mem_cons.mpr ⟨in_3 188 (by decide +kernel) rfl, List.forall_mem_cons.mpr ⟨in_s 30 (by decide +kernel) rfl, List.forall_mem_cons.mpr ⟨in_1 12 (by decide +kernel) rfl, List.forall_mem_cons.mpr ⟨in_3 189 (by decide +kernel) rfl, List.forall_mem_nil _⟩⟩⟩⟩⟩), by decide +kernel⟩
set_option maxRecDepth 100000 in
theorem flX7_82 : Cond.fieldLink RX7 82 (TX7 4).1 (TX7 4).2.1 (TX7 4).2.2.1 ∈ tbg := in_2 61 (by decide +kernel) rfl
set_option maxRecDepth 100000 in
theorem flX7_85 : Cond.fieldLink RX7 85 (TX7 5).1 (TX7 5).2.1 (TX7 5).2.2.1 ∈ tbg := in_2 62 (by decide +kernel) rfl
set_option maxRecDepth 100000 in
theorem flX7_20 : Cond.fieldLink RX7 20 (TX7 3).1 (TX7 3).2.1 (TX7 3).2.2.1 ∈ tbg := in_2 60 (by decide +kernel) rfl
set_option maxRecDepth 100000 in
theorem flX7_37 : Cond.fieldLink RX7 37 (TX5 1).1 (TX5 1).2.1 (TX5 1).2.2.1 ∈ tbg := in_1 40 (by decide +kernel) rfl
set_option maxRecDepth 100000 in
theorem okX7_88 : okV RX7 88 yX7_goOneOn cX7_goOneOn 3 none 1 := ⟨good_l (List.forall_mem_cons.mpr ⟨in_3 209 (by decide +kernel) rfl, List.forall_mem_cons.mpr ⟨in_3 211 (by decide +kernel) rfl, List.forall_mem_cons.mpr ⟨in_s 35 (by decide +kernel) rfl, List.forall_mem_cons.mpr ⟨in_1 12 (by decide +kernel) rfl, List.forall_mem_cons.mpr ⟨in_3 212 (by decide +kernel) rfl, List.forall_mem_nil _⟩⟩⟩⟩⟩), by decide +kernel⟩
set_option maxRecDepth 100000 in
theorem okX7_64 : okV RX7 64 yX7_costKeeping cX7_costKeeping 4 (some .int) 2 := ⟨good_l (List.forall_mem_cons.mpr ⟨in_3 190 (by decide +kernel) rfl, List.forall_mem_cons.mpr ⟨in_3 192 (by decide +kernel) rfl, List.forall_mem_cons.mpr ⟨in_s 31 (by decide +kernel) rfl, List.forall_mem_cons.mpr ⟨in_1 12 (by decide +kernel) rfl, List.forall_mem_cons.mpr ⟨in_3 193 (by decide +kernel) rfl, List.forall_mem_nil _⟩⟩⟩⟩⟩), by decide +kernel⟩
set_option maxRecDepth 100000 in
theorem okX7_91 : okV RX7 91 yX7_make cX7_make 2 none 1 := ⟨good_l (List.forall_mem_cons.mpr ⟨in_3 213 (by decide +kernel) rfl, List.forall_mem_cons.mpr ⟨in_3 215 (by decide +kernel) rfl, List.forall_mem_cons.mpr ⟨in_s 36 (by decide +kernel) rfl, List.forall_mem_cons.mpr ⟨in_1 12 (by decide +kernel) rfl, List.forall_mem_cons.mpr ⟨in_3 216 (by decide +kernel) rfl, List.forall_mem_nil _⟩⟩⟩⟩⟩), by decide +kernel⟩
set_option maxRecDepth 100000 in
theorem okX7_78 : okV RX7 78 yX7_costPutting cX7_costPutting 5 (some .int) 3 := ⟨good_l (List.forall_mem_cons.mpr ⟨in_3 201 (by decide +kernel) rfl, List.forall_mem_cons.mpr ⟨in_3 203 (by decide +kernel) rfl, List.forall_mem_cons.mpr ⟨in_s 33 (by decide +kernel) rfl, List.forall_mem_cons.mpr ⟨in_1 12 (by decide +kernel) rfl, List.forall_mem_cons.mpr ⟨in_3 204 (by decide +kernel) rfl, List.forall_mem_nil _⟩⟩⟩⟩⟩), by decide +kernel⟩
set_option maxRecDepth 100000 in
theorem flX7_59 : Cond.fieldLink RX7 59 (TX4 2).1 (TX4 2).2.1 (TX4 2).2.2.1 ∈ tbg := in_1 181 (by decide +kernel) rfl
set_option maxRecDepth 100000 in
theorem okX7_49 : okV RX7 49 yX5_append cX5_append 2 (some .boolean) 1 := ⟨good_l (List.forall_mem_cons.mpr ⟨in_3 217 (by decide +kernel) rfl, List.forall_mem_cons.mpr ⟨in_3 123 (by decide +kernel) rfl, List.forall_mem_cons.mpr ⟨in_3 124 (by decide +kernel) rfl, List.forall_mem_cons.mpr ⟨in_1 2 (by decide +kernel) rfl, List.forall_mem_cons.mpr ⟨in_3 125 (by decide +kernel) rfl, List.forall_mem_nil _⟩⟩⟩⟩⟩), by decide +kernel⟩
set_option maxRecDepth 100000 in
theorem okX7_31 : okV RX7 31 yX7_reckonCosts cX7_reckonCosts 5 none 0 := ⟨good_l (List.forall_mem_cons.mpr ⟨in_3 181 (by decide +kernel) rfl, List.forall_mem_cons.mpr ⟨in_3 183 (by decide +kernel) rfl, List.forall_mem_cons.mpr ⟨in_s 29 (by decide +kernel) rfl, List.forall_mem_cons.mpr ⟨in_1 12 (by decide +kernel) rfl, List.forall_mem_cons.mpr ⟨in_3 184 (by decide +kernel) rfl, List.forall_mem_nil _⟩⟩⟩⟩⟩), by decide +kernel⟩
set_option maxRecDepth 100000 in
theorem okX7_34 : okV RX7 34 yX7_goCheapestWay cX7_goCheapestWay 2 none 0 := ⟨good_l (List.forall_mem_cons.mpr ⟨in_3 205 (by decide +kernel) rfl, List.forall_mem_cons.mpr ⟨in_3 207 (by decide +kernel) rfl, List.forall_mem_cons.mpr ⟨in_s 34 (by decide +kernel) rfl, List.forall_mem_cons.mpr ⟨in_1 12 (by decide +kernel) rfl, List.forall_mem_cons.mpr ⟨in_3 208 (by decide +kernel) rfl, List.forall_mem_nil _⟩⟩⟩⟩⟩), by decide +kernel⟩
set_option maxRecDepth 100000 in
theorem okX7_53 : okS RX7 53 yJ7_fill_53178 cJ7_fill_53178 4 none 2 := ⟨good_l (List.forall_mem_cons.mpr ⟨in_3 185 (by decide +kernel) rfl, List.forall_mem_cons.mpr ⟨in_1 176 (by decide +kernel) rfl, List.forall_mem_cons.mpr ⟨in_1 8 (by decide +kernel) rfl, List.forall_mem_cons.mpr ⟨in_1 177 (by decide +kernel) rfl, List.forall_mem_nil _⟩⟩⟩⟩), by decide +kernel⟩
set_option maxRecDepth 100000 in
theorem okX7_67 : okS RX7 67 yJ9_min_7cf53 cJ9_min_7cf53 2 (some .int) 2 := ⟨good_l (List.forall_mem_cons.mpr ⟨in_3 196 (by decide +kernel) rfl, List.forall_mem_cons.mpr ⟨in_3 0 (by decide +kernel) rfl, List.forall_mem_cons.mpr ⟨in_1 3 (by decide +kernel) rfl, List.forall_mem_cons.mpr ⟨in_3 1 (by decide +kernel) rfl, List.forall_mem_nil _⟩⟩⟩⟩), by decide +kernel⟩
set_option maxRecDepth 100000 in
theorem okX7_72 : okV RX7 72 yX7_lowerByPutting cX7_lowerByPutting 6 (some .boolean) 1 := ⟨good_l (List.forall_mem_cons.mpr ⟨in_3 197 (by decide +kernel) rfl, List.forall_mem_cons.mpr ⟨in_3 199 (by decide +kernel) rfl, List.forall_mem_cons.mpr ⟨in_s 32 (by decide +kernel) rfl, List.forall_mem_cons.mpr ⟨in_1 12 (by decide +kernel) rfl, List.forall_mem_cons.mpr ⟨in_3 200 (by decide +kernel) rfl, List.forall_mem_nil _⟩⟩⟩⟩⟩), by decide +kernel⟩
set_option maxRecDepth 100000 in
theorem flX8_38 : Cond.fieldLink RX8 38 (TX8 7).1 (TX8 7).2.1 (TX8 7).2.2.1 ∈ tbg := in_1 231 (by decide +kernel) rfl
set_option maxRecDepth 100000 in
theorem flX8_9 : Cond.fieldLink RX8 9 (TX8 0).1 (TX8 0).2.1 (TX8 0).2.2.1 ∈ tbg := in_1 218 (by decide +kernel) rfl
set_option maxRecDepth 100000 in
theorem okX8_49 : okN RX8 49 yX10_isCall RX10 cX10_isCall 1 (some .boolean) 1 := ⟨⟨good_l (List.forall_mem_cons.mpr ⟨in_2 196 (by decide +kernel) rfl, List.forall_mem_cons.mpr ⟨in_1 1 (by decide +kernel) rfl, List.forall_mem_cons.mpr ⟨in_2 197 (by decide +kernel) rfl, List.forall_mem_nil _⟩⟩⟩), by decide +kernel⟩, by decide +kernel⟩
set_option maxRecDepth 100000 in
theorem flX8_18 : Cond.fieldLink RX8 18 (TX8 2).1 (TX8 2).2.1 (TX8 2).2.2.1 ∈ tbg := in_1 222 (by decide +kernel) rfl
set_option maxRecDepth 100000 in
theorem flX8_15 : Cond.fieldLink RX8 15 (TX8 1).1 (TX8 1).2.1 (TX8 1).2.2.1 ∈ tbg := in_1 220 (by decide +kernel) rfl
set_option maxRecDepth 100000 in
theorem flX8_24 : Cond.fieldLink RX8 24 (TX8 4).1 (TX8 4).2.1 (TX8 4).2.2.1 ∈ tbg := in_1 226 (by decide +kernel) rfl
set_option maxRecDepth 100000 in
theorem flX8_21 : Cond.fieldLink RX8 21 (TX8 3).1 (TX8 3).2.1 (TX8 3).2.2.1 ∈ tbg := in_1 224 (by decide +kernel) rfl
set_option maxRecDepth 100000 in
theorem okX8_34 : okS RX8 34 yX8_mayStand cX8_mayStand 3 (some .boolean) 3 := ⟨good_l (List.forall_mem_cons.mpr ⟨in_4 140 (by decide +kernel) rfl, List.forall_mem_cons.mpr ⟨in_4 141 (by decide +kernel) rfl, List.forall_mem_cons.mpr ⟨in_1 10 (by decide +kernel) rfl, List.forall_mem_cons.mpr ⟨in_4 142 (by decide +kernel) rfl, List.forall_mem_nil _⟩⟩⟩⟩), by decide +kernel⟩
set_option maxRecDepth 100000 in
theorem flX8_28 : Cond.fieldLink RX8 28 (TX8 5).1 (TX8 5).2.1 (TX8 5).2.2.1 ∈ tbg := in_1 228 (by decide +kernel) rfl
set_option maxRecDepth 100000 in
theorem flX8_31 : Cond.fieldLink RX8 31 (TX8 6).1 (TX8 6).2.1 (TX8 6).2.2.1 ∈ tbg := in_1 229 (by decide +kernel) rfl
set_option maxRecDepth 100000 in
theorem okX8_42 : okV RX8 42 yX8_endS cX8_endS 3 none 2 := ⟨good_l (List.forall_mem_cons.mpr ⟨in_4 147 (by decide +kernel) rfl, List.forall_mem_cons.mpr ⟨in_4 149 (by decide +kernel) rfl, List.forall_mem_cons.mpr ⟨in_s 39 (by decide +kernel) rfl, List.forall_mem_cons.mpr ⟨in_1 10 (by decide +kernel) rfl, List.forall_mem_cons.mpr ⟨in_4 150 (by decide +kernel) rfl, List.forall_mem_nil _⟩⟩⟩⟩⟩), by decide +kernel⟩
set_option maxRecDepth 100000 in
theorem okX8_46 : okV RX8 46 yX8_closeBracket cX8_closeBracket 5 none 2 := ⟨good_l (List.forall_mem_cons.mpr ⟨in_4 151 (by decide +kernel) rfl, List.forall_mem_cons.mpr ⟨in_4 153 (by decide +kernel) rfl, List.forall_mem_cons.mpr ⟨in_s 40 (by decide +kernel) rfl, List.forall_mem_cons.mpr ⟨in_1 10 (by decide +kernel) rfl, List.forall_mem_cons.mpr ⟨in_4 154 (by decide +kernel) rfl, List.forall_mem_nil _⟩⟩⟩⟩⟩), by decide +kernel⟩
set_option maxRecDepth 100000 in
theorem flX9_31 : Cond.fieldLink RX9 31 (TX9 6).1 (TX9 6).2.1 (TX9 6).2.2.1 ∈ tbg := in_1 105 (by decide +kernel) rfl
set_option maxRecDepth 100000 in
theorem flX9_15 : Cond.fieldLink RX9 15 (TX9 2).1 (TX9 2).2.1 (TX9 2).2.2.1 ∈ tbg := in_1 97 (by decide +kernel) rfl
set_option maxRecDepth 100000 in
theorem flX9_18 : Cond.fieldLink RX9 18 (TX9 3).1 (TX9 3).2.1 (TX9 3).2.2.1 ∈ tbg := in_1 99 (by decide +kernel) rfl
set_option maxRecDepth 100000 in
theorem flX9_9 : Cond.fieldLink RX9 9 (TX9 1).1 (TX9 1).2.1 (TX9 1).2.2.1 ∈ tbg := in_1 95 (by decide +kernel) rfl
set_option maxRecDepth 100000 in
theorem flX9_24 : Cond.fieldLink RX9 24 (TX9 5).1 (TX9 5).2.1 (TX9 5).2.2.1 ∈ tbg := in_1 103 (by decide +kernel) rfl
set_option maxRecDepth 100000 in
theorem flX9_27 : Cond.fieldLink RX9 27 (TX9 0).1 (TX9 0).2.1 (TX9 0).2.2.1 ∈ tbg := in_1 94 (by decide +kernel) rfl
set_option maxRecDepth 100000 in
theorem okX9_60 : okV RX9 60 yX0_callAt cX0_callAt 3 (some .int) 2 := ⟨good_l (List.forall_mem_cons.mpr ⟨in_2 194 (by decide +kernel) rfl, List.forall_mem_cons.mpr ⟨in_2 187 (by decide +kernel) rfl, List.forall_mem_cons.mpr ⟨in_2 188 (by decide +kernel) rfl, List.forall_mem_cons.mpr ⟨in_1 4 (by decide +kernel) rfl, List.forall_mem_cons.mpr ⟨in_2 189 (by decide +kernel) rfl, List.forall_mem_nil _⟩⟩⟩⟩⟩), by decide +kernel⟩
set_option maxRecDepth 100000 in
theorem flX9_21 : Cond.fieldLink RX9 21 (TX9 4).1 (TX9 4).2.1 (TX9 4).2.2.1 ∈ tbg := in_1 101 (by decide +kernel) rfl
set_option maxRecDepth 100000 in
theorem okX9_63 : okN RX9 63 yX10_isCall RX10 cX10_isCall 1 (some .boolean) 1 := ⟨⟨good_l (List.forall_mem_cons.mpr ⟨in_2 196 (by decide +kernel) rfl, List.forall_mem_cons.mpr ⟨in_1 1 (by decide +kernel) rfl, List.forall_mem_cons.mpr ⟨in_2 197 (by decide +kernel) rfl, List.forall_mem_nil _⟩⟩⟩), by decide +kernel⟩, by decide +kernel⟩
set_option maxRecDepth 100000 in
theorem okX9_66 : okV RX9 66 yX9_childOf cX9_childOf 3 (some .int) 2 := ⟨good_l (List.forall_mem_cons.mpr ⟨in_2 206 (by decide +kernel) rfl, List.forall_mem_cons.mpr ⟨in_2 207 (by decide +kernel) rfl, List.forall_mem_cons.mpr ⟨in_2 208 (by decide +kernel) rfl, List.forall_mem_cons.mpr ⟨in_1 5 (by decide +kernel) rfl, List.forall_mem_cons.mpr ⟨in_2 209 (by decide +kernel) rfl, List.forall_mem_nil _⟩⟩⟩⟩⟩), by decide +kernel⟩
set_option maxRecDepth 100000 in
theorem okX9_35 : okV RX9 35 yX9_addNode cX9_addNode 4 (some .int) 2 := ⟨good_l (List.forall_mem_cons.mpr ⟨in_2 158 (by decide +kernel) rfl, List.forall_mem_cons.mpr ⟨in_2 160 (by decide +kernel) rfl, List.forall_mem_cons.mpr ⟨in_s 0 (by decide +kernel) rfl, List.forall_mem_cons.mpr ⟨in_1 5 (by decide +kernel) rfl, List.forall_mem_cons.mpr ⟨in_2 161 (by decide +kernel) rfl, List.forall_mem_nil _⟩⟩⟩⟩⟩), by decide +kernel⟩
set_option maxRecDepth 100000 in
theorem okX9_39 : okV RX9 39 yX0_isRightThere cX0_isRightThere 2 (some .boolean) 1 := ⟨good_l (List.forall_mem_cons.mpr ⟨in_2 162 (by decide +kernel) rfl, List.forall_mem_cons.mpr ⟨in_2 163 (by decide +kernel) rfl, List.forall_mem_cons.mpr ⟨in_2 164 (by decide +kernel) rfl, List.forall_mem_cons.mpr ⟨in_1 4 (by decide +kernel) rfl, List.forall_mem_cons.mpr ⟨in_2 165 (by decide +kernel) rfl, List.forall_mem_nil _⟩⟩⟩⟩⟩), by decide +kernel⟩
set_option maxRecDepth 100000 in
theorem okX9_45 : okV RX9 45 yX0_cutSize cX0_cutSize 4 (some .int) 1 := ⟨good_l (List.forall_mem_cons.mpr ⟨in_2 170 (by decide +kernel) rfl, List.forall_mem_cons.mpr ⟨in_2 171 (by decide +kernel) rfl, List.forall_mem_cons.mpr ⟨in_2 172 (by decide +kernel) rfl, List.forall_mem_cons.mpr ⟨in_1 4 (by decide +kernel) rfl, List.forall_mem_cons.mpr ⟨in_2 173 (by decide +kernel) rfl, List.forall_mem_nil _⟩⟩⟩⟩⟩), by decide +kernel⟩
set_option maxRecDepth 100000 in
theorem okX9_49 : okV RX9 49 yX9_askForChildren cX9_askForChildren 5 none 1 := ⟨good_l (List.forall_mem_cons.mpr ⟨in_2 190 (by decide +kernel) rfl, List.forall_mem_cons.mpr ⟨in_2 192 (by decide +kernel) rfl, List.forall_mem_cons.mpr ⟨in_s 2 (by decide +kernel) rfl, List.forall_mem_cons.mpr ⟨in_1 5 (by decide +kernel) rfl, List.forall_mem_cons.mpr ⟨in_2 193 (by decide +kernel) rfl, List.forall_mem_nil _⟩⟩⟩⟩⟩), by decide +kernel⟩
set_option maxRecDepth 100000 in
theorem okX9_53 : okV RX9 53 yX9_nameChildren cX9_nameChildren 5 none 2 := ⟨good_l (List.forall_mem_cons.mpr ⟨in_2 198 (by decide +kernel) rfl, List.forall_mem_cons.mpr ⟨in_2 200 (by decide +kernel) rfl, List.forall_mem_cons.mpr ⟨in_s 3 (by decide +kernel) rfl, List.forall_mem_cons.mpr ⟨in_1 5 (by decide +kernel) rfl, List.forall_mem_cons.mpr ⟨in_2 201 (by decide +kernel) rfl, List.forall_mem_nil _⟩⟩⟩⟩⟩), by decide +kernel⟩
set_option maxRecDepth 100000 in
theorem okX9_57 : okV RX9 57 yX9_goDown cX9_goDown 3 none 1 := ⟨good_l (List.forall_mem_cons.mpr ⟨in_2 202 (by decide +kernel) rfl, List.forall_mem_cons.mpr ⟨in_2 204 (by decide +kernel) rfl, List.forall_mem_cons.mpr ⟨in_s 4 (by decide +kernel) rfl, List.forall_mem_cons.mpr ⟨in_1 5 (by decide +kernel) rfl, List.forall_mem_cons.mpr ⟨in_2 205 (by decide +kernel) rfl, List.forall_mem_nil _⟩⟩⟩⟩⟩), by decide +kernel⟩
end
section
/-! the two worlds: the class's (55 cells) and the reference's (39 cells; the length of its row of breaks is bl) -/
def shC : Nat → Sh
  | 0 => .inr (10, [some 1, some 3, some 9, some 15, some 23, some 26, some 29, some 31, some 39, some 47, some 51])
  | 1 => .inr (5, [some 2, none])
  | 2 => .inl (.int, 12)
  | 3 => .inr (0, [some 4, some 5, some 6, some 7, some 8, none, none])
  | 4 => .inl (.int, 720)
  | 5 => .inl (.int, 60)
  | 6 => .inl (.boolean, 60)
  | 7 => .inl (.boolean, 60)
  | 8 => .inl (.int, 60)
  | 9 => .inr (9, [some 3, some 10, some 11, some 12, some 13, some 14, none])
  | 10 => .inl (.int, 5768)
  | 11 => .inl (.int, 721)
  | 12 => .inl (.int, 721)
  | 13 => .inl (.int, 60)
  | 14 => .inl (.int, 60)
  | 15 => .inr (6, [some 3, some 9, some 16, some 17, some 18, some 19, some 20, some 21, some 22, none, none, none, none])
  | 16 => .inl (.int, 721)
  | 17 => .inl (.int, 30)
  | 18 => .inl (.int, 721)
  | 19 => .inl (.int, 721)
  | 20 => .inl (.int, 721)
  | 21 => .inl (.int, 721)
  | 22 => .inl (.int, 5768)
  | 23 => .inr (4, [some 24, some 25, none])
  | 24 => .inl (.int, 240)
  | 25 => .inl (.int, 240)
  | 26 => .inr (1, [some 3, some 9, some 27, some 28, none])
  | 27 => .inl (.int, 24)
  | 28 => .inl (.int, 16)
  | 29 => .inr (5, [some 30, none])
  | 30 => .inl (.int, 200)
  | 31 => .inr (8, [some 32, some 33, some 34, some 35, some 36, some 37, some 38, none])
  | 32 => .inl (.int, 200)
  | 33 => .inl (.int, 200)
  | 34 => .inl (.int, 200)
  | 35 => .inl (.int, 200)
  | 36 => .inl (.boolean, 200)
  | 37 => .inl (.int, 10)
  | 38 => .inl (.int, 10)
  | 39 => .inr (3, [some 31, some 23, some 40, some 41, some 42, some 43, some 44, some 45, none, none])
  | 40 => .inl (.int, 6030)
  | 41 => .inl (.boolean, 6030)
  | 42 => .inl (.int, 6031)
  | 43 => .inl (.int, 6030)
  | 44 => .inl (.int, 6030)
  | 45 => .inr (5, [some 46, none])
  | 46 => .inl (.int, 6031)
  | 47 => .inr (7, [some 1, some 23, some 48, some 49, none, none])
  | 48 => .inl (.int, 390)
  | 49 => .inr (5, [some 50, none])
  | 50 => .inl (.int, 24)
  | 51 => .inr (2, [some 3, some 52, some 53, some 54])
  | 52 => .inl (.int, 8)
  | 53 => .inl (.int, 64)
  | 54 => .inl (.int, 8)
  | _ => .inl (.int, 0)
abbrev nC : Nat := 55
def shM (bl : Nat) : Nat → Sh
  | 0 => .inr (11, [none, some 1, none, some 2, some 3, some 4, some 5, none, some 6, some 7, some 8, some 9, some 10, none, some 11, some 12, some 13, some 14, some 15, some 16, none, some 17, some 18, some 19, some 20, none, some 21, some 22, some 23, some 24, none, none, none, none, some 25, some 26, some 27, none, none, none, some 28, some 29, some 30, none, none, none, some 31, some 32, some 33, some 34, none, some 35, some 36, some 37, some 38])
  | 1 => .inl (.int, 12)
  | 2 => .inl (.int, 720)
  | 3 => .inl (.int, 60)
  | 4 => .inl (.boolean, 60)
  | 5 => .inl (.boolean, 60)
  | 6 => .inl (.int, 60)
  | 7 => .inl (.boolean, 60)
  | 8 => .inl (.int, 5776)
  | 9 => .inl (.int, 722)
  | 10 => .inl (.int, 722)
  | 11 => .inl (.int, 5776)
  | 12 => .inl (.int, 722)
  | 13 => .inl (.int, 722)
  | 14 => .inl (.int, 5776)
  | 15 => .inl (.int, 14440)
  | 16 => .inl (.int, 14440)
  | 17 => .inl (.int, 7220)
  | 18 => .inl (.int, 7220)
  | 19 => .inl (.int, 240)
  | 20 => .inl (.int, 240)
  | 21 => .inl (.int, 30)
  | 22 => .inl (.int, 16)
  | 23 => .inl (.int, 24)
  | 24 => .inl (.byte, 200)
  | 25 => .inl (.int, 1200)
  | 26 => .inl (.int, 1200)
  | 27 => .inl (.int, 1200)
  | 28 => .inl (.int, 1200)
  | 29 => .inl (.int, 1200)
  | 30 => .inl (.int, 1200)
  | 31 => .inl (.int, 18600)
  | 32 => .inl (.boolean, 620)
  | 33 => .inl (.boolean, 620)
  | 34 => .inl (.int, bl)
  | 35 => .inl (.int, 390)
  | 36 => .inl (.int, 64)
  | 37 => .inl (.int, 64)
  | 38 => .inl (.int, 64)
  | _ => .inl (.int, 0)
abbrev nM : Nat := 39
abbrev lvl (d : Nat) : Room := { frames := d, cells := 0, slots := 0, locals := 64 * d }
end
section
/-! more rows: division, remainder, switches, bits -/
theorem oI_div {a b : Int} (ha : 0 ≤ a ∧ a < 2147483648) (hb : 0 < b ∧ b < 2147483648) : Int32.ofInt a / Int32.ofInt b = Int32.ofInt (a / b) := by
  have hd : inR (a / b) := by
    have h1 := Int.ediv_nonneg ha.1 (by omega : 0 ≤ b)
    have h2 : a / b ≤ a := Int.ediv_le_self b ha.1
    constructor <;> omega
  apply Int32.toInt_inj.mp
  rw [Int32.toInt_div, tI (by omega), tI (by omega), tI hd, Int.tdiv_eq_ediv_of_nonneg ha.1]
  exact Int.bmod_eq_of_le (by simp; omega) (by simp; omega)
section ROWS3
variable {sh : Nat → Sh} {N : Nat} {own : String} {cc : ByteArray} {nL : Nat} {ret : Option FieldType} {R : Room} {post : Int → Mem → Prop} {K : Kt}
variable {pc : Nat} {lv : Lv} {stk : List V} {M : Mem}
theorem k_idiv (C : Ctx sh N own cc nL ret R post K) {a b : Int} (hd : decode cc pc = .ok (.idiv, 1)) (ha : 0 ≤ a ∧ a < 2147483648) (hb0 : 0 < b ∧ b < 2147483648) (kk : K (pc + 1) lv (.inl (a / b) :: stk) M) : K pc lv (.inl b :: .inl a :: stk) M := by
  obtain ⟨p, l, e, s, m, args, below, meth, c, D, cI, cZ, cB, ad, A, ⟨hx, hb, hml, hown, hts⟩, ⟨hr, hlk, hns⟩, hK, hA, hD, rfl⟩ := C
  intro hM H locs ls hP hS hl
  have h := kk hM H locs ls hP hS hl
  simp only [List.map_cons, vv, ← oI_div ha hb0] at h
  exact lv_idiv hx hb hd (fun q => by rw [oI_0, oI_eq (by omega) (by omega)] at q; omega) h
theorem k_irem (C : Ctx sh N own cc nL ret R post K) {a b : Int} (hd : decode cc pc = .ok (.irem, 1)) (ha : 0 ≤ a ∧ a < 2147483648) (hb0 : 0 < b ∧ b < 2147483648) (kk : K (pc + 1) lv (.inl (a % b) :: stk) M) : K pc lv (.inl b :: .inl a :: stk) M := by
  obtain ⟨p, l, e, s, m, args, below, meth, c, D, cI, cZ, cB, ad, A, ⟨hx, hb, hml, hown, hts⟩, ⟨hr, hlk, hns⟩, hK, hA, hD, rfl⟩ := C
  intro hM H locs ls hP hS hl
  have h := kk hM H locs ls hP hS hl
  refine lv_irem hx hb hd (fun q => by rw [oI_0, oI_eq (by omega) (by omega)] at q; omega) ?_
  have e1 : Int32.ofInt a - Int32.ofInt a / Int32.ofInt b * Int32.ofInt b = Int32.ofInt (a % b) := by
    rw [oI_div ha hb0, ← Int32.ofInt_mul, ← Int32.ofInt_sub]
    congr 1
    have := Int.mul_ediv_add_emod a b
    rw [Int.mul_comm] at this
    omega
  rw [e1]
  exact h
theorem k_table (C : Ctx sh N own cc nL ret R post K) {a : Int} {dflt lo hi : Int} {offs : Array Int} {len : Nat} (hd : decode cc pc = .ok (.tableswitch dflt lo hi offs, len)) (ha : inR a) {tgt : Nat} (ht : (pc : Int) + dflt = (tgt : Int))
    (kin : ∀ (off : Int) (t : Nat), lo ≤ a → a ≤ hi → offs[(a - lo).toNat]? = some off → (pc : Int) + off = (t : Int) → K t lv stk M) (hin : lo ≤ a → a ≤ hi → ∃ (off : Int) (t : Nat), offs[(a - lo).toNat]? = some off ∧ (pc : Int) + off = (t : Int)) (kout : a < lo ∨ hi < a → K tgt lv stk M) : K pc lv (.inl a :: stk) M := by
  obtain ⟨p, l, e, s, m, args, below, meth, c, D, cI, cZ, cB, ad, A, ⟨hx, hb, hml, hown, hts⟩, ⟨hr, hlk, hns⟩, hK, hA, hD, rfl⟩ := C
  intro hM H locs ls hP hS hl
  by_cases h : lo ≤ a ∧ a ≤ hi
  · obtain ⟨off, t, h1, h2⟩ := hin h.1 h.2
    exact lv_tableIn hx hb hd (by rw [tI ha]; omega) (by rw [tI ha]; omega) (by rw [tI ha]; exact h1) h2 (kin off t h.1 h.2 h1 h2 hM H locs ls hP hS hl)
  · exact lv_tableOut hx hb hd (by rw [tI ha]; omega) ht (kout (by omega) hM H locs ls hP hS hl)
theorem k_lookup (C : Ctx sh N own cc nL ret R post K) {a : Int} {dflt : Int} {ps : Array (Int × Int)} {len : Nat} (hd : decode cc pc = .ok (.lookupswitch dflt ps, len)) (ha : inR a) (hp : (ps.toList.zip (ps.toList.drop 1)).all (fun (a, next) => a.1 < next.1) = true) {off : Int} {tgt : Nat} (ho : Op.lookupswitch.offset ps.toList dflt a = off) (ht : (pc : Int) + off = (tgt : Int)) (kk : K tgt lv stk M) : K pc lv (.inl a :: stk) M := by
  obtain ⟨p, l, e, s, m, args, below, meth, c, D, cI, cZ, cB, ad, A, ⟨hx, hb, hml, hown, hts⟩, ⟨hr, hlk, hns⟩, hK, hA, hD, rfl⟩ := C
  intro hM H locs ls hP hS hl
  exact lv_lookup hx hb hd hp (by rw [tI ha]; exact ho) ht (kk hM H locs ls hP hS hl)
end ROWS3
end
section
/-! rows with plain numbers for places and lengths; a cut of the locals -/
def subl : Lv → Lv → Prop
  | [], _ => True
  | (i, v) :: t, lv => lk lv i = some v ∧ subl t lv
theorem subl_mem : ∀ {lv' lv : Lv}, subl lv' lv → ∀ q ∈ lv', lk lv q.1 = some q.2
  | [], _, _, q, hq => by simp at hq
  | (i, v) :: t, lv, h, q, hq => by
    rcases List.mem_cons.mp hq with rfl | hq
    · exact h.1
    · exact subl_mem h.2 q hq
section ROWS4
variable {sh : Nat → Sh} {N : Nat} {own : String} {cc : ByteArray} {nL : Nat} {ret : Option FieldType} {R : Room} {post : Int → Mem → Prop} {K : Kt}
variable {pc : Nat} {lv : Lv} {stk : List V} {M : Mem}
theorem k_cut (C : Ctx sh N own cc nL ret R post K) {lv' : Lv} (kk : K pc lv' stk M) (hv : subl lv' lv) : K pc lv stk M := k_sub C lv' (subl_mem hv) kk
theorem k_getJ (C : Ctx sh N own cc nL ret R post K) {k ci n index : Nat} (j : Nat) (ji : Int) (hji : (j : Int) = ji) {fs : List (Option Nat)} {CC : String} {T : u_T} {ty : Nat → FieldType} (hc : okC ci CC T n ty) (hs : sh k = .inr (ci, fs)) (hk : k < N) (hj : j < n) (hf : fs[j]? = some none) (hw : Cond.fieldLink own index (T j).1 (T j).2.1 (T j).2.2.1 ∈ tbg) (hd : decode cc pc = .ok (.getfield index, 3)) (kk : inR (M k ji) → K (pc + 3) lv (.inl (M k ji) :: stk) M) : K pc lv (.inr k :: stk) M := by
  subst hji; exact k_getI C hc hs hk hj hf hw hd kk
theorem k_putJ (C : Ctx sh N own cc nL ret R post K) {k ci n index : Nat} (j : Nat) (ji : Int) (hji : (j : Int) = ji) {fs : List (Option Nat)} {CC : String} {T : u_T} {ty : Nat → FieldType} {v : Int} (hc : okC ci CC T n ty) (hs : sh k = .inr (ci, fs)) (hk : k < N) (hj : j < n) (hf : fs[j]? = some none) (hfin : (T j).2.2.2 = false) (hty : ty j = .int) (hv : inR v) (hw : Cond.fieldLink own index (T j).1 (T j).2.1 (T j).2.2.1 ∈ tbg) (hd : decode cc pc = .ok (.putfield index, 3)) (kk : K (pc + 3) lv stk (up M k ji v)) : K pc lv (.inl v :: .inr k :: stk) M := by
  subst hji; exact k_putI C hc hs hk hj hf hfin hty hv hw hd kk
theorem k_putB (C : Ctx sh N own cc nL ret R post K) {k ci n index : Nat} (j : Nat) (ji : Int) (hji : (j : Int) = ji) {fs : List (Option Nat)} {CC : String} {T : u_T} {ty : Nat → FieldType} {v : Int} (hc : okC ci CC T n ty) (hs : sh k = .inr (ci, fs)) (hk : k < N) (hj : j < n) (hf : fs[j]? = some none) (hfin : (T j).2.2.2 = false) (hty : ty j = .boolean) (hv : v = 0 ∨ v = 1) (hw : Cond.fieldLink own index (T j).1 (T j).2.1 (T j).2.2.1 ∈ tbg) (hd : decode cc pc = .ok (.putfield index, 3)) (kk : K (pc + 3) lv stk (up M k ji v)) : K pc lv (.inl v :: .inr k :: stk) M := by
  subst hji; exact k_putZ C hc hs hk hj hf hfin hty hv hw hd kk
theorem k_len (C : Ctx sh N own cc nL ret R post K) {k n : Nat} {ty : FieldType} (hs : sh k = .inl (ty, n)) (hk : k < N) (hty : ty = .int ∨ ty = .boolean ∨ ty = .byte) (hd : decode cc pc = .ok (.arraylength, 1)) (kk : ∀ ni : Int, ni = n → K (pc + 1) lv (.inl ni :: stk) M) : K pc lv (.inr k :: stk) M :=
  k_alen C hs hk hty hd (kk _ rfl)
end ROWS4
end
section
/-! a cut of the locals, their values found first -/
theorem k_cut2 {sh : Nat → Sh} {N : Nat} {own : String} {cc : ByteArray} {nL : Nat} {ret : Option FieldType} {R : Room} {post : Int → Mem → Prop} {K : Kt} {pc : Nat} {lv : Lv} {stk : List V} {M : Mem} (C : Ctx sh N own cc nL ret R post K) {lv' : Lv} (hv : subl lv' lv) (kk : K pc lv' stk M) : K pc lv stk M := k_cut C kk hv
end
section
/-! WHAT THE ROWS OF A BOOK MEAN: n rows; sz their sizes, rt whether right, th whether there, ca their calls (twelve places a row) -/
noncomputable def iteP {α : Type} (P : Prop) (a b : α) : α := @ite α P (Classical.propDecidable P) a b
theorem iteP_pos {α : Type} {P : Prop} {a b : α} (h : P) : iteP P a b = a := by unfold iteP; rw [if_pos h]
theorem iteP_neg {α : Type} {P : Prop} {a b : α} (h : ¬ P) : iteP P a b = b := by unfold iteP; rw [if_neg h]
/-- row r begins with row w -/
def bw (sz ca : Int → Int) (r w : Int) : Prop := sz w ≤ sz r ∧ ∀ i, 0 ≤ i → i < sz w → ca (12 * r + i) = ca (12 * w + i)
/-- the wrong row w quarrels with the right row r -/
def qr (sz rt th ca : Int → Int) (w r : Int) : Prop := th w = 1 ∧ rt w = 0 ∧ th r = 1 ∧ rt r = 1 ∧ bw sz ca r w
noncomputable def cutf (sz rt th ca : Int → Int) (r : Int) : Nat → Int
  | 0 => sz r
  | n + 1 => iteP (qr sz rt th ca n r ∧ sz n - 1 < cutf sz rt th ca r n) (sz n - 1) (cutf sz rt th ca r n)
noncomputable def cutI (sz rt th ca : Int → Int) (r n : Int) : Int := cutf sz rt th ca r n.toNat
theorem cutI_0 (sz rt th ca : Int → Int) (r : Int) : cutI sz rt th ca r 0 = sz r := rfl
theorem cutI_s (sz rt th ca : Int → Int) (r : Int) {n : Int} (h : 0 ≤ n) : cutI sz rt th ca r (n + 1) = iteP (qr sz rt th ca n r ∧ sz n - 1 < cutI sz rt th ca r n) (sz n - 1) (cutI sz rt th ca r n) := by
  unfold cutI
  have e : (n + 1).toNat = n.toNat + 1 := by omega
  have e2 : ((n.toNat : Nat) : Int) = n := by omega
  rw [e]
  simp only [cutf, e2]
/-- a wrong row is left out -/
def lof (n : Int) (sz rt th ca : Int → Int) (w : Int) : Prop := ∃ r, 0 ≤ r ∧ r < n ∧ qr sz rt th ca w r
/-- a wrong row that binds -/
def ask (n : Int) (sz rt th ca : Int → Int) (w : Int) : Prop := 0 ≤ w ∧ w < n ∧ th w = 1 ∧ rt w = 0 ∧ ¬ lof n sz rt th ca w
def BkOk (n : Int) (sz rt th ca : Int → Int) : Prop := 0 ≤ n ∧ n ≤ 60 ∧ ∀ r, 0 ≤ r → r < n → (0 ≤ sz r ∧ sz r ≤ 12 ∧ (rt r = 0 ∨ rt r = 1) ∧ (th r = 0 ∨ th r = 1) ∧ (rt r = 0 → 1 ≤ sz r) ∧ ∀ i, 0 ≤ i → i < sz r → 0 ≤ ca (12 * r + i) ∧ ca (12 * r + i) < 8)
abbrev BkC (M : Mem) : Prop := BkOk (M 3 6) (M 5) (M 6) (M 7) (M 4)
theorem cutI_rg {n0 : Int} {sz rt th ca : Int → Int} (hB : BkOk n0 sz rt th ca) {r : Int} (hr : 0 ≤ r) (hr2 : r < n0) : ∀ {n : Int}, 0 ≤ n → n ≤ n0 → 0 ≤ cutI sz rt th ca r n ∧ cutI sz rt th ca r n ≤ sz r := by
  intro n h0 h1
  obtain ⟨m, rfl⟩ : ∃ m : Nat, n = m := ⟨n.toNat, by omega⟩
  clear h0
  induction m with
  | zero => have := hB.2.2 r hr hr2; exact ⟨this.1, Int.le_refl _⟩
  | succ m ih =>
    have ih := ih (by omega)
    have e : ((m + 1 : Nat) : Int) = (m : Int) + 1 := by omega
    rw [e, cutI_s _ _ _ _ _ (by omega)]
    by_cases h : qr sz rt th ca m r ∧ sz m - 1 < cutI sz rt th ca r m
    · rw [iteP_pos h]
      have h2 := (hB.2.2 m (by omega) (by omega)).2.2.2.2.1 h.1.2.1
      omega
    · rw [iteP_neg h]; exact ih
end
section
/-! UsageDesk$Line: k the line, c its cells, n their number -/
theorem ln_ne {k c n : Nat} (hs : shC k = .inr (5, [some c, none])) (hsc : shC c = .inl (.int, n)) : k ≠ c := by
  intro h; subst h; rw [hs] at hsc; cases hsc
set_option maxRecDepth 100000 in
theorem c_Line_at (k c n : Nat) (hs : shC k = .inr (5, [some c, none])) (hk : k < nC) (hsc : shC c = .inl (.int, n)) (hkc : c < nC) (hnc : n < 2147483648) (M : Mem) (i : Int) (hi : inR i) : Ct shC nC yX5_at cX5_at 2 (some .int) (lvl 0) [.inr k, .inl i] M (fun r M' => M = M' ∧ r = if 0 ≤ i ∧ i < M k 1 ∧ i < n then M c i else -1) := by
  refine Ct_of (by decide +kernel) (Nat.le_of_ble_eq_true rfl) (fun K C => ?_)
  refine k_iload_n C dX5_at_0 rfl rfl ?_
  refine k_if_lt C (tgt := 30) dX5_at_1 rfl (by omega) (fun c1 => ?_) (fun c1 => ?_)
  · refine k_iconst C dX5_at_30 ?_
    exact k_iret C dX5_at_31 (by omega) (fun _ => by refine ⟨rfl, ?_⟩; split <;> first | rfl | omega)
  · refine k_iload_n C dX5_at_4 rfl rfl ?_
    refine k_aload_n C dX5_at_5 rfl rfl ?_
    refine k_getJ C 1 1 rfl okC5 hs hk (by decide) rfl flX5_21 dX5_at_6 (fun _ => ?_)
    refine k_icmp_ge C (tgt := 30) dX5_at_9 rfl (by omega) (by omega) (fun c9 => ?_) (fun c9 => ?_)
    · refine k_iconst C dX5_at_30 ?_
      exact k_iret C dX5_at_31 (by omega) (fun _ => by refine ⟨rfl, ?_⟩; split <;> first | rfl | omega)
    · refine k_iload_n C dX5_at_12 rfl rfl ?_
      refine k_aload_n C dX5_at_13 rfl rfl ?_
      refine k_getR C (j := 0) okC5 hs hk (by decide) rfl flX5_15 dX5_at_14 ?_
      refine k_len C hsc hkc (by decide) dX5_at_17 (fun n17 hn17 => ?_)
      refine k_icmp_ge C (tgt := 30) dX5_at_18 rfl (by omega) (by omega) (fun c18 => ?_) (fun c18 => ?_)
      · refine k_iconst C dX5_at_30 ?_
        exact k_iret C dX5_at_31 (by omega) (fun _ => by refine ⟨rfl, ?_⟩; split <;> first | rfl | omega)
      · refine k_aload_n C dX5_at_21 rfl rfl ?_
        refine k_getR C (j := 0) okC5 hs hk (by decide) rfl flX5_15 dX5_at_22 ?_
        refine k_iload_n C dX5_at_25 rfl rfl ?_
        refine k_iaload C hsc hkc hnc ⟨by omega, by omega⟩ dX5_at_26 (fun _ => ?_)
        refine k_goto C (tgt := 31) dX5_at_27 rfl ?_
        exact k_iret C dX5_at_31 (by omega) (fun _ => by refine ⟨rfl, ?_⟩; split <;> first | rfl | omega)
set_option maxRecDepth 100000 in
theorem c_Line_append (k c n : Nat) (hs : shC k = .inr (5, [some c, none])) (hk : k < nC) (hsc : shC c = .inl (.int, n)) (hkc : c < nC) (hnc : n < 2147483648) (M : Mem) (v : Int) (hv : inR v) : Ct shC nC yX5_append cX5_append 2 (some .boolean) (lvl 0) [.inr k, .inl v] M (fun r M' => if 0 ≤ M k 1 ∧ M k 1 < n then r = 1 ∧ M' = up (up M c (M k 1) v) k 1 (M k 1 + 1) else r = 0 ∧ M = M') := by
  refine Ct_of (by decide +kernel) (Nat.le_of_ble_eq_true rfl) (fun K C => ?_)
  have e1 : up M c (M k 1) v k 1 = M k 1 := by rw [up_ne (ln_ne hs hsc)]
  refine k_aload_n C dX5_append_0 rfl rfl ?_
  refine k_getJ C 1 1 rfl okC5 hs hk (by decide) rfl flX5_21 dX5_append_1 (fun _ => ?_)
  refine k_if_lt C (tgt := 19) dX5_append_4 rfl (by omega) (fun c4 => ?_) (fun c4 => ?_)
  · refine k_iconst C dX5_append_19 ?_
    exact k_zret C dX5_append_20 (by omega) (fun _ => by rw [if_neg (by omega)]; exact ⟨rfl, rfl⟩)
  · refine k_aload_n C dX5_append_7 rfl rfl ?_
    refine k_getJ C 1 1 rfl okC5 hs hk (by decide) rfl flX5_21 dX5_append_8 (fun _ => ?_)
    refine k_aload_n C dX5_append_11 rfl rfl ?_
    refine k_getR C (j := 0) okC5 hs hk (by decide) rfl flX5_15 dX5_append_12 ?_
    refine k_len C hsc hkc (by decide) dX5_append_15 (fun n15 hn15 => ?_)
    refine k_icmp_lt C (tgt := 21) dX5_append_16 rfl (by omega) (by omega) (fun c16 => ?_) (fun c16 => ?_)
    · refine k_aload_n C dX5_append_21 rfl rfl ?_
      refine k_getR C (j := 0) okC5 hs hk (by decide) rfl flX5_15 dX5_append_22 ?_
      refine k_aload_n C dX5_append_25 rfl rfl ?_
      refine k_getJ C 1 1 rfl okC5 hs hk (by decide) rfl flX5_21 dX5_append_26 (fun _ => ?_)
      refine k_iload_n C dX5_append_29 rfl rfl ?_
      refine k_iastore C hsc hkc hnc ⟨by omega, by omega⟩ (by omega) dX5_append_30 ?_
      refine k_aload_n C dX5_append_31 rfl rfl ?_
      refine k_dup C dX5_append_32 ?_
      refine k_getJ C 1 1 rfl okC5 hs hk (by decide) rfl flX5_21 dX5_append_33 (fun _ => ?_)
      rw [e1]
      refine k_iconst C dX5_append_36 ?_
      refine k_iadd C dX5_append_37 ?_
      refine k_putJ C 1 1 rfl okC5 hs hk (by decide) rfl rfl rfl (by omega) flX5_21 dX5_append_38 ?_
      refine k_iconst C dX5_append_41 ?_
      exact k_zret C dX5_append_42 (by omega) (fun _ => by rw [if_pos (by omega)]; exact ⟨rfl, rfl⟩)
    · refine k_iconst C dX5_append_19 ?_
      exact k_zret C dX5_append_20 (by omega) (fun _ => by rw [if_neg (by omega)]; exact ⟨rfl, rfl⟩)
end
section
/-! UsageDesk$Book: cell 3 -/
set_option maxRecDepth 100000 in
theorem c_Book_knows (M : Mem) (row : Int) (hr : inR row) : Ct shC nC yX0_knows cX0_knows 2 (some .boolean) (lvl 0) [.inr 3, .inl row] M (fun r M' => M = M' ∧ ((r = 1 ∧ (0 ≤ row ∧ row < M 3 6 ∧ row < 60)) ∨ (r = 0 ∧ ¬ (0 ≤ row ∧ row < M 3 6 ∧ row < 60)))) := by
  refine Ct_of (by decide +kernel) (Nat.le_of_ble_eq_true rfl) (fun K C => ?_)
  refine k_iload_n C dX0_knows_0 rfl rfl ?_
  refine k_if_lt C (tgt := 22) dX0_knows_1 rfl (by omega) (fun c1 => ?_) (fun c1 => ?_)
  · refine k_iconst C dX0_knows_22 ?_
    exact k_zret C dX0_knows_23 (by omega) (fun _ => ⟨rfl, by omega⟩)
  · refine k_iload_n C dX0_knows_4 rfl rfl ?_
    refine k_aload_n C dX0_knows_5 rfl rfl ?_
    refine k_getJ C 6 6 rfl okC0 rfl (by decide) (by decide) rfl flX0_28 dX0_knows_6 (fun _ => ?_)
    refine k_icmp_ge C (tgt := 22) dX0_knows_9 rfl (by omega) (by omega) (fun c9 => ?_) (fun c9 => ?_)
    · refine k_iconst C dX0_knows_22 ?_
      exact k_zret C dX0_knows_23 (by omega) (fun _ => ⟨rfl, by omega⟩)
    · refine k_iload_n C dX0_knows_12 rfl rfl ?_
      refine k_bipush C dX0_knows_13 (by decide) ?_
      refine k_icmp_ge C (tgt := 22) dX0_knows_15 rfl (by omega) (by omega) (fun c15 => ?_) (fun c15 => ?_)
      · refine k_iconst C dX0_knows_22 ?_
        exact k_zret C dX0_knows_23 (by omega) (fun _ => ⟨rfl, by omega⟩)
      · refine k_iconst C dX0_knows_18 ?_
        refine k_goto C (tgt := 23) dX0_knows_19 rfl ?_
        exact k_zret C dX0_knows_23 (by omega) (fun _ => ⟨rfl, by omega⟩)
set_option maxRecDepth 100000 in
theorem c_Book_sizeOf (M : Mem) (row : Int) (hr : (0 ≤ row ∧ row < M 3 6 ∧ row < 60)) : Ct shC nC yX0_sizeOf cX0_sizeOf 2 (some .int) (lvl 1) [.inr 3, .inl row] M (fun r M' => M = M' ∧ r = M 5 row) := by
  refine Ct_of (by decide +kernel) (Nat.le_of_ble_eq_true rfl) (fun K C => ?_)
  refine k_aload_n C dX0_sizeOf_0 rfl rfl ?_
  refine k_iload_n C dX0_sizeOf_1 rfl rfl ?_
  refine k_callV C okX0_41 dX0_sizeOf_2 (c_Book_knows M row (by omega)) rfl rfl (by decide) rfl (by decide) rfl (Nat.le_of_ble_eq_true rfl) (fun r2 M2 hr2 hp2 => ?_)
  obtain ⟨rfl, hp2⟩ := hp2
  refine k_if_eq C (tgt := 17) dX0_sizeOf_5 rfl (by omega) (fun c5 => ?_) (fun c5 => ?_)
  · refine k_iconst C dX0_sizeOf_17 ?_
    exact k_iret C dX0_sizeOf_18 (by omega) (fun _ => ⟨rfl, by first | rfl | omega⟩)
  · refine k_aload_n C dX0_sizeOf_8 rfl rfl ?_
    refine k_getR C (j := 1) okC0 rfl (by decide) (by decide) rfl flX0_15 dX0_sizeOf_9 ?_
    refine k_iload_n C dX0_sizeOf_12 rfl rfl ?_
    refine k_iaload C rfl (by decide) (by decide) ⟨by omega, by omega⟩ dX0_sizeOf_13 (fun _ => ?_)
    refine k_goto C (tgt := 18) dX0_sizeOf_14 rfl ?_
    exact k_iret C dX0_sizeOf_18 (by omega) (fun _ => ⟨rfl, by first | rfl | omega⟩)
set_option maxRecDepth 100000 in
theorem c_Book_callAt (M : Mem) (row i : Int) (hr : 0 ≤ row ∧ row < 60) (hi : 0 ≤ i ∧ i < 12) : Ct shC nC yX0_callAt cX0_callAt 3 (some .int) (lvl 0) [.inr 3, .inl row, .inl i] M (fun r M' => M = M' ∧ r = M 4 (12 * row + i)) := by
  refine Ct_of (by decide +kernel) (Nat.le_of_ble_eq_true rfl) (fun K C => ?_)
  refine k_iload_n C dX0_callAt_0 rfl rfl ?_
  refine k_if_lt C (tgt := 20) dX0_callAt_1 rfl (by omega) (fun c1 => ?_) (fun c1 => ?_)
  · refine k_iconst C dX0_callAt_20 ?_
    exact k_iret C dX0_callAt_21 (by omega) (fun _ => by omega)
  · refine k_iload_n C dX0_callAt_4 rfl rfl ?_
    refine k_bipush C dX0_callAt_5 (by decide) ?_
    refine k_icmp_ge C (tgt := 20) dX0_callAt_7 rfl (by omega) (by omega) (fun c7 => ?_) (fun c7 => ?_)
    · refine k_iconst C dX0_callAt_20 ?_
      exact k_iret C dX0_callAt_21 (by omega) (fun _ => by omega)
    · refine k_iload_n C dX0_callAt_10 rfl rfl ?_
      refine k_if_lt C (tgt := 20) dX0_callAt_11 rfl (by omega) (fun c11 => ?_) (fun c11 => ?_)
      · refine k_iconst C dX0_callAt_20 ?_
        exact k_iret C dX0_callAt_21 (by omega) (fun _ => by omega)
      · refine k_iload_n C dX0_callAt_14 rfl rfl ?_
        refine k_bipush C dX0_callAt_15 (by decide) ?_
        refine k_icmp_lt C (tgt := 22) dX0_callAt_17 rfl (by omega) (by omega) (fun c17 => ?_) (fun c17 => ?_)
        · refine k_aload_n C dX0_callAt_22 rfl rfl ?_
          refine k_getR C (j := 0) okC0 rfl (by decide) (by decide) rfl flX0_9 dX0_callAt_23 ?_
          refine k_iload_n C dX0_callAt_26 rfl rfl ?_
          refine k_bipush C dX0_callAt_27 (by decide) ?_
          refine k_imul C dX0_callAt_29 ?_
          refine k_iload_n C dX0_callAt_30 rfl rfl ?_
          refine k_iadd C dX0_callAt_31 ?_
          refine k_iaload C rfl (by decide) (by decide) ⟨by omega, by omega⟩ dX0_callAt_32 (fun _ => ?_)
          exact k_iret C dX0_callAt_33 (by omega) (fun _ => ⟨rfl, by rw [Int.mul_comm]⟩)
        · refine k_iconst C dX0_callAt_20 ?_
          exact k_iret C dX0_callAt_21 (by omega) (fun _ => by omega)
set_option maxRecDepth 100000 in
theorem c_Book_isRightThere (M : Mem) (row : Int) (hr : inR row) : Ct shC nC yX0_isRightThere cX0_isRightThere 2 (some .boolean) (lvl 1) [.inr 3, .inl row] M (fun r M' => M = M' ∧ ((r = 1 ∧ (0 ≤ row ∧ row < M 3 6 ∧ row < 60 ∧ ¬ M 7 row = 0 ∧ ¬ M 6 row = 0)) ∨ (r = 0 ∧ ¬ (0 ≤ row ∧ row < M 3 6 ∧ row < 60 ∧ ¬ M 7 row = 0 ∧ ¬ M 6 row = 0)))) := by
  refine Ct_of (by decide +kernel) (Nat.le_of_ble_eq_true rfl) (fun K C => ?_)
  refine k_aload_n C dX0_isRightThere_0 rfl rfl ?_
  refine k_iload_n C dX0_isRightThere_1 rfl rfl ?_
  refine k_callV C okX0_41 dX0_isRightThere_2 (c_Book_knows M row (by omega)) rfl rfl (by decide) rfl (by decide) rfl (Nat.le_of_ble_eq_true rfl) (fun r2 M2 hr2 hp2 => ?_)
  obtain ⟨rfl, hp2⟩ := hp2
  refine k_if_eq C (tgt := 30) dX0_isRightThere_5 rfl (by omega) (fun c5 => ?_) (fun c5 => ?_)
  · refine k_iconst C dX0_isRightThere_30 ?_
    exact k_zret C dX0_isRightThere_31 (by omega) (fun _ => ⟨rfl, by omega⟩)
  · refine k_aload_n C dX0_isRightThere_8 rfl rfl ?_
    refine k_getR C (j := 3) okC0 rfl (by decide) (by decide) rfl flX0_22 dX0_isRightThere_9 ?_
    refine k_iload_n C dX0_isRightThere_12 rfl rfl ?_
    refine k_zaload C rfl (by decide) (by decide) ⟨by omega, by omega⟩ dX0_isRightThere_13 (fun _ => ?_)
    refine k_if_eq C (tgt := 30) dX0_isRightThere_14 rfl (by omega) (fun c14 => ?_) (fun c14 => ?_)
    · refine k_iconst C dX0_isRightThere_30 ?_
      exact k_zret C dX0_isRightThere_31 (by omega) (fun _ => ⟨rfl, by omega⟩)
    · refine k_aload_n C dX0_isRightThere_17 rfl rfl ?_
      refine k_getR C (j := 2) okC0 rfl (by decide) (by decide) rfl flX0_18 dX0_isRightThere_18 ?_
      refine k_iload_n C dX0_isRightThere_21 rfl rfl ?_
      refine k_zaload C rfl (by decide) (by decide) ⟨by omega, by omega⟩ dX0_isRightThere_22 (fun _ => ?_)
      refine k_if_eq C (tgt := 30) dX0_isRightThere_23 rfl (by omega) (fun c23 => ?_) (fun c23 => ?_)
      · refine k_iconst C dX0_isRightThere_30 ?_
        exact k_zret C dX0_isRightThere_31 (by omega) (fun _ => ⟨rfl, by omega⟩)
      · refine k_iconst C dX0_isRightThere_26 ?_
        refine k_goto C (tgt := 31) dX0_isRightThere_27 rfl ?_
        exact k_zret C dX0_isRightThere_31 (by omega) (fun _ => ⟨rfl, by omega⟩)
set_option maxRecDepth 100000 in
theorem c_Book_isWrongThere (M : Mem) (row : Int) (hr : inR row) : Ct shC nC yX0_isWrongThere cX0_isWrongThere 2 (some .boolean) (lvl 1) [.inr 3, .inl row] M (fun r M' => M = M' ∧ ((r = 1 ∧ (0 ≤ row ∧ row < M 3 6 ∧ row < 60 ∧ ¬ M 7 row = 0 ∧ M 6 row = 0)) ∨ (r = 0 ∧ ¬ (0 ≤ row ∧ row < M 3 6 ∧ row < 60 ∧ ¬ M 7 row = 0 ∧ M 6 row = 0)))) := by
  refine Ct_of (by decide +kernel) (Nat.le_of_ble_eq_true rfl) (fun K C => ?_)
  refine k_aload_n C dX0_isWrongThere_0 rfl rfl ?_
  refine k_iload_n C dX0_isWrongThere_1 rfl rfl ?_
  refine k_callV C okX0_41 dX0_isWrongThere_2 (c_Book_knows M row (by omega)) rfl rfl (by decide) rfl (by decide) rfl (Nat.le_of_ble_eq_true rfl) (fun r2 M2 hr2 hp2 => ?_)
  obtain ⟨rfl, hp2⟩ := hp2
  refine k_if_eq C (tgt := 30) dX0_isWrongThere_5 rfl (by omega) (fun c5 => ?_) (fun c5 => ?_)
  · refine k_iconst C dX0_isWrongThere_30 ?_
    exact k_zret C dX0_isWrongThere_31 (by omega) (fun _ => ⟨rfl, by omega⟩)
  · refine k_aload_n C dX0_isWrongThere_8 rfl rfl ?_
    refine k_getR C (j := 3) okC0 rfl (by decide) (by decide) rfl flX0_22 dX0_isWrongThere_9 ?_
    refine k_iload_n C dX0_isWrongThere_12 rfl rfl ?_
    refine k_zaload C rfl (by decide) (by decide) ⟨by omega, by omega⟩ dX0_isWrongThere_13 (fun _ => ?_)
    refine k_if_eq C (tgt := 30) dX0_isWrongThere_14 rfl (by omega) (fun c14 => ?_) (fun c14 => ?_)
    · refine k_iconst C dX0_isWrongThere_30 ?_
      exact k_zret C dX0_isWrongThere_31 (by omega) (fun _ => ⟨rfl, by omega⟩)
    · refine k_aload_n C dX0_isWrongThere_17 rfl rfl ?_
      refine k_getR C (j := 2) okC0 rfl (by decide) (by decide) rfl flX0_18 dX0_isWrongThere_18 ?_
      refine k_iload_n C dX0_isWrongThere_21 rfl rfl ?_
      refine k_zaload C rfl (by decide) (by decide) ⟨by omega, by omega⟩ dX0_isWrongThere_22 (fun _ => ?_)
      refine k_if_ne C (tgt := 30) dX0_isWrongThere_23 rfl (by omega) (fun c23 => ?_) (fun c23 => ?_)
      · refine k_iconst C dX0_isWrongThere_30 ?_
        exact k_zret C dX0_isWrongThere_31 (by omega) (fun _ => ⟨rfl, by omega⟩)
      · refine k_iconst C dX0_isWrongThere_26 ?_
        refine k_goto C (tgt := 31) dX0_isWrongThere_27 rfl ?_
        exact k_zret C dX0_isWrongThere_31 (by omega) (fun _ => ⟨rfl, by omega⟩)
noncomputable def cntf (th : Int → Int) : Nat → Int
  | 0 => 0
  | n + 1 => cntf th n + iteP (th n = 0) 0 1
noncomputable def cntI (th : Int → Int) (n : Int) : Int := cntf th n.toNat
theorem cntI_s (th : Int → Int) {n : Int} (h : 0 ≤ n) : cntI th (n + 1) = cntI th n + iteP (th n = 0) 0 1 := by
  unfold cntI
  have e : (n + 1).toNat = n.toNat + 1 := by omega
  have e2 : ((n.toNat : Nat) : Int) = n := by omega
  rw [e]
  simp only [cntf, e2]
theorem cntf_rg (th : Int → Int) : ∀ n, 0 ≤ cntf th n ∧ cntf th n ≤ n
  | 0 => by simp [cntf]
  | n + 1 => by
    have ih := cntf_rg th n
    simp only [cntf]
    by_cases h : th n = 0
    · rw [iteP_pos h]; omega
    · rw [iteP_neg h]; omega
theorem cntI_rg (th : Int → Int) {n : Int} (h : 0 ≤ n) : 0 ≤ cntI th n ∧ cntI th n ≤ n := by
  have := cntf_rg th n.toNat
  unfold cntI; omega
set_option maxRecDepth 100000 in
theorem l_countThere {K : Kt} (M : Mem) (C : Ctx shC nC RX0 cX0_countThere 3 (some .int) (lvl 0) (fun r M' => M = M' ∧ r = cntI (M 7) (M 3 6)) K) (hB : BkC M) (row sum : Int) (h0 : 0 ≤ row ∧ row ≤ M 3 6) (hs : sum = cntI (M 7) row) : K 4 [(0, .inr 3), (1, .inl sum), (2, .inl row)] [] M := by
  have hb1 := hB.1; have hb2 := hB.2.1; have hq := cntI_rg (M 7) h0.1; have hq2 := cntI_s (M 7) h0.1
  refine k_iload_n C dX0_countThere_4 rfl rfl ?_
  refine k_aload_n C dX0_countThere_5 rfl rfl ?_
  refine k_getJ C 6 6 rfl okC0 rfl (by decide) (by decide) rfl flX0_28 dX0_countThere_6 (fun _ => ?_)
  refine k_icmp_ge C (tgt := 41) dX0_countThere_9 rfl (by omega) (by omega) (fun c9 => ?_) (fun c9 => ?_)
  · refine k_iload_n C dX0_countThere_41 rfl rfl ?_
    exact k_iret C dX0_countThere_42 (by omega) (fun _ => ⟨rfl, by rw [hs]; congr 1; omega⟩)
  · refine k_iload_n C dX0_countThere_12 rfl rfl ?_
    refine k_bipush C dX0_countThere_13 (by decide) ?_
    refine k_icmp_ge C (tgt := 41) dX0_countThere_15 rfl (by omega) (by omega) (fun c15 => ?_) (fun c15 => ?_)
    · refine k_iload_n C dX0_countThere_41 rfl rfl ?_
      exact k_iret C dX0_countThere_42 (by omega) (fun _ => ⟨rfl, by rw [hs]; congr 1; omega⟩)
    · refine k_iload_n C dX0_countThere_18 rfl rfl ?_
      refine k_aload_n C dX0_countThere_19 rfl rfl ?_
      refine k_getR C (j := 3) okC0 rfl (by decide) (by decide) rfl flX0_22 dX0_countThere_20 ?_
      refine k_iload_n C dX0_countThere_23 rfl rfl ?_
      refine k_zaload C rfl (by decide) (by decide) ⟨by omega, by omega⟩ dX0_countThere_24 (fun _ => ?_)
      refine k_if_eq C (tgt := 32) dX0_countThere_25 rfl (by omega) (fun c25 => ?_) (fun c25 => ?_)
      · refine k_iconst C dX0_countThere_32 ?_
        refine k_iadd C dX0_countThere_33 ?_
        refine k_istore_n C dX0_countThere_34 rfl (by decide) ?_
        refine k_iinc C dX0_countThere_35 (by decide) rfl ?_
        refine k_goto C (tgt := 4) dX0_countThere_38 rfl ?_
        refine k_cut2 C (lv' := [(0, _), (1, _), (2, _)]) ⟨rfl, rfl, rfl, trivial⟩ ?_
        exact l_countThere M C hB _ _ (by omega) (by first | (rw [hq2, iteP_neg c25, hs]) | (rw [hq2, iteP_pos (by omega), hs]))
      · refine k_iconst C dX0_countThere_28 ?_
        refine k_goto C (tgt := 33) dX0_countThere_29 rfl ?_
        refine k_iadd C dX0_countThere_33 ?_
        refine k_istore_n C dX0_countThere_34 rfl (by decide) ?_
        refine k_iinc C dX0_countThere_35 (by decide) rfl ?_
        refine k_goto C (tgt := 4) dX0_countThere_38 rfl ?_
        refine k_cut2 C (lv' := [(0, _), (1, _), (2, _)]) ⟨rfl, rfl, rfl, trivial⟩ ?_
        exact l_countThere M C hB _ _ (by omega) (by first | (rw [hq2, iteP_neg c25, hs]) | (rw [hq2, iteP_pos (by omega), hs]))
termination_by (M 3 6 - row).toNat
decreasing_by all_goals omega
set_option maxRecDepth 100000 in
theorem c_Book_countThere (M : Mem) (hB : BkC M) : Ct shC nC yX0_countThere cX0_countThere 3 (some .int) (lvl 0) [.inr 3] M (fun r M' => M = M' ∧ r = cntI (M 7) (M 3 6)) := by
  refine Ct_of (by decide +kernel) (Nat.le_of_ble_eq_true rfl) (fun K C => ?_)
  have hb1 := hB.1
  refine k_iconst C dX0_countThere_0 ?_
  refine k_istore_n C dX0_countThere_1 rfl (by decide) ?_
  refine k_iconst C dX0_countThere_2 ?_
  refine k_istore_n C dX0_countThere_3 rfl (by decide) ?_
  refine k_cut2 C (lv' := [(0, _), (1, _), (2, _)]) ⟨rfl, rfl, rfl, trivial⟩ ?_
  exact l_countThere M C hB _ _ (by omega) rfl
end
section
/-! UsageDesk$Book: beginnings, cuts, what is left out, what binds, a new row -/
set_option maxRecDepth 100000 in
theorem l_beginsWith {K : Kt} (M : Mem) (hB : BkC M) (row w : Int) (hr : 0 ≤ row ∧ row < M 3 6) (hw : 0 ≤ w ∧ w < M 3 6) (C : Ctx shC nC RX0 cX0_beginsWith 5 (some .boolean) (lvl 2) (fun r M' => M = M' ∧ ((r = 1 ∧ bw (M 5) (M 4) row w) ∨ (r = 0 ∧ ¬ bw (M 5) (M 4) row w))) K) (i : Int) (hi : 0 ≤ i ∧ i ≤ M 5 w) (hle : M 5 w ≤ M 5 row) (hj : ∀ j, 0 ≤ j → j < i → M 4 (12 * row + j) = M 4 (12 * w + j)) : K 20 [(0, .inr 3), (1, .inl row), (2, .inl w), (3, .inl (M 5 w)), (4, .inl i)] [] M := by
  have hb1 := hB.1; have hb2 := hB.2.1; have hbr := hB.2.2 row hr.1 hr.2; have hbw := hB.2.2 w hw.1 hw.2
  refine k_iload C dX0_beginsWith_20 rfl ?_
  refine k_iload_n C dX0_beginsWith_22 rfl rfl ?_
  refine k_icmp_ge C (tgt := 51) dX0_beginsWith_23 rfl (by omega) (by omega) (fun c23 => ?_) (fun c23 => ?_)
  · refine k_iconst C dX0_beginsWith_51 ?_
    exact k_zret C dX0_beginsWith_52 (by omega) (fun _ => ⟨rfl, Or.inl ⟨rfl, hle, fun j h1 h2 => hj j h1 (by omega)⟩⟩)
  · refine k_aload_n C dX0_beginsWith_26 rfl rfl ?_
    refine k_iload_n C dX0_beginsWith_27 rfl rfl ?_
    refine k_iload C dX0_beginsWith_28 rfl ?_
    refine k_callV C okX0_67 dX0_beginsWith_30 (c_Book_callAt M row i (by omega) (by omega)) rfl rfl (by decide) rfl (by decide) rfl (Nat.le_of_ble_eq_true rfl) (fun r30 M30 hr30 hp30 => ?_)
    obtain ⟨rfl, rfl⟩ := hp30
    refine k_aload_n C dX0_beginsWith_33 rfl rfl ?_
    refine k_iload_n C dX0_beginsWith_34 rfl rfl ?_
    refine k_iload C dX0_beginsWith_35 rfl ?_
    refine k_callV C okX0_67 dX0_beginsWith_37 (c_Book_callAt M w i (by omega) (by omega)) rfl rfl (by decide) rfl (by decide) rfl (Nat.le_of_ble_eq_true rfl) (fun r37 M37 hr37 hp37 => ?_)
    obtain ⟨rfl, rfl⟩ := hp37
    refine k_icmp_eq C (tgt := 45) dX0_beginsWith_40 rfl (by omega) (by omega) (fun c40 => ?_) (fun c40 => ?_)
    · refine k_iinc C dX0_beginsWith_45 (by decide) rfl ?_
      refine k_goto C (tgt := 20) dX0_beginsWith_48 rfl ?_
      refine k_cut2 C (lv' := [(0, _), (1, _), (2, _), (3, _), (4, _)]) ⟨rfl, rfl, rfl, rfl, rfl, trivial⟩ ?_
      refine l_beginsWith M hB row w hr hw C (i + 1) (by omega) hle (fun j h1 h2 => ?_)
      by_cases h3 : j = i
      · rw [h3]; exact c40
      · exact hj j h1 (by omega)
    · refine k_iconst C dX0_beginsWith_43 ?_
      exact k_zret C dX0_beginsWith_44 (by omega) (fun _ => ⟨rfl, Or.inr ⟨rfl, fun h => c40 (h.2 i hi.1 c23)⟩⟩)
termination_by (M 5 w - i).toNat
decreasing_by all_goals omega
set_option maxRecDepth 100000 in
theorem c_Book_beginsWith (M : Mem) (hB : BkC M) (row w : Int) (hr : 0 ≤ row ∧ row < M 3 6) (hw : 0 ≤ w ∧ w < M 3 6) : Ct shC nC yX0_beginsWith cX0_beginsWith 5 (some .boolean) (lvl 2) [.inr 3, .inl row, .inl w] M (fun r M' => M = M' ∧ ((r = 1 ∧ bw (M 5) (M 4) row w) ∨ (r = 0 ∧ ¬ bw (M 5) (M 4) row w))) := by
  refine Ct_of (by decide +kernel) (Nat.le_of_ble_eq_true rfl) (fun K C => ?_)
  have hb1 := hB.1; have hb2 := hB.2.1; have hbr := hB.2.2 row hr.1 hr.2; have hbw := hB.2.2 w hw.1 hw.2
  refine k_aload_n C dX0_beginsWith_0 rfl rfl ?_
  refine k_iload_n C dX0_beginsWith_1 rfl rfl ?_
  refine k_callV C okX0_57 dX0_beginsWith_2 (c_Book_sizeOf M w (by omega)) rfl rfl (by decide) rfl (by decide) rfl (Nat.le_of_ble_eq_true rfl) (fun r2 M2 hr2 hp2 => ?_)
  obtain ⟨rfl, rfl⟩ := hp2
  refine k_istore_n C dX0_beginsWith_5 rfl (by decide) ?_
  refine k_iload_n C dX0_beginsWith_6 rfl rfl ?_
  refine k_aload_n C dX0_beginsWith_7 rfl rfl ?_
  refine k_iload_n C dX0_beginsWith_8 rfl rfl ?_
  refine k_callV C okX0_57 dX0_beginsWith_9 (c_Book_sizeOf M row (by omega)) rfl rfl (by decide) rfl (by decide) rfl (Nat.le_of_ble_eq_true rfl) (fun r9 M9 hr9 hp9 => ?_)
  obtain ⟨rfl, rfl⟩ := hp9
  refine k_icmp_le C (tgt := 17) dX0_beginsWith_12 rfl (by omega) (by omega) (fun c12 => ?_) (fun c12 => ?_)
  · refine k_iconst C dX0_beginsWith_17 ?_
    refine k_istore C dX0_beginsWith_18 (by decide) ?_
    refine k_cut2 C (lv' := [(0, _), (1, _), (2, _), (3, _), (4, _)]) ⟨rfl, rfl, rfl, rfl, rfl, trivial⟩ ?_
    exact l_beginsWith M hB row w hr hw C 0 (by omega) (by omega) (fun j h1 h2 => by omega)
  · refine k_iconst C dX0_beginsWith_15 ?_
    exact k_zret C dX0_beginsWith_16 (by omega) (fun _ => ⟨rfl, Or.inr ⟨rfl, fun h => by have := h.1; omega⟩⟩)
set_option maxRecDepth 100000 in
theorem l_cutSize {K : Kt} (M : Mem) (hB : BkC M) (row : Int) (hr : 0 ≤ row ∧ row < M 3 6) (ht : M 7 row = 1) (hg : M 6 row = 1) (C : Ctx shC nC RX0 cX0_cutSize 4 (some .int) (lvl 3) (fun r M' => M = M' ∧ r = cutI (M 5) (M 6) (M 7) (M 4) row (M 3 6)) K) (w cut : Int) (hw : 0 ≤ w ∧ w ≤ M 3 6) (hc : cut = cutI (M 5) (M 6) (M 7) (M 4) row w) : K 8 [(0, .inr 3), (1, .inl row), (2, .inl cut), (3, .inl w)] [] M := by
  have hb1 := hB.1; have hb2 := hB.2.1; have hbr := hB.2.2 row hr.1 hr.2
  have hcr := cutI_rg hB hr.1 hr.2 hw.1 hw.2
  have hbw := hB.2.2 w hw.1
  refine k_iload_n C dX0_cutSize_8 rfl rfl ?_
  refine k_aload_n C dX0_cutSize_9 rfl rfl ?_
  refine k_getJ C 6 6 rfl okC0 rfl (by decide) (by decide) rfl flX0_28 dX0_cutSize_10 (fun _ => ?_)
  refine k_icmp_ge C (tgt := 56) dX0_cutSize_13 rfl (by omega) (by omega) (fun c13 => ?_) (fun c13 => ?_)
  · refine k_iload_n C dX0_cutSize_56 rfl rfl ?_
    exact k_iret C dX0_cutSize_57 (by omega) (fun _ => ⟨rfl, by rw [hc]; congr 1; omega⟩)
  · refine k_aload_n C dX0_cutSize_16 rfl rfl ?_
    refine k_iload_n C dX0_cutSize_17 rfl rfl ?_
    refine k_callV C okX0_51 dX0_cutSize_18 (c_Book_isWrongThere M w (by omega)) rfl rfl (by decide) rfl (by decide) rfl (Nat.le_of_ble_eq_true rfl) (fun r18 M18 hr18 hp18 => ?_)
    obtain ⟨rfl, hp18⟩ := hp18
    have hbw := hbw c13
    refine k_if_eq C (tgt := 50) dX0_cutSize_21 rfl (by omega) (fun c21 => ?_) (fun c21 => ?_)
    · refine k_iinc C dX0_cutSize_50 (by decide) rfl ?_
      refine k_goto C (tgt := 8) dX0_cutSize_53 rfl ?_
      refine k_cut2 C (lv' := [(0, _), (1, _), (2, _), (3, _)]) ⟨rfl, rfl, rfl, rfl, trivial⟩ ?_
      refine l_cutSize M hB row hr ht hg C (w + 1) _ (by omega) ?_
      rw [cutI_s _ _ _ _ _ hw.1]
      first
      | (rw [iteP_pos (by refine ⟨⟨by omega, by omega, ht, hg, ?_⟩, by omega⟩; rcases hp36 with h | h; exact h.2; omega)])
      | (rw [iteP_neg (fun h => by rcases hp36 with h2 | h2; omega; exact h2.2 h.1.2.2.2.2)]; exact hc)
      | (rw [iteP_neg (fun h => by have h1 := h.1.1; have h2 := h.1.2.1; omega)]; exact hc)
    · refine k_aload_n C dX0_cutSize_24 rfl rfl ?_
      refine k_iload_n C dX0_cutSize_25 rfl rfl ?_
      refine k_callV C okX0_57 dX0_cutSize_26 (c_Book_sizeOf M w (by omega)) rfl rfl (by decide) rfl (by decide) rfl (Nat.le_of_ble_eq_true rfl) (fun r26 M26 hr26 hp26 => ?_)
      obtain ⟨rfl, rfl⟩ := hp26
      refine k_iload_n C dX0_cutSize_29 rfl rfl ?_
      refine k_icmp_gt C (tgt := 50) dX0_cutSize_30 rfl (by omega) (by omega) (fun c30 => ?_) (fun c30 => ?_)
      · refine k_iinc C dX0_cutSize_50 (by decide) rfl ?_
        refine k_goto C (tgt := 8) dX0_cutSize_53 rfl ?_
        refine k_cut2 C (lv' := [(0, _), (1, _), (2, _), (3, _)]) ⟨rfl, rfl, rfl, rfl, trivial⟩ ?_
        refine l_cutSize M hB row hr ht hg C (w + 1) _ (by omega) ?_
        rw [cutI_s _ _ _ _ _ hw.1]
        first
        | (rw [iteP_pos (by refine ⟨⟨by omega, by omega, ht, hg, ?_⟩, by omega⟩; rcases hp36 with h | h; exact h.2; omega)])
        | (rw [iteP_neg (fun h => by rcases hp36 with h2 | h2; omega; exact h2.2 h.1.2.2.2.2)]; exact hc)
        | (rw [iteP_neg (fun h => by have h1 := h.1.1; have h2 := h.1.2.1; omega)]; exact hc)
      · refine k_aload_n C dX0_cutSize_33 rfl rfl ?_
        refine k_iload_n C dX0_cutSize_34 rfl rfl ?_
        refine k_iload_n C dX0_cutSize_35 rfl rfl ?_
        refine k_callV C okX0_60 dX0_cutSize_36 (c_Book_beginsWith M hB row w hr (by omega)) rfl rfl (by decide) rfl (by decide) rfl (Nat.le_of_ble_eq_true rfl) (fun r36 M36 hr36 hp36 => ?_)
        obtain ⟨rfl, hp36⟩ := hp36
        refine k_if_eq C (tgt := 50) dX0_cutSize_39 rfl (by omega) (fun c39 => ?_) (fun c39 => ?_)
        · refine k_iinc C dX0_cutSize_50 (by decide) rfl ?_
          refine k_goto C (tgt := 8) dX0_cutSize_53 rfl ?_
          refine k_cut2 C (lv' := [(0, _), (1, _), (2, _), (3, _)]) ⟨rfl, rfl, rfl, rfl, trivial⟩ ?_
          refine l_cutSize M hB row hr ht hg C (w + 1) _ (by omega) ?_
          rw [cutI_s _ _ _ _ _ hw.1]
          first
          | (rw [iteP_pos (by refine ⟨⟨by omega, by omega, ht, hg, ?_⟩, by omega⟩; rcases hp36 with h | h; exact h.2; omega)])
          | (rw [iteP_neg (fun h => by rcases hp36 with h2 | h2; omega; exact h2.2 h.1.2.2.2.2)]; exact hc)
          | (rw [iteP_neg (fun h => by have h1 := h.1.1; have h2 := h.1.2.1; omega)]; exact hc)
        · refine k_aload_n C dX0_cutSize_42 rfl rfl ?_
          refine k_iload_n C dX0_cutSize_43 rfl rfl ?_
          refine k_callV C okX0_57 dX0_cutSize_44 (c_Book_sizeOf M w (by omega)) rfl rfl (by decide) rfl (by decide) rfl (Nat.le_of_ble_eq_true rfl) (fun r44 M44 hr44 hp44 => ?_)
          obtain ⟨rfl, rfl⟩ := hp44
          refine k_iconst C dX0_cutSize_47 ?_
          refine k_isub C dX0_cutSize_48 ?_
          refine k_istore_n C dX0_cutSize_49 rfl (by decide) ?_
          refine k_iinc C dX0_cutSize_50 (by decide) rfl ?_
          refine k_goto C (tgt := 8) dX0_cutSize_53 rfl ?_
          refine k_cut2 C (lv' := [(0, _), (1, _), (2, _), (3, _)]) ⟨rfl, rfl, rfl, rfl, trivial⟩ ?_
          refine l_cutSize M hB row hr ht hg C (w + 1) _ (by omega) ?_
          rw [cutI_s _ _ _ _ _ hw.1]
          first
          | (rw [iteP_pos (by refine ⟨⟨by omega, by omega, ht, hg, ?_⟩, by omega⟩; rcases hp36 with h | h; exact h.2; omega)])
          | (rw [iteP_neg (fun h => by rcases hp36 with h2 | h2; omega; exact h2.2 h.1.2.2.2.2)]; exact hc)
          | (rw [iteP_neg (fun h => by have h1 := h.1.1; have h2 := h.1.2.1; omega)]; exact hc)
termination_by (M 3 6 - w).toNat
decreasing_by all_goals omega
set_option maxRecDepth 100000 in
theorem c_Book_cutSize (M : Mem) (hB : BkC M) (row : Int) (hr : 0 ≤ row ∧ row < M 3 6) (ht : M 7 row = 1) (hg : M 6 row = 1) : Ct shC nC yX0_cutSize cX0_cutSize 4 (some .int) (lvl 3) [.inr 3, .inl row] M (fun r M' => M = M' ∧ r = cutI (M 5) (M 6) (M 7) (M 4) row (M 3 6)) := by
  refine Ct_of (by decide +kernel) (Nat.le_of_ble_eq_true rfl) (fun K C => ?_)
  have hb1 := hB.1; have hb2 := hB.2.1; have hbr := hB.2.2 row hr.1 hr.2
  refine k_aload_n C dX0_cutSize_0 rfl rfl ?_
  refine k_iload_n C dX0_cutSize_1 rfl rfl ?_
  refine k_callV C okX0_57 dX0_cutSize_2 (c_Book_sizeOf M row (by omega)) rfl rfl (by decide) rfl (by decide) rfl (Nat.le_of_ble_eq_true rfl) (fun r2 M2 hr2 hp2 => ?_)
  obtain ⟨rfl, rfl⟩ := hp2
  refine k_istore_n C dX0_cutSize_5 rfl (by decide) ?_
  refine k_iconst C dX0_cutSize_6 ?_
  refine k_istore_n C dX0_cutSize_7 rfl (by decide) ?_
  refine k_cut2 C (lv' := [(0, _), (1, _), (2, _), (3, _)]) ⟨rfl, rfl, rfl, rfl, trivial⟩ ?_
  exact l_cutSize M hB row hr ht hg C 0 _ (by omega) rfl
set_option maxRecDepth 100000 in
theorem l_isLeftOut {K : Kt} (M : Mem) (hB : BkC M) (w : Int) (hw : 0 ≤ w ∧ w < M 3 6) (ht : M 7 w = 1) (hg : M 6 w = 0) (C : Ctx shC nC RX0 cX0_isLeftOut 3 (some .boolean) (lvl 3) (fun r M' => M = M' ∧ ((r = 1 ∧ lof (M 3 6) (M 5) (M 6) (M 7) (M 4) w) ∨ (r = 0 ∧ ¬ lof (M 3 6) (M 5) (M 6) (M 7) (M 4) w))) K) (r : Int) (hr : 0 ≤ r ∧ r ≤ M 3 6) (hj : ∀ j, 0 ≤ j → j < r → ¬ qr (M 5) (M 6) (M 7) (M 4) w j) : K 2 [(0, .inr 3), (1, .inl w), (2, .inl r)] [] M := by
  have hb1 := hB.1; have hb2 := hB.2.1; have hbw := hB.2.2 w hw.1 hw.2
  have hbr := hB.2.2 r hr.1
  refine k_iload_n C dX0_isLeftOut_2 rfl rfl ?_
  refine k_aload_n C dX0_isLeftOut_3 rfl rfl ?_
  refine k_getJ C 6 6 rfl okC0 rfl (by decide) (by decide) rfl flX0_28 dX0_isLeftOut_4 (fun _ => ?_)
  refine k_icmp_ge C (tgt := 35) dX0_isLeftOut_7 rfl (by omega) (by omega) (fun c7 => ?_) (fun c7 => ?_)
  · refine k_iconst C dX0_isLeftOut_35 ?_
    exact k_zret C dX0_isLeftOut_36 (by omega) (fun _ => ⟨rfl, Or.inr ⟨rfl, fun ⟨j, h1, h2, h3⟩ => hj j h1 (by omega) h3⟩⟩)
  · refine k_aload_n C dX0_isLeftOut_10 rfl rfl ?_
    refine k_iload_n C dX0_isLeftOut_11 rfl rfl ?_
    refine k_callV C okX0_45 dX0_isLeftOut_12 (c_Book_isRightThere M r (by omega)) rfl rfl (by decide) rfl (by decide) rfl (Nat.le_of_ble_eq_true rfl) (fun r12 M12 hr12 hp12 => ?_)
    obtain ⟨rfl, hp12⟩ := hp12
    have hbr := hbr c7
    refine k_if_eq C (tgt := 29) dX0_isLeftOut_15 rfl (by omega) (fun c15 => ?_) (fun c15 => ?_)
    · refine k_iinc C dX0_isLeftOut_29 (by decide) rfl ?_
      refine k_goto C (tgt := 2) dX0_isLeftOut_32 rfl ?_
      refine k_cut2 C (lv' := [(0, _), (1, _), (2, _)]) ⟨rfl, rfl, rfl, trivial⟩ ?_
      refine l_isLeftOut M hB w hw ht hg C (r + 1) (by omega) (fun j h1 h2 => ?_)
      by_cases h3 : j = r
      · subst h3; intro h
        first | (rcases hp21 with h4 | h4; omega; exact h4.2 h.2.2.2.2) | (have h5 := h.2.2.1; have h6 := h.2.2.2.1; omega)
      · exact hj j h1 (by omega)
    · refine k_aload_n C dX0_isLeftOut_18 rfl rfl ?_
      refine k_iload_n C dX0_isLeftOut_19 rfl rfl ?_
      refine k_iload_n C dX0_isLeftOut_20 rfl rfl ?_
      refine k_callV C okX0_60 dX0_isLeftOut_21 (c_Book_beginsWith M hB r w (by omega) hw) rfl rfl (by decide) rfl (by decide) rfl (Nat.le_of_ble_eq_true rfl) (fun r21 M21 hr21 hp21 => ?_)
      obtain ⟨rfl, hp21⟩ := hp21
      refine k_if_eq C (tgt := 29) dX0_isLeftOut_24 rfl (by omega) (fun c24 => ?_) (fun c24 => ?_)
      · refine k_iinc C dX0_isLeftOut_29 (by decide) rfl ?_
        refine k_goto C (tgt := 2) dX0_isLeftOut_32 rfl ?_
        refine k_cut2 C (lv' := [(0, _), (1, _), (2, _)]) ⟨rfl, rfl, rfl, trivial⟩ ?_
        refine l_isLeftOut M hB w hw ht hg C (r + 1) (by omega) (fun j h1 h2 => ?_)
        by_cases h3 : j = r
        · subst h3; intro h
          first | (rcases hp21 with h4 | h4; omega; exact h4.2 h.2.2.2.2) | (have h5 := h.2.2.1; have h6 := h.2.2.2.1; omega)
        · exact hj j h1 (by omega)
      · refine k_iconst C dX0_isLeftOut_27 ?_
        exact k_zret C dX0_isLeftOut_28 (by omega) (fun _ => ⟨rfl, Or.inl ⟨rfl, r, hr.1, c7, ht, hg, by omega, by omega, by rcases hp21 with h | h; exact h.2; omega⟩⟩)
termination_by (M 3 6 - r).toNat
decreasing_by all_goals omega
set_option maxRecDepth 100000 in
theorem c_Book_isLeftOut (M : Mem) (hB : BkC M) (w : Int) (hw : 0 ≤ w ∧ w < M 3 6) (ht : M 7 w = 1) (hg : M 6 w = 0) : Ct shC nC yX0_isLeftOut cX0_isLeftOut 3 (some .boolean) (lvl 3) [.inr 3, .inl w] M (fun r M' => M = M' ∧ ((r = 1 ∧ lof (M 3 6) (M 5) (M 6) (M 7) (M 4) w) ∨ (r = 0 ∧ ¬ lof (M 3 6) (M 5) (M 6) (M 7) (M 4) w))) := by
  refine Ct_of (by decide +kernel) (Nat.le_of_ble_eq_true rfl) (fun K C => ?_)
  have hb1 := hB.1; have hb2 := hB.2.1; have hbw := hB.2.2 w hw.1 hw.2
  refine k_iconst C dX0_isLeftOut_0 ?_
  refine k_istore_n C dX0_isLeftOut_1 rfl (by decide) ?_
  refine k_cut2 C (lv' := [(0, _), (1, _), (2, _)]) ⟨rfl, rfl, rfl, trivial⟩ ?_
  exact l_isLeftOut M hB w hw ht hg C 0 (by omega) (fun j h1 h2 => by omega)
set_option maxRecDepth 100000 in
theorem c_Book_standingOf (M : Mem) (hB : BkC M) (row : Int) (hr : 0 ≤ row ∧ row < M 3 6) : Ct shC nC yX0_standingOf cX0_standingOf 2 (some .int) (lvl 4) [.inr 3, .inl row] M (fun r M' => M = M' ∧ r = iteP (M 7 row = 0) 0 (iteP (M 6 row = 0) (iteP (lof (M 3 6) (M 5) (M 6) (M 7) (M 4) row) 1 0) (cutI (M 5) (M 6) (M 7) (M 4) row (M 3 6)))) := by
  refine Ct_of (by decide +kernel) (Nat.le_of_ble_eq_true rfl) (fun K C => ?_)
  have hb1 := hB.1; have hb2 := hB.2.1; have hbr := hB.2.2 row hr.1 hr.2
  refine k_aload_n C dX0_standingOf_0 rfl rfl ?_
  refine k_iload_n C dX0_standingOf_1 rfl rfl ?_
  refine k_callV C okX0_45 dX0_standingOf_2 (c_Book_isRightThere M row (by omega)) rfl rfl (by decide) rfl (by decide) rfl (Nat.le_of_ble_eq_true rfl) (fun r2 M2 hr2 hp2 => ?_)
  obtain ⟨rfl, hp2⟩ := hp2
  refine k_if_eq C (tgt := 14) dX0_standingOf_5 rfl (by omega) (fun c5 => ?_) (fun c5 => ?_)
  · refine k_aload_n C dX0_standingOf_14 rfl rfl ?_
    refine k_iload_n C dX0_standingOf_15 rfl rfl ?_
    refine k_callV C okX0_51 dX0_standingOf_16 (c_Book_isWrongThere M row (by omega)) rfl rfl (by decide) rfl (by decide) rfl (Nat.le_of_ble_eq_true rfl) (fun r16 M16 hr16 hp16 => ?_)
    obtain ⟨rfl, hp16⟩ := hp16
    refine k_if_eq C (tgt := 34) dX0_standingOf_19 rfl (by omega) (fun c19 => ?_) (fun c19 => ?_)
    · refine k_iconst C dX0_standingOf_34 ?_
      exact k_iret C dX0_standingOf_35 (by omega) (fun _ => ⟨rfl, by first | (rw [iteP_pos (by omega)]; done) | (rw [iteP_neg (by omega), iteP_pos (by omega), iteP_pos (by rcases hp24 with h | h; exact h.2; omega)]; done) | (rw [iteP_neg (by omega), iteP_pos (by omega), iteP_neg (by rcases hp24 with h | h; omega; exact h.2)]; done)⟩)
    · refine k_aload_n C dX0_standingOf_22 rfl rfl ?_
      refine k_iload_n C dX0_standingOf_23 rfl rfl ?_
      refine k_callV C okX0_54 dX0_standingOf_24 (c_Book_isLeftOut M hB row hr (by omega) (by omega)) rfl rfl (by decide) rfl (by decide) rfl (Nat.le_of_ble_eq_true rfl) (fun r24 M24 hr24 hp24 => ?_)
      obtain ⟨rfl, hp24⟩ := hp24
      refine k_if_eq C (tgt := 34) dX0_standingOf_27 rfl (by omega) (fun c27 => ?_) (fun c27 => ?_)
      · refine k_iconst C dX0_standingOf_34 ?_
        exact k_iret C dX0_standingOf_35 (by omega) (fun _ => ⟨rfl, by first | (rw [iteP_pos (by omega)]; done) | (rw [iteP_neg (by omega), iteP_pos (by omega), iteP_pos (by rcases hp24 with h | h; exact h.2; omega)]; done) | (rw [iteP_neg (by omega), iteP_pos (by omega), iteP_neg (by rcases hp24 with h | h; omega; exact h.2)]; done)⟩)
      · refine k_iconst C dX0_standingOf_30 ?_
        refine k_goto C (tgt := 35) dX0_standingOf_31 rfl ?_
        exact k_iret C dX0_standingOf_35 (by omega) (fun _ => ⟨rfl, by first | (rw [iteP_pos (by omega)]; done) | (rw [iteP_neg (by omega), iteP_pos (by omega), iteP_pos (by rcases hp24 with h | h; exact h.2; omega)]; done) | (rw [iteP_neg (by omega), iteP_pos (by omega), iteP_neg (by rcases hp24 with h | h; omega; exact h.2)]; done)⟩)
  · refine k_aload_n C dX0_standingOf_8 rfl rfl ?_
    refine k_iload_n C dX0_standingOf_9 rfl rfl ?_
    refine k_callV C okX0_48 dX0_standingOf_10 (c_Book_cutSize M hB row hr (by omega) (by omega)) rfl rfl (by decide) rfl (by decide) rfl (Nat.le_of_ble_eq_true rfl) (fun r10 M10 hr10 hp10 => ?_)
    obtain ⟨rfl, hp10⟩ := hp10
    exact k_iret C dX0_standingOf_13 (by omega) (fun _ => ⟨rfl, by rw [iteP_neg (by omega), iteP_neg (by omega)]; exact hp10⟩)
end
section
/-! isCall, Arrays.fill, Math.min and max, Line.turnRound, UsageDesk$Law (cell 23: next 24, times 25, states (23, 2)) -/
set_option maxRecDepth 100000 in
theorem c_isCall (M : Mem) (c : Int) (hc : inR c) : Ct shC nC yX10_isCall cX10_isCall 1 (some .boolean) (lvl 0) [.inl c] M (fun r M' => M = M' ∧ ((r = 1 ∧ (0 ≤ c ∧ c < 8)) ∨ (r = 0 ∧ ¬ (0 ≤ c ∧ c < 8)))) := by
  refine Ct_of (by decide +kernel) (Nat.le_of_ble_eq_true rfl) (fun K C => ?_)
  refine k_iload_n C dX10_isCall_0 rfl rfl ?_
  refine k_if_lt C (tgt := 14) dX10_isCall_1 rfl (by omega) (fun c1 => ?_) (fun c1 => ?_)
  · refine k_iconst C dX10_isCall_14 ?_
    exact k_zret C dX10_isCall_15 (by omega) (fun _ => ⟨rfl, by omega⟩)
  · refine k_iload_n C dX10_isCall_4 rfl rfl ?_
    refine k_bipush C dX10_isCall_5 (by decide) ?_
    refine k_icmp_ge C (tgt := 14) dX10_isCall_7 rfl (by omega) (by omega) (fun c7 => ?_) (fun c7 => ?_)
    · refine k_iconst C dX10_isCall_14 ?_
      exact k_zret C dX10_isCall_15 (by omega) (fun _ => ⟨rfl, by omega⟩)
    · refine k_iconst C dX10_isCall_10 ?_
      refine k_goto C (tgt := 15) dX10_isCall_11 rfl ?_
      exact k_zret C dX10_isCall_15 (by omega) (fun _ => ⟨rfl, by omega⟩)
theorem k_max {sh : Nat → Sh} {N : Nat} {own : String} {cc : ByteArray} {nL : Nat} {ret : Option FieldType} {R : Room} {post : Int → Mem → Prop} {K : Kt} {pc : Nat} {lv : Lv} {stk : List V} {M : Mem} (C : Ctx sh N own cc nL ret R post K) {index : Nat} {a b : Int} (ha : inR a) (hb' : inR b) (hw : okS own index yJ9_max_7cf53 cJ9_max_7cf53 2 (some .int) 2) (hd : decode cc pc = .ok (.invokestatic index, 3)) (hR : 1 ≤ R.frames ∧ stk.length + 13 ≤ R.locals) (kk : ∀ r, ((a < b ∧ r = b) ∨ (b ≤ a ∧ r = a)) → K (pc + 3) lv (.inl r :: stk) M) : K pc lv (.inl b :: .inl a :: stk) M := by
  obtain ⟨p, l, e, s, m, args, below, meth, c, D, cI, cZ, cB, ad, A, ⟨hx, hb, hml, hown, hts⟩, ⟨hr, hlk, hns⟩, hK, hA, hD, rfl⟩ := C
  intro hM H locs ls hP hS hl
  have ok : ∀ w ∈ va_wsS own index yJ9_max_7cf53 [.code yJ9_max_7cf53 cJ9_max_7cf53 2 (some .int)], w.before args s = true := fun w h => hts w (hw.1 w h).1
  refine va_mmax hx hb (by rw [hml]; exact hl.1.symm) hown (ok (.methodLink own index yJ9_max_7cf53) (by simp [va_wsS])) (ok (.static yJ9_max_7cf53) (by simp [va_wsS])) (ok (.initialized yJ9_max_7cf53.cls) (by simp [va_wsS])) (ok (.code yJ9_max_7cf53 cJ9_max_7cf53 2 (some .int)) (by simp [va_wsS])) hR.1 (by rw [vvs_cat]; exact hR.2) (Nat.zero_le _) (Nat.zero_le _) hd ?_
  by_cases h : a < b
  · rw [if_pos ((oI_lt ha hb').mpr h)]; exact kk b (Or.inl ⟨h, rfl⟩) hM H locs ls hP hS hl
  · rw [if_neg (fun q => h ((oI_lt ha hb').mp q))]; exact kk a (Or.inr ⟨by omega, rfl⟩) hM H locs ls hP hS hl
theorem k_min {sh : Nat → Sh} {N : Nat} {own : String} {cc : ByteArray} {nL : Nat} {ret : Option FieldType} {R : Room} {post : Int → Mem → Prop} {K : Kt} {pc : Nat} {lv : Lv} {stk : List V} {M : Mem} (C : Ctx sh N own cc nL ret R post K) {index : Nat} {a b : Int} (ha : inR a) (hb' : inR b) (hw : okS own index yJ9_min_7cf53 cJ9_min_7cf53 2 (some .int) 2) (hd : decode cc pc = .ok (.invokestatic index, 3)) (hR : 1 ≤ R.frames ∧ stk.length + 13 ≤ R.locals) (kk : ∀ r, ((b < a ∧ r = b) ∨ (a ≤ b ∧ r = a)) → K (pc + 3) lv (.inl r :: stk) M) : K pc lv (.inl b :: .inl a :: stk) M := by
  obtain ⟨p, l, e, s, m, args, below, meth, c, D, cI, cZ, cB, ad, A, ⟨hx, hb, hml, hown, hts⟩, ⟨hr, hlk, hns⟩, hK, hA, hD, rfl⟩ := C
  intro hM H locs ls hP hS hl
  have ok : ∀ w ∈ va_wsS own index yJ9_min_7cf53 [.code yJ9_min_7cf53 cJ9_min_7cf53 2 (some .int)], w.before args s = true := fun w h => hts w (hw.1 w h).1
  refine va_mmin hx hb (by rw [hml]; exact hl.1.symm) hown (ok (.methodLink own index yJ9_min_7cf53) (by simp [va_wsS])) (ok (.static yJ9_min_7cf53) (by simp [va_wsS])) (ok (.initialized yJ9_min_7cf53.cls) (by simp [va_wsS])) (ok (.code yJ9_min_7cf53 cJ9_min_7cf53 2 (some .int)) (by simp [va_wsS])) hR.1 (by rw [vvs_cat]; exact hR.2) (Nat.zero_le _) (Nat.zero_le _) hd ?_
  by_cases h : b < a
  · rw [if_pos ((oI_lt hb' ha).mpr h)]; exact kk b (Or.inl ⟨h, rfl⟩) hM H locs ls hP hS hl
  · rw [if_neg (fun q => h ((oI_lt hb' ha).mp q))]; exact kk a (Or.inr ⟨by omega, rfl⟩) hM H locs ls hP hS hl
def fillM (M : Mem) (k : Nat) (n v : Int) : Mem := fun k' i => if k' = k ∧ 0 ≤ i ∧ i < n then v else M k' i
theorem fillM_0 (M : Mem) (k : Nat) (v : Int) : fillM M k 0 v = M := by
  funext k' i; unfold fillM; rw [if_neg (by omega)]
theorem fillM_s (M : Mem) (k : Nat) {n : Int} (v : Int) (h : 0 ≤ n) : up (fillM M k n v) k n v = fillM M k (n + 1) v := by
  funext k' i
  show (if k' = k ∧ i = n then v else (if k' = k ∧ 0 ≤ i ∧ i < n then v else M k' i)) = (if k' = k ∧ 0 ≤ i ∧ i < n + 1 then v else M k' i)
  by_cases h1 : k' = k
  · by_cases h2 : i = n
    · rw [if_pos ⟨h1, h2⟩, if_pos ⟨h1, by omega, by omega⟩]
    · rw [if_neg (fun h => h2 h.2)]
      by_cases h3 : 0 ≤ i ∧ i < n
      · rw [if_pos ⟨h1, h3⟩, if_pos ⟨h1, by omega⟩]
      · rw [if_neg (fun h => h3 h.2), if_neg (fun h => h3 (by omega))]
  · rw [if_neg (fun h => h1 h.1), if_neg (fun h => h1 h.1), if_neg (fun h => h1 h.1)]
theorem fillM_ne {M : Mem} {k : Nat} {n v : Int} {j : Nat} (h : j ≠ k) : fillM M k n v j = M j := by
  funext i; unfold fillM; rw [if_neg (by omega)]
theorem fillM_in {M : Mem} {k : Nat} {n v i : Int} (h : 0 ≤ i ∧ i < n) : fillM M k n v k i = v := by unfold fillM; rw [if_pos ⟨rfl, h⟩]
set_option maxRecDepth 100000 in
theorem l_fill {K : Kt} (k n : Nat) (hsc : shC k = .inl (.int, n)) (hkc : k < nC) (hnc : n < 2147483648) (M : Mem) (v : Int) (hv : inR v) (C : Ctx shC nC RJ7 cJ7_fill_53178 4 none (lvl 0) (fun _ M' => M' = fillM M k n v) K) (i : Int) (hi : 0 ≤ i ∧ i ≤ n) : K 5 [(0, .inr k), (1, .inl v), (2, .inl i), (3, .inl (n : Int))] [] (fillM M k i v) := by
  refine k_iload_n C dJ7_fill_53178_5 rfl rfl ?_
  refine k_iload_n C dJ7_fill_53178_6 rfl rfl ?_
  refine k_icmp_ge C (tgt := 20) dJ7_fill_53178_7 rfl (by omega) (by omega) (fun c7 => ?_) (fun c7 => ?_)
  · exact k_vret C dJ7_fill_53178_20 (fun _ => by rw [show i = (n : Int) by omega])
  · refine k_aload_n C dJ7_fill_53178_10 rfl rfl ?_
    refine k_iload_n C dJ7_fill_53178_11 rfl rfl ?_
    refine k_iload_n C dJ7_fill_53178_12 rfl rfl ?_
    refine k_iastore C hsc hkc hnc ⟨by omega, by omega⟩ (by omega) dJ7_fill_53178_13 ?_
    refine k_iinc C dJ7_fill_53178_14 (by decide) rfl ?_
    refine k_goto C (tgt := 5) dJ7_fill_53178_17 rfl ?_
    refine k_cut2 C (lv' := [(0, _), (1, _), (2, _), (3, _)]) ⟨rfl, rfl, rfl, rfl, trivial⟩ ?_
    rw [fillM_s M k v hi.1]
    exact l_fill k n hsc hkc hnc M v hv C (i + 1) (by omega)
termination_by ((n : Int) - i).toNat
decreasing_by all_goals omega
set_option maxRecDepth 100000 in
theorem c_fill (k n : Nat) (hsc : shC k = .inl (.int, n)) (hkc : k < nC) (hnc : n < 2147483648) (M : Mem) (v : Int) (hv : inR v) : Ct shC nC yJ7_fill_53178 cJ7_fill_53178 4 none (lvl 0) [.inr k, .inl v] M (fun _ M' => M' = fillM M k n v) := by
  refine Ct_of (by decide +kernel) (Nat.le_of_ble_eq_true rfl) (fun K C => ?_)
  refine k_iconst C dJ7_fill_53178_0 ?_
  refine k_istore_n C dJ7_fill_53178_1 rfl (by decide) ?_
  refine k_aload_n C dJ7_fill_53178_2 rfl rfl ?_
  refine k_len C hsc hkc (by decide) dJ7_fill_53178_3 (fun n3 hn3 => ?_)
  subst hn3
  refine k_istore_n C dJ7_fill_53178_4 rfl (by decide) ?_
  refine k_cut2 C (lv' := [(0, _), (1, _), (2, _), (3, _)]) ⟨rfl, rfl, rfl, rfl, trivial⟩ ?_
  have h := l_fill k n hsc hkc hnc M v hv C 0 (by omega)
  rw [fillM_0] at h
  exact h
set_option maxRecDepth 100000 in
theorem c_Law_hasState (M : Mem) (s : Int) (hs : inR s) : Ct shC nC yX4_hasState cX4_hasState 2 (some .boolean) (lvl 0) [.inr 23, .inl s] M (fun r M' => M = M' ∧ ((r = 1 ∧ (0 ≤ s ∧ s < M 23 2 ∧ s < 30)) ∨ (r = 0 ∧ ¬ (0 ≤ s ∧ s < M 23 2 ∧ s < 30)))) := by
  refine Ct_of (by decide +kernel) (Nat.le_of_ble_eq_true rfl) (fun K C => ?_)
  refine k_iload_n C dX4_hasState_0 rfl rfl ?_
  refine k_if_lt C (tgt := 22) dX4_hasState_1 rfl (by omega) (fun c1 => ?_) (fun c1 => ?_)
  · refine k_iconst C dX4_hasState_22 ?_
    exact k_zret C dX4_hasState_23 (by omega) (fun _ => ⟨rfl, by omega⟩)
  · refine k_iload_n C dX4_hasState_4 rfl rfl ?_
    refine k_aload_n C dX4_hasState_5 rfl rfl ?_
    refine k_getJ C 2 2 rfl okC4 rfl (by decide) (by decide) rfl flX4_24 dX4_hasState_6 (fun _ => ?_)
    refine k_icmp_ge C (tgt := 22) dX4_hasState_9 rfl (by omega) (by omega) (fun c9 => ?_) (fun c9 => ?_)
    · refine k_iconst C dX4_hasState_22 ?_
      exact k_zret C dX4_hasState_23 (by omega) (fun _ => ⟨rfl, by omega⟩)
    · refine k_iload_n C dX4_hasState_12 rfl rfl ?_
      refine k_bipush C dX4_hasState_13 (by decide) ?_
      refine k_icmp_ge C (tgt := 22) dX4_hasState_15 rfl (by omega) (by omega) (fun c15 => ?_) (fun c15 => ?_)
      · refine k_iconst C dX4_hasState_22 ?_
        exact k_zret C dX4_hasState_23 (by omega) (fun _ => ⟨rfl, by omega⟩)
      · refine k_iconst C dX4_hasState_18 ?_
        refine k_goto C (tgt := 23) dX4_hasState_19 rfl ?_
        exact k_zret C dX4_hasState_23 (by omega) (fun _ => ⟨rfl, by omega⟩)
set_option maxRecDepth 100000 in
theorem c_Law_after (M : Mem) (s c : Int) (hs : inR s) (hc : inR c) : Ct shC nC yX4_after cX4_after 3 (some .int) (lvl 1) [.inr 23, .inl s, .inl c] M (fun r M' => M = M' ∧ (((0 ≤ s ∧ s < M 23 2 ∧ s < 30 ∧ 0 ≤ c ∧ c < 8) ∧ r = M 24 (8 * s + c)) ∨ (¬ (0 ≤ s ∧ s < M 23 2 ∧ s < 30 ∧ 0 ≤ c ∧ c < 8) ∧ r = -1))) := by
  refine Ct_of (by decide +kernel) (Nat.le_of_ble_eq_true rfl) (fun K C => ?_)
  refine k_aload_n C dX4_after_0 rfl rfl ?_
  refine k_iload_n C dX4_after_1 rfl rfl ?_
  refine k_callV C okX4_28 dX4_after_2 (c_Law_hasState M s (by omega)) rfl rfl (by decide) rfl (by decide) rfl (Nat.le_of_ble_eq_true rfl) (fun r2 M2 hr2 hp2 => ?_)
  obtain ⟨rfl, hp2⟩ := hp2
  refine k_if_eq C (tgt := 29) dX4_after_5 rfl (by omega) (fun c5 => ?_) (fun c5 => ?_)
  · refine k_iconst C dX4_after_29 ?_
    exact k_iret C dX4_after_30 (by omega) (fun _ => ⟨rfl, by first | omega | exact Or.inl ⟨by omega, by rw [Int.mul_comm]⟩⟩)
  · refine k_iload_n C dX4_after_8 rfl rfl ?_
    refine k_callN C okX4_32 dX4_after_9 (c_isCall M c (by omega)) rfl (by decide) rfl (Nat.le_of_ble_eq_true rfl) (fun r9 M9 hr9 hp9 => ?_)
    obtain ⟨rfl, hp9⟩ := hp9
    refine k_if_eq C (tgt := 29) dX4_after_12 rfl (by omega) (fun c12 => ?_) (fun c12 => ?_)
    · refine k_iconst C dX4_after_29 ?_
      exact k_iret C dX4_after_30 (by omega) (fun _ => ⟨rfl, by first | omega | exact Or.inl ⟨by omega, by rw [Int.mul_comm]⟩⟩)
    · refine k_aload_n C dX4_after_15 rfl rfl ?_
      refine k_getR C (j := 0) okC4 rfl (by decide) (by decide) rfl flX4_9 dX4_after_16 ?_
      refine k_iload_n C dX4_after_19 rfl rfl ?_
      refine k_bipush C dX4_after_20 (by decide) ?_
      refine k_imul C dX4_after_22 ?_
      refine k_iload_n C dX4_after_23 rfl rfl ?_
      refine k_iadd C dX4_after_24 ?_
      refine k_iaload C rfl (by decide) (by decide) ⟨by omega, by omega⟩ dX4_after_25 (fun _ => ?_)
      refine k_goto C (tgt := 30) dX4_after_26 rfl ?_
      exact k_iret C dX4_after_30 (by omega) (fun _ => ⟨rfl, by first | omega | exact Or.inl ⟨by omega, by rw [Int.mul_comm]⟩⟩)
set_option maxRecDepth 100000 in
theorem c_Law_timesOver (M : Mem) (s c : Int) (hs : inR s) (hc : inR c) : Ct shC nC yX4_timesOver cX4_timesOver 3 (some .int) (lvl 1) [.inr 23, .inl s, .inl c] M (fun r M' => M = M' ∧ (((0 ≤ s ∧ s < M 23 2 ∧ s < 30 ∧ 0 ≤ c ∧ c < 8) ∧ r = M 25 (8 * s + c)) ∨ (¬ (0 ≤ s ∧ s < M 23 2 ∧ s < 30 ∧ 0 ≤ c ∧ c < 8) ∧ r = 0))) := by
  refine Ct_of (by decide +kernel) (Nat.le_of_ble_eq_true rfl) (fun K C => ?_)
  refine k_aload_n C dX4_timesOver_0 rfl rfl ?_
  refine k_iload_n C dX4_timesOver_1 rfl rfl ?_
  refine k_callV C okX4_28 dX4_timesOver_2 (c_Law_hasState M s (by omega)) rfl rfl (by decide) rfl (by decide) rfl (Nat.le_of_ble_eq_true rfl) (fun r2 M2 hr2 hp2 => ?_)
  obtain ⟨rfl, hp2⟩ := hp2
  refine k_if_eq C (tgt := 29) dX4_timesOver_5 rfl (by omega) (fun c5 => ?_) (fun c5 => ?_)
  · refine k_iconst C dX4_timesOver_29 ?_
    exact k_iret C dX4_timesOver_30 (by omega) (fun _ => ⟨rfl, by first | omega | exact Or.inl ⟨by omega, by rw [Int.mul_comm]⟩⟩)
  · refine k_iload_n C dX4_timesOver_8 rfl rfl ?_
    refine k_callN C okX4_32 dX4_timesOver_9 (c_isCall M c (by omega)) rfl (by decide) rfl (Nat.le_of_ble_eq_true rfl) (fun r9 M9 hr9 hp9 => ?_)
    obtain ⟨rfl, hp9⟩ := hp9
    refine k_if_eq C (tgt := 29) dX4_timesOver_12 rfl (by omega) (fun c12 => ?_) (fun c12 => ?_)
    · refine k_iconst C dX4_timesOver_29 ?_
      exact k_iret C dX4_timesOver_30 (by omega) (fun _ => ⟨rfl, by first | omega | exact Or.inl ⟨by omega, by rw [Int.mul_comm]⟩⟩)
    · refine k_aload_n C dX4_timesOver_15 rfl rfl ?_
      refine k_getR C (j := 1) okC4 rfl (by decide) (by decide) rfl flX4_15 dX4_timesOver_16 ?_
      refine k_iload_n C dX4_timesOver_19 rfl rfl ?_
      refine k_bipush C dX4_timesOver_20 (by decide) ?_
      refine k_imul C dX4_timesOver_22 ?_
      refine k_iload_n C dX4_timesOver_23 rfl rfl ?_
      refine k_iadd C dX4_timesOver_24 ?_
      refine k_iaload C rfl (by decide) (by decide) ⟨by omega, by omega⟩ dX4_timesOver_25 (fun _ => ?_)
      refine k_goto C (tgt := 30) dX4_timesOver_26 rfl ?_
      exact k_iret C dX4_timesOver_30 (by omega) (fun _ => ⟨rfl, by first | omega | exact Or.inl ⟨by omega, by rw [Int.mul_comm]⟩⟩)
set_option maxRecDepth 100000 in
theorem c_Law_clear (M : Mem) (n : Int) (hn : inR n) : Ct shC nC yX4_clear cX4_clear 2 none (lvl 1) [.inr 23, .inl n] M (fun _ M' => M' = up (fillM (fillM M 24 240 (-1)) 25 240 0) 23 2 n) := by
  refine Ct_of (by decide +kernel) (Nat.le_of_ble_eq_true rfl) (fun K C => ?_)
  refine k_aload_n C dX4_clear_0 rfl rfl ?_
  refine k_getR C (j := 0) okC4 rfl (by decide) (by decide) rfl flX4_9 dX4_clear_1 ?_
  refine k_iconst C dX4_clear_4 ?_
  refine k_callS C okX4_18 dX4_clear_5 (c_fill 24 240 rfl (by decide) (by decide) _ (-1) (by decide)) rfl (by decide) rfl (Nat.le_of_ble_eq_true rfl) (fun r5 M5 hr5 hp5 => ?_)
  subst hp5
  refine k_aload_n C dX4_clear_8 rfl rfl ?_
  refine k_getR C (j := 1) okC4 rfl (by decide) (by decide) rfl flX4_15 dX4_clear_9 ?_
  refine k_iconst C dX4_clear_12 ?_
  refine k_callS C okX4_18 dX4_clear_13 (c_fill 25 240 rfl (by decide) (by decide) _ 0 (by decide)) rfl (by decide) rfl (Nat.le_of_ble_eq_true rfl) (fun r13 M13 hr13 hp13 => ?_)
  subst hp13
  refine k_aload_n C dX4_clear_16 rfl rfl ?_
  refine k_iload_n C dX4_clear_17 rfl rfl ?_
  refine k_putJ C 2 2 rfl okC4 rfl (by decide) (by decide) rfl rfl rfl (by omega) flX4_24 dX4_clear_18 ?_
  exact k_vret C dX4_clear_21 (fun _ => rfl)
set_option maxRecDepth 100000 in
theorem c_Law_setStep (M : Mem) (s c t : Int) (hs : 0 ≤ s ∧ s < M 23 2 ∧ s < 30) (hc : 0 ≤ c ∧ c < 8) (ht : inR t) : Ct shC nC yX4_setStep cX4_setStep 4 none (lvl 1) [.inr 23, .inl s, .inl c, .inl t] M (fun _ M' => M' = up M 24 (8 * s + c) t) := by
  refine Ct_of (by decide +kernel) (Nat.le_of_ble_eq_true rfl) (fun K C => ?_)
  refine k_aload_n C dX4_setStep_0 rfl rfl ?_
  refine k_iload_n C dX4_setStep_1 rfl rfl ?_
  refine k_callV C okX4_28 dX4_setStep_2 (c_Law_hasState M s (by omega)) rfl rfl (by decide) rfl (by decide) rfl (Nat.le_of_ble_eq_true rfl) (fun r2 M2 hr2 hp2 => ?_)
  obtain ⟨rfl, hp2⟩ := hp2
  refine k_if_eq C (tgt := 27) dX4_setStep_5 rfl (by omega) (fun c5 => ?_) (fun c5 => ?_)
  · exact k_vret C dX4_setStep_27 (fun _ => by first | omega | rw [Int.mul_comm])
  · refine k_iload_n C dX4_setStep_8 rfl rfl ?_
    refine k_callN C okX4_32 dX4_setStep_9 (c_isCall M c (by omega)) rfl (by decide) rfl (Nat.le_of_ble_eq_true rfl) (fun r9 M9 hr9 hp9 => ?_)
    obtain ⟨rfl, hp9⟩ := hp9
    refine k_if_eq C (tgt := 27) dX4_setStep_12 rfl (by omega) (fun c12 => ?_) (fun c12 => ?_)
    · exact k_vret C dX4_setStep_27 (fun _ => by first | omega | rw [Int.mul_comm])
    · refine k_aload_n C dX4_setStep_15 rfl rfl ?_
      refine k_getR C (j := 0) okC4 rfl (by decide) (by decide) rfl flX4_9 dX4_setStep_16 ?_
      refine k_iload_n C dX4_setStep_19 rfl rfl ?_
      refine k_bipush C dX4_setStep_20 (by decide) ?_
      refine k_imul C dX4_setStep_22 ?_
      refine k_iload_n C dX4_setStep_23 rfl rfl ?_
      refine k_iadd C dX4_setStep_24 ?_
      refine k_iload_n C dX4_setStep_25 rfl rfl ?_
      refine k_iastore C rfl (by decide) (by decide) ⟨by omega, by omega⟩ (by omega) dX4_setStep_26 ?_
      exact k_vret C dX4_setStep_27 (fun _ => by first | omega | rw [Int.mul_comm])
noncomputable def cnf (P : Int → Prop) : Nat → Int
  | 0 => 0
  | n + 1 => cnf P n + iteP (P n) 1 0
noncomputable def cnI (P : Int → Prop) (n : Int) : Int := cnf P n.toNat
theorem cnI_s (P : Int → Prop) {n : Int} (h : 0 ≤ n) : cnI P (n + 1) = cnI P n + iteP (P n) 1 0 := by
  unfold cnI
  have e : (n + 1).toNat = n.toNat + 1 := by omega
  have e2 : ((n.toNat : Nat) : Int) = n := by omega
  rw [e]
  simp only [cnf, e2]
theorem cnf_rg (P : Int → Prop) : ∀ n, 0 ≤ cnf P n ∧ cnf P n ≤ n
  | 0 => by simp [cnf]
  | n + 1 => by
    have ih := cnf_rg P n
    simp only [cnf]
    by_cases h : P n
    · rw [iteP_pos h]; omega
    · rw [iteP_neg h]; omega
theorem cnI_rg (P : Int → Prop) {n : Int} (h : 0 ≤ n) : 0 ≤ cnI P n ∧ cnI P n ≤ n := by
  have := cnf_rg P n.toNat
  unfold cnI; omega
set_option maxRecDepth 100000 in
theorem l_countSteps {K : Kt} (M : Mem) (C : Ctx shC nC RX4 cX4_countSteps 3 (some .int) (lvl 0) (fun r M' => M = M' ∧ r = cnI (fun i => ¬ M 24 i = -1) 240) K) (sum i : Int) (hi : 0 ≤ i ∧ i ≤ 240) (hs : sum = cnI (fun i => ¬ M 24 i = -1) i) : K 4 [(0, .inr 23), (1, .inl sum), (2, .inl i)] [] M := by
  have hq := cnI_rg (fun i => ¬ M 24 i = -1) hi.1
  refine k_iload_n C dX4_countSteps_4 rfl rfl ?_
  refine k_sipush C dX4_countSteps_5 (by decide) ?_
  refine k_icmp_ge C (tgt := 35) dX4_countSteps_8 rfl (by omega) (by omega) (fun c8 => ?_) (fun c8 => ?_)
  · refine k_iload_n C dX4_countSteps_35 rfl rfl ?_
    exact k_iret C dX4_countSteps_36 (by omega) (fun _ => ⟨rfl, by rw [hs, show i = 240 by omega]⟩)
  · refine k_iload_n C dX4_countSteps_11 rfl rfl ?_
    refine k_aload_n C dX4_countSteps_12 rfl rfl ?_
    refine k_getR C (j := 0) okC4 rfl (by decide) (by decide) rfl flX4_9 dX4_countSteps_13 ?_
    refine k_iload_n C dX4_countSteps_16 rfl rfl ?_
    refine k_iaload C rfl (by decide) (by decide) ⟨by omega, by omega⟩ dX4_countSteps_17 (fun _ => ?_)
    refine k_iconst C dX4_countSteps_18 ?_
    refine k_icmp_eq C (tgt := 26) dX4_countSteps_19 rfl (by omega) (by omega) (fun c19 => ?_) (fun c19 => ?_)
    · refine k_iconst C dX4_countSteps_26 ?_
      refine k_iadd C dX4_countSteps_27 ?_
      refine k_istore_n C dX4_countSteps_28 rfl (by decide) ?_
      refine k_iinc C dX4_countSteps_29 (by decide) rfl ?_
      refine k_goto C (tgt := 4) dX4_countSteps_32 rfl ?_
      refine k_cut2 C (lv' := [(0, _), (1, _), (2, _)]) ⟨rfl, rfl, rfl, trivial⟩ ?_
      refine l_countSteps M C _ _ (by omega) ?_
      rw [cnI_s _ hi.1]
      first | (rw [iteP_pos c19, hs]; done) | (rw [iteP_neg (fun h => h c19), hs]; done)
    · refine k_iconst C dX4_countSteps_22 ?_
      refine k_goto C (tgt := 27) dX4_countSteps_23 rfl ?_
      refine k_iadd C dX4_countSteps_27 ?_
      refine k_istore_n C dX4_countSteps_28 rfl (by decide) ?_
      refine k_iinc C dX4_countSteps_29 (by decide) rfl ?_
      refine k_goto C (tgt := 4) dX4_countSteps_32 rfl ?_
      refine k_cut2 C (lv' := [(0, _), (1, _), (2, _)]) ⟨rfl, rfl, rfl, trivial⟩ ?_
      refine l_countSteps M C _ _ (by omega) ?_
      rw [cnI_s _ hi.1]
      first | (rw [iteP_pos c19, hs]; done) | (rw [iteP_neg (fun h => h c19), hs]; done)
termination_by (240 - i).toNat
decreasing_by all_goals omega
set_option maxRecDepth 100000 in
theorem c_Law_countSteps (M : Mem) : Ct shC nC yX4_countSteps cX4_countSteps 3 (some .int) (lvl 0) [.inr 23] M (fun r M' => M = M' ∧ r = cnI (fun i => ¬ M 24 i = -1) 240) := by
  refine Ct_of (by decide +kernel) (Nat.le_of_ble_eq_true rfl) (fun K C => ?_)
  refine k_iconst C dX4_countSteps_0 ?_
  refine k_istore_n C dX4_countSteps_1 rfl (by decide) ?_
  refine k_iconst C dX4_countSteps_2 ?_
  refine k_istore_n C dX4_countSteps_3 rfl (by decide) ?_
  refine k_cut2 C (lv' := [(0, _), (1, _), (2, _)]) ⟨rfl, rfl, rfl, trivial⟩ ?_
  exact l_countSteps M C _ _ (by omega) rfl
set_option maxRecDepth 100000 in
theorem l_stepsBelow {K : Kt} (M : Mem) (n : Int) (hn : inR n) (C : Ctx shC nC RX4 cX4_stepsBelow 4 (some .int) (lvl 0) (fun r M' => M = M' ∧ r = cnI (fun i => ¬ M 24 i = -1 ∧ M 25 i < n) 240) K) (sum i : Int) (hi : 0 ≤ i ∧ i ≤ 240) (hs : sum = cnI (fun i => ¬ M 24 i = -1 ∧ M 25 i < n) i) : K 4 [(0, .inr 23), (1, .inl n), (2, .inl sum), (3, .inl i)] [] M := by
  have hq := cnI_rg (fun i => ¬ M 24 i = -1 ∧ M 25 i < n) hi.1
  refine k_iload_n C dX4_stepsBelow_4 rfl rfl ?_
  refine k_sipush C dX4_stepsBelow_5 (by decide) ?_
  refine k_icmp_ge C (tgt := 45) dX4_stepsBelow_8 rfl (by omega) (by omega) (fun c8 => ?_) (fun c8 => ?_)
  · refine k_iload_n C dX4_stepsBelow_45 rfl rfl ?_
    exact k_iret C dX4_stepsBelow_46 (by omega) (fun _ => ⟨rfl, by rw [hs, show i = 240 by omega]⟩)
  · refine k_iload_n C dX4_stepsBelow_11 rfl rfl ?_
    refine k_aload_n C dX4_stepsBelow_12 rfl rfl ?_
    refine k_getR C (j := 0) okC4 rfl (by decide) (by decide) rfl flX4_9 dX4_stepsBelow_13 ?_
    refine k_iload_n C dX4_stepsBelow_16 rfl rfl ?_
    refine k_iaload C rfl (by decide) (by decide) ⟨by omega, by omega⟩ dX4_stepsBelow_17 (fun _ => ?_)
    refine k_iconst C dX4_stepsBelow_18 ?_
    refine k_icmp_eq C (tgt := 36) dX4_stepsBelow_19 rfl (by omega) (by omega) (fun c19 => ?_) (fun c19 => ?_)
    · refine k_iconst C dX4_stepsBelow_36 ?_
      refine k_iadd C dX4_stepsBelow_37 ?_
      refine k_istore_n C dX4_stepsBelow_38 rfl (by decide) ?_
      refine k_iinc C dX4_stepsBelow_39 (by decide) rfl ?_
      refine k_goto C (tgt := 4) dX4_stepsBelow_42 rfl ?_
      refine k_cut2 C (lv' := [(0, _), (1, _), (2, _), (3, _)]) ⟨rfl, rfl, rfl, rfl, trivial⟩ ?_
      refine l_stepsBelow M n hn C _ _ (by omega) ?_
      rw [cnI_s _ hi.1]
      first | (rw [iteP_pos ⟨c19, c29⟩, hs]; done) | (rw [iteP_neg (fun h => by have := h.2; omega), hs]; done) | (rw [iteP_neg (fun h => h.1 c19), hs]; done)
    · refine k_aload_n C dX4_stepsBelow_22 rfl rfl ?_
      refine k_getR C (j := 1) okC4 rfl (by decide) (by decide) rfl flX4_15 dX4_stepsBelow_23 ?_
      refine k_iload_n C dX4_stepsBelow_26 rfl rfl ?_
      refine k_iaload C rfl (by decide) (by decide) ⟨by omega, by omega⟩ dX4_stepsBelow_27 (fun _ => ?_)
      refine k_iload_n C dX4_stepsBelow_28 rfl rfl ?_
      refine k_icmp_ge C (tgt := 36) dX4_stepsBelow_29 rfl (by omega) (by omega) (fun c29 => ?_) (fun c29 => ?_)
      · refine k_iconst C dX4_stepsBelow_36 ?_
        refine k_iadd C dX4_stepsBelow_37 ?_
        refine k_istore_n C dX4_stepsBelow_38 rfl (by decide) ?_
        refine k_iinc C dX4_stepsBelow_39 (by decide) rfl ?_
        refine k_goto C (tgt := 4) dX4_stepsBelow_42 rfl ?_
        refine k_cut2 C (lv' := [(0, _), (1, _), (2, _), (3, _)]) ⟨rfl, rfl, rfl, rfl, trivial⟩ ?_
        refine l_stepsBelow M n hn C _ _ (by omega) ?_
        rw [cnI_s _ hi.1]
        first | (rw [iteP_pos ⟨c19, c29⟩, hs]; done) | (rw [iteP_neg (fun h => by have := h.2; omega), hs]; done) | (rw [iteP_neg (fun h => h.1 c19), hs]; done)
      · refine k_iconst C dX4_stepsBelow_32 ?_
        refine k_goto C (tgt := 37) dX4_stepsBelow_33 rfl ?_
        refine k_iadd C dX4_stepsBelow_37 ?_
        refine k_istore_n C dX4_stepsBelow_38 rfl (by decide) ?_
        refine k_iinc C dX4_stepsBelow_39 (by decide) rfl ?_
        refine k_goto C (tgt := 4) dX4_stepsBelow_42 rfl ?_
        refine k_cut2 C (lv' := [(0, _), (1, _), (2, _), (3, _)]) ⟨rfl, rfl, rfl, rfl, trivial⟩ ?_
        refine l_stepsBelow M n hn C _ _ (by omega) ?_
        rw [cnI_s _ hi.1]
        first | (rw [iteP_pos ⟨c19, c29⟩, hs]; done) | (rw [iteP_neg (fun h => by have := h.2; omega), hs]; done) | (rw [iteP_neg (fun h => h.1 c19), hs]; done)
termination_by (240 - i).toNat
decreasing_by all_goals omega
set_option maxRecDepth 100000 in
theorem c_Law_stepsBelow (M : Mem) (n : Int) (hn : inR n) : Ct shC nC yX4_stepsBelow cX4_stepsBelow 4 (some .int) (lvl 0) [.inr 23, .inl n] M (fun r M' => M = M' ∧ r = cnI (fun i => ¬ M 24 i = -1 ∧ M 25 i < n) 240) := by
  refine Ct_of (by decide +kernel) (Nat.le_of_ble_eq_true rfl) (fun K C => ?_)
  refine k_iconst C dX4_stepsBelow_0 ?_
  refine k_istore_n C dX4_stepsBelow_1 rfl (by decide) ?_
  refine k_iconst C dX4_stepsBelow_2 ?_
  refine k_istore_n C dX4_stepsBelow_3 rfl (by decide) ?_
  refine k_cut2 C (lv' := [(0, _), (1, _), (2, _), (3, _)]) ⟨rfl, rfl, rfl, rfl, trivial⟩ ?_
  exact l_stepsBelow M n hn C _ _ (by omega) rfl
end
section
/-! HABITS: pure words; UsageDesk$Habits (cell 51: have 52, holds 53, lastPlace 54) -/
def hasx (sz ca : Int → Int) (r x : Int) : Prop := ∃ i, 0 ≤ i ∧ i < sz r ∧ ca (12 * r + i) = x
def hld (sz ca : Int → Int) (r x y : Int) : Prop := hasx sz ca r x ∧ ∀ i, 0 ≤ i → i < sz r → ca (12 * r + i) = x → ∃ j, i < j ∧ j < sz r ∧ ca (12 * r + j) = y
def hvP (sz rt th ca : Int → Int) (x : Int) : Int → Prop := fun r => th r = 1 ∧ rt r = 1 ∧ hasx sz ca r x
def hoP (sz rt th ca : Int → Int) (x y : Int) : Int → Prop := fun r => th r = 1 ∧ rt r = 1 ∧ hld sz ca r x y
/-- lp x is the last place of x among the first n calls of row r -/
def lastP (ca : Int → Int) (r n : Int) (lp : Int → Int) : Prop := ∀ x, 0 ≤ x → x < 8 → (lp x = -1 ∧ ∀ i, 0 ≤ i → i < n → ¬ ca (12 * r + i) = x) ∨ (0 ≤ lp x ∧ lp x < n ∧ ca (12 * r + lp x) = x ∧ ∀ i, lp x < i → i < n → ¬ ca (12 * r + i) = x)
theorem lastP_has {sz ca : Int → Int} {r : Int} {lp : Int → Int} (h : lastP ca r (sz r) lp) {x : Int} (hx : 0 ≤ x ∧ x < 8) : hasx sz ca r x ↔ ¬ lp x = -1 := by
  rcases h x hx.1 hx.2 with ⟨h1, h2⟩ | ⟨h1, h2, h3, h4⟩
  · constructor
    · rintro ⟨i, a, b, c⟩; exact absurd c (h2 i a b)
    · intro q; exact absurd h1 q
  · exact ⟨fun _ => by omega, fun _ => ⟨lp x, h1, h2, h3⟩⟩
theorem lastP_hld {sz ca : Int → Int} {r : Int} {lp : Int → Int} (h : lastP ca r (sz r) lp) {x y : Int} (hx : 0 ≤ x ∧ x < 8) (hy : 0 ≤ y ∧ y < 8) : hld sz ca r x y ↔ ¬ lp x = -1 ∧ lp x < lp y := by
  constructor
  · rintro ⟨ha, hb⟩
    have hn := (lastP_has h hx).mp ha
    rcases h x hx.1 hx.2 with ⟨h1, h2⟩ | ⟨h1, h2, h3, h4⟩
    · exact absurd h1 hn
    · obtain ⟨j, a, b, c⟩ := hb _ h1 h2 h3
      refine ⟨hn, ?_⟩
      rcases h y hy.1 hy.2 with ⟨g1, g2⟩ | ⟨g1, g2, g3, g4⟩
      · exact absurd c (g2 j (by omega) b)
      · by_cases hlt : lp y < j
        · exact absurd c (g4 j hlt b)
        · omega
  · rintro ⟨hn, hlt⟩
    refine ⟨(lastP_has h hx).mpr hn, fun i a b c => ?_⟩
    rcases h x hx.1 hx.2 with ⟨h1, h2⟩ | ⟨h1, h2, h3, h4⟩
    · exact absurd h1 hn
    · rcases h y hy.1 hy.2 with ⟨g1, g2⟩ | ⟨g1, g2, g3, g4⟩
      · omega
      · refine ⟨lp y, ?_, g2, g3⟩
        by_cases hi : lp x < i
        · exact absurd c (h4 i hi b)
        · omega
theorem lastP_s {ca : Int → Int} {r n : Int} {lp lp' : Int → Int} (h : lastP ca r n lp) (hn : 0 ≤ n) (hc : 0 ≤ ca (12 * r + n) ∧ ca (12 * r + n) < 8) (e : ∀ x, lp' x = if x = ca (12 * r + n) then n else lp x) : lastP ca r (n + 1) lp' := by
  intro x h0 h1
  rw [e x]
  by_cases hx : x = ca (12 * r + n)
  · rw [if_pos hx]
    exact Or.inr ⟨hn, by omega, hx.symm, fun i a b => by omega⟩
  · rw [if_neg hx]
    have key : ∀ i, i < n + 1 → (i < n → ¬ ca (12 * r + i) = x) → ¬ ca (12 * r + i) = x := by
      intro i a b q
      by_cases hi : i < n
      · exact b hi q
      · have : i = n := by omega
        subst this
        exact hx q.symm
    rcases h x h0 h1 with ⟨h2, h3⟩ | ⟨h2, h3, h4, h5⟩
    · exact Or.inl ⟨h2, fun i a b => key i b (fun c => h3 i a c)⟩
    · exact Or.inr ⟨h2, by omega, h4, fun i a b => key i b (fun c => h5 i a c)⟩
set_option maxRecDepth 100000 in
theorem c_Habits_having (M : Mem) (x : Int) (hx : 0 ≤ x ∧ x < 8) : Ct shC nC yX2_having cX2_having 2 (some .int) (lvl 1) [.inr 51, .inl x] M (fun r M' => M = M' ∧ r = M 52 x) := by
  refine Ct_of (by decide +kernel) (Nat.le_of_ble_eq_true rfl) (fun K C => ?_)
  refine k_iload_n C dX2_having_0 rfl rfl ?_
  refine k_callN C okX2_25 dX2_having_1 (c_isCall M x (by omega)) rfl (by decide) rfl (Nat.le_of_ble_eq_true rfl) (fun r1 M1 hr1 hp1 => ?_)
  obtain ⟨rfl, hp1⟩ := hp1
  refine k_if_eq C (tgt := 16) dX2_having_4 rfl (by omega) (fun c4 => ?_) (fun c4 => ?_)
  · refine k_iconst C dX2_having_16 ?_
    exact k_iret C dX2_having_17 (by omega) (fun _ => ⟨rfl, by first | rfl | omega⟩)
  · refine k_aload_n C dX2_having_7 rfl rfl ?_
    refine k_getR C (j := 1) okC2 rfl (by decide) (by decide) rfl flX2_9 dX2_having_8 ?_
    refine k_iload_n C dX2_having_11 rfl rfl ?_
    refine k_iaload C rfl (by decide) (by decide) ⟨by omega, by omega⟩ dX2_having_12 (fun _ => ?_)
    refine k_goto C (tgt := 17) dX2_having_13 rfl ?_
    exact k_iret C dX2_having_17 (by omega) (fun _ => ⟨rfl, by first | rfl | omega⟩)
set_option maxRecDepth 100000 in
theorem c_Habits_holding (M : Mem) (x y : Int) (hx : 0 ≤ x ∧ x < 8) (hy : 0 ≤ y ∧ y < 8) : Ct shC nC yX2_holding cX2_holding 3 (some .int) (lvl 1) [.inr 51, .inl x, .inl y] M (fun r M' => M = M' ∧ r = M 53 (8 * x + y)) := by
  refine Ct_of (by decide +kernel) (Nat.le_of_ble_eq_true rfl) (fun K C => ?_)
  refine k_iload_n C dX2_holding_0 rfl rfl ?_
  refine k_callN C okX2_25 dX2_holding_1 (c_isCall M x (by omega)) rfl (by decide) rfl (Nat.le_of_ble_eq_true rfl) (fun r1 M1 hr1 hp1 => ?_)
  obtain ⟨rfl, hp1⟩ := hp1
  refine k_if_eq C (tgt := 28) dX2_holding_4 rfl (by omega) (fun c4 => ?_) (fun c4 => ?_)
  · refine k_iconst C dX2_holding_28 ?_
    exact k_iret C dX2_holding_29 (by omega) (fun _ => ⟨rfl, by first | omega | rw [Int.mul_comm]⟩)
  · refine k_iload_n C dX2_holding_7 rfl rfl ?_
    refine k_callN C okX2_25 dX2_holding_8 (c_isCall M y (by omega)) rfl (by decide) rfl (Nat.le_of_ble_eq_true rfl) (fun r8 M8 hr8 hp8 => ?_)
    obtain ⟨rfl, hp8⟩ := hp8
    refine k_if_eq C (tgt := 28) dX2_holding_11 rfl (by omega) (fun c11 => ?_) (fun c11 => ?_)
    · refine k_iconst C dX2_holding_28 ?_
      exact k_iret C dX2_holding_29 (by omega) (fun _ => ⟨rfl, by first | omega | rw [Int.mul_comm]⟩)
    · refine k_aload_n C dX2_holding_14 rfl rfl ?_
      refine k_getR C (j := 2) okC2 rfl (by decide) (by decide) rfl flX2_15 dX2_holding_15 ?_
      refine k_iload_n C dX2_holding_18 rfl rfl ?_
      refine k_bipush C dX2_holding_19 (by decide) ?_
      refine k_imul C dX2_holding_21 ?_
      refine k_iload_n C dX2_holding_22 rfl rfl ?_
      refine k_iadd C dX2_holding_23 ?_
      refine k_iaload C rfl (by decide) (by decide) ⟨by omega, by omega⟩ dX2_holding_24 (fun _ => ?_)
      refine k_goto C (tgt := 29) dX2_holding_25 rfl ?_
      exact k_iret C dX2_holding_29 (by omega) (fun _ => ⟨rfl, by first | omega | rw [Int.mul_comm]⟩)
set_option maxRecDepth 100000 in
theorem l_findLast {K : Kt} (M : Mem) (hB : BkC M) (row : Int) (hr : 0 ≤ row ∧ row < M 3 6) (C : Ctx shC nC RX2 cX2_findLastPlaces 5 none (lvl 2) (fun _ M' => (∀ k, k ≠ 54 → M' k = M k) ∧ lastP (M 4) row (M 5 row) (M' 54)) K) (N : Mem) (hN : ∀ k, k ≠ 54 → N k = M k) (i : Int) (hi : 0 ≤ i ∧ i ≤ M 5 row) (hl : lastP (M 4) row i (N 54)) : K 19 [(0, .inr 51), (1, .inl row), (2, .inl (M 5 row)), (3, .inl i)] [] N := by
  have hb1 := hB.1; have hb2 := hB.2.1; have hbr := hB.2.2 row hr.1 hr.2
  have e4 := hN 4 (by decide)
  have hca := hbr.2.2.2.2.2 i hi.1
  refine k_iload_n C dX2_findLastPlaces_19 rfl rfl ?_
  refine k_iload_n C dX2_findLastPlaces_20 rfl rfl ?_
  refine k_icmp_ge C (tgt := 57) dX2_findLastPlaces_21 rfl (by omega) (by omega) (fun c21 => ?_) (fun c21 => ?_)
  · exact k_vret C dX2_findLastPlaces_57 (fun _ => ⟨hN, by rw [show M 5 row = i by omega]; exact hl⟩)
  · refine k_aload_n C dX2_findLastPlaces_24 rfl rfl ?_
    refine k_getR C (j := 0) okC2 rfl (by decide) (by decide) rfl flX2_21 dX2_findLastPlaces_25 ?_
    refine k_iload_n C dX2_findLastPlaces_28 rfl rfl ?_
    refine k_iload_n C dX2_findLastPlaces_29 rfl rfl ?_
    refine k_callV C okX2_55 dX2_findLastPlaces_30 (c_Book_callAt N row i (by omega) (by omega)) rfl rfl (by decide) rfl (by decide) rfl (Nat.le_of_ble_eq_true rfl) (fun r30 M30 hr30 hp30 => ?_)
    obtain ⟨rfl, rfl⟩ := hp30
    rw [e4]
    have hca := hca c21
    refine k_istore C dX2_findLastPlaces_33 (by decide) ?_
    refine k_iload C dX2_findLastPlaces_35 rfl ?_
    refine k_callN C okX2_25 dX2_findLastPlaces_37 (c_isCall N _ (by omega)) rfl (by decide) rfl (Nat.le_of_ble_eq_true rfl) (fun r37 M37 hr37 hp37 => ?_)
    obtain ⟨rfl, hp37⟩ := hp37
    refine k_if_eq C (tgt := 51) dX2_findLastPlaces_40 rfl (by omega) (fun c40 => ?_) (fun c40 => ?_)
    · refine k_iinc C dX2_findLastPlaces_51 (by decide) rfl ?_
      refine k_goto C (tgt := 19) dX2_findLastPlaces_54 rfl ?_
      refine k_cut2 C (lv' := [(0, _), (1, _), (2, _), (3, _)]) ⟨rfl, rfl, rfl, rfl, trivial⟩ ?_
      first
      | (exfalso; omega)
      | (refine l_findLast M hB row hr C _ (fun k h => ?_) (i + 1) (by omega) (lastP_s hl hi.1 hca (fun x => up_at)); rw [up_ne h, hN k h])
    · refine k_aload_n C dX2_findLastPlaces_43 rfl rfl ?_
      refine k_getR C (j := 3) okC2 rfl (by decide) (by decide) rfl flX2_18 dX2_findLastPlaces_44 ?_
      refine k_iload C dX2_findLastPlaces_47 rfl ?_
      refine k_iload_n C dX2_findLastPlaces_49 rfl rfl ?_
      refine k_iastore C rfl (by decide) (by decide) ⟨by omega, by omega⟩ (by omega) dX2_findLastPlaces_50 ?_
      refine k_iinc C dX2_findLastPlaces_51 (by decide) rfl ?_
      refine k_goto C (tgt := 19) dX2_findLastPlaces_54 rfl ?_
      refine k_cut2 C (lv' := [(0, _), (1, _), (2, _), (3, _)]) ⟨rfl, rfl, rfl, rfl, trivial⟩ ?_
      first
      | (exfalso; omega)
      | (refine l_findLast M hB row hr C _ (fun k h => ?_) (i + 1) (by omega) (lastP_s hl hi.1 hca (fun x => up_at)); rw [up_ne h, hN k h])
termination_by (M 5 row - i).toNat
decreasing_by all_goals omega
set_option maxRecDepth 100000 in
theorem c_Habits_findLast (M : Mem) (hB : BkC M) (row : Int) (hr : 0 ≤ row ∧ row < M 3 6) : Ct shC nC yX2_findLastPlaces cX2_findLastPlaces 5 none (lvl 2) [.inr 51, .inl row] M (fun _ M' => (∀ k, k ≠ 54 → M' k = M k) ∧ lastP (M 4) row (M 5 row) (M' 54)) := by
  refine Ct_of (by decide +kernel) (Nat.le_of_ble_eq_true rfl) (fun K C => ?_)
  have hb1 := hB.1; have hb2 := hB.2.1; have hbr := hB.2.2 row hr.1 hr.2
  refine k_aload_n C dX2_findLastPlaces_0 rfl rfl ?_
  refine k_getR C (j := 3) okC2 rfl (by decide) (by decide) rfl flX2_18 dX2_findLastPlaces_1 ?_
  refine k_iconst C dX2_findLastPlaces_4 ?_
  refine k_callS C okX2_29 dX2_findLastPlaces_5 (c_fill 54 8 rfl (by decide) (by decide) _ (-1) (by decide)) rfl (by decide) rfl (Nat.le_of_ble_eq_true rfl) (fun r5 M5 hr5 hp5 => ?_)
  subst hp5
  refine k_aload_n C dX2_findLastPlaces_8 rfl rfl ?_
  refine k_getR C (j := 0) okC2 rfl (by decide) (by decide) rfl flX2_21 dX2_findLastPlaces_9 ?_
  refine k_iload_n C dX2_findLastPlaces_12 rfl rfl ?_
  refine k_callV C okX2_51 dX2_findLastPlaces_13 (c_Book_sizeOf _ row (by rw [fillM_ne (by decide)]; omega)) rfl rfl (by decide) rfl (by decide) rfl (Nat.le_of_ble_eq_true rfl) (fun r13 M13 hr13 hp13 => ?_)
  obtain ⟨rfl, rfl⟩ := hp13
  rw [fillM_ne (show (5 : Nat) ≠ 54 by decide)]
  refine k_istore_n C dX2_findLastPlaces_16 rfl (by decide) ?_
  refine k_iconst C dX2_findLastPlaces_17 ?_
  refine k_istore_n C dX2_findLastPlaces_18 rfl (by decide) ?_
  refine k_cut2 C (lv' := [(0, _), (1, _), (2, _), (3, _)]) ⟨rfl, rfl, rfl, rfl, trivial⟩ ?_
  exact l_findLast M hB row hr C _ (fun k h => fillM_ne h) 0 (by omega) (fun x h0 h1 => Or.inl ⟨fillM_in ⟨h0, h1⟩, fun i a b => by omega⟩)
end
section
/-! HABITS: a row counted in, all rows surveyed, ranks -/
noncomputable def A52 (M : Mem) (x : Int) : Int := M 52 x + iteP (¬ M 54 x = -1) 1 0
noncomputable def A53 (M : Mem) (x y : Int) : Int := M 53 (8 * x + y) + iteP (¬ M 54 x = -1 ∧ M 54 x < M 54 y) 1 0
def I52 (M N : Mem) (x : Int) : Prop := ∀ x', 0 ≤ x' → x' < 8 → N 52 x' = if x' < x then A52 M x' else M 52 x'
def I53 (M N : Mem) (x y : Int) : Prop := ∀ x' y', 0 ≤ x' → x' < 8 → 0 ≤ y' → y' < 8 → N 53 (8 * x' + y') = if x' < x ∨ (x' = x ∧ y' < y) then A53 M x' y' else M 53 (8 * x' + y')
theorem I53_s {M N : Mem} {x y b : Int} (hx : 0 ≤ x ∧ x < 8) (hy : 0 ≤ y ∧ y < 8) (h : I53 M N x y) (hb : b = iteP (¬ M 54 x = -1 ∧ M 54 x < M 54 y) 1 0) : I53 M (up N 53 (x * 8 + y) (N 53 (x * 8 + y) + b)) x (y + 1) := by
  intro x' y' a1 a2 a3 a4
  rw [up_at]
  by_cases hq : x' = x ∧ y' = y
  · obtain ⟨rfl, rfl⟩ := hq
    rw [if_pos (by omega), if_pos (by omega), show x' * 8 + y' = 8 * x' + y' by omega, h x' y' a1 a2 a3 a4, if_neg (by omega), hb]
    rfl
  · rw [if_neg (by omega), h x' y' a1 a2 a3 a4]
    by_cases hc : x' < x ∨ (x' = x ∧ y' < y)
    · rw [if_pos hc, if_pos (by omega)]
    · rw [if_neg hc, if_neg (by omega)]
theorem I53_n {M N : Mem} {x : Int} (h : I53 M N x 8) : I53 M N (x + 1) 0 := by
  intro x' y' a1 a2 a3 a4
  rw [h x' y' a1 a2 a3 a4]
  by_cases hc : x' < x ∨ (x' = x ∧ y' < 8)
  · rw [if_pos hc, if_pos (by omega)]
  · rw [if_neg hc, if_neg (by omega)]
theorem I53_k {M N : Mem} {x : Int} (h : I53 M N x 0) (hl : M 54 x = -1) : I53 M N (x + 1) 0 := by
  intro x' y' a1 a2 a3 a4
  rw [h x' y' a1 a2 a3 a4]
  by_cases hc : x' < x
  · rw [if_pos (Or.inl hc), if_pos (by omega)]
  · by_cases he : x' = x
    · subst he
      rw [if_neg (by omega), if_pos (by omega)]
      unfold A53
      rw [iteP_neg (fun q => q.1 hl)]; omega
    · rw [if_neg (by omega), if_neg (by omega)]
theorem I52_s {M N : Mem} {x : Int} (hx : 0 ≤ x ∧ x < 8) (h : I52 M N x) (hl : ¬ M 54 x = -1) : I52 M (up N 52 x (N 52 x + 1)) (x + 1) := by
  intro x' a1 a2
  rw [up_at]
  by_cases hq : x' = x
  · subst hq
    rw [if_pos rfl, if_pos (by omega), h x' a1 a2, if_neg (by omega)]
    unfold A52; rw [iteP_pos hl]
  · rw [if_neg hq, h x' a1 a2]
    by_cases hc : x' < x
    · rw [if_pos hc, if_pos (by omega)]
    · rw [if_neg hc, if_neg (by omega)]
theorem I52_k {M N : Mem} {x : Int} (h : I52 M N x) (hl : M 54 x = -1) : I52 M N (x + 1) := by
  intro x' a1 a2
  rw [h x' a1 a2]
  by_cases hc : x' < x
  · rw [if_pos hc, if_pos (by omega)]
  · by_cases he : x' = x
    · subst he
      rw [if_neg hc, if_pos (by omega)]
      unfold A52; rw [iteP_neg (fun q => q hl)]; omega
    · rw [if_neg hc, if_neg (by omega)]
/-- the counts stay small -/
def smH (M : Mem) : Prop := (∀ x, 0 ≤ x → x < 8 → 0 ≤ M 52 x ∧ M 52 x ≤ 1000) ∧ ∀ i, 0 ≤ i → i < 64 → 0 ≤ M 53 i ∧ M 53 i ≤ 1000
theorem I53_rg {M N : Mem} (hs : smH M) {x y : Int} (h : I53 M N x y) {x' y' : Int} (hx : 0 ≤ x' ∧ x' < 8) (hy : 0 ≤ y' ∧ y' < 8) : 0 ≤ N 53 (8 * x' + y') ∧ N 53 (8 * x' + y') ≤ 1001 := by
  have h1 := hs.2 (8 * x' + y') (by omega) (by omega)
  rw [h x' y' hx.1 hx.2 hy.1 hy.2]
  split
  · unfold A53
    by_cases q : ¬ M 54 x' = -1 ∧ M 54 x' < M 54 y'
    · rw [iteP_pos q]; omega
    · rw [iteP_neg q]; omega
  · omega
theorem I52_rg {M N : Mem} (hs : smH M) {x : Int} (h : I52 M N x) {x' : Int} (hx : 0 ≤ x' ∧ x' < 8) : 0 ≤ N 52 x' ∧ N 52 x' ≤ 1001 := by
  have h1 := hs.1 x' hx.1 hx.2
  rw [h x' hx.1 hx.2]
  split
  · unfold A52
    by_cases q : ¬ M 54 x' = -1
    · rw [iteP_pos q]; omega
    · rw [iteP_neg q]; omega
  · omega
set_option maxRecDepth 100000 in
theorem l_addRow2 {K : Kt} (M : Mem) (hs : smH M) (C : Ctx shC nC RX2 cX2_addRow 3 none (lvl 0) (fun _ M' => (∀ k, k ≠ 52 → k ≠ 53 → M' k = M k) ∧ I52 M M' 8 ∧ I53 M M' 8 0) K) (x : Int) (hx : 0 ≤ x ∧ x < 8) (hlx : ¬ M 54 x = -1) (kk : ∀ N : Mem, (∀ k, k ≠ 52 → k ≠ 53 → N k = M k) → I52 M N (x + 1) → I53 M N (x + 1) 0 → K 79 [(0, .inr 51), (1, .inl x)] [] N) (N : Mem) (hN : (∀ k, k ≠ 52 → k ≠ 53 → N k = M k)) (h2 : I52 M N (x + 1)) (y : Int) (hy : 0 ≤ y ∧ y ≤ 8) (h3 : I53 M N x y) : K 33 [(0, .inr 51), (1, .inl x), (2, .inl y)] [] N := by
  have e54 := hN 54 (by decide) (by decide)
  refine k_iload_n C dX2_addRow_33 rfl rfl ?_
  refine k_bipush C dX2_addRow_34 (by decide) ?_
  refine k_icmp_ge C (tgt := 79) dX2_addRow_36 rfl (by omega) (by omega) (fun c36 => ?_) (fun c36 => ?_)
  · refine k_cut2 C (lv' := [(0, _), (1, _)]) ⟨rfl, rfl, trivial⟩ ?_
    exact kk _ hN h2 (I53_n (by rw [show (8 : Int) = y by omega]; exact h3))
  · have h3r := I53_rg hs h3 hx (y' := y) (by omega)
    rw [show 8 * x + y = x * 8 + y by omega] at h3r
    refine k_aload_n C dX2_addRow_39 rfl rfl ?_
    refine k_getR C (j := 2) okC2 rfl (by decide) (by decide) rfl flX2_15 dX2_addRow_40 ?_
    refine k_iload_n C dX2_addRow_43 rfl rfl ?_
    refine k_bipush C dX2_addRow_44 (by decide) ?_
    refine k_imul C dX2_addRow_46 ?_
    refine k_iload_n C dX2_addRow_47 rfl rfl ?_
    refine k_iadd C dX2_addRow_48 ?_
    refine k_dup2 C dX2_addRow_49 ?_
    refine k_iaload C rfl (by decide) (by decide) ⟨by omega, by omega⟩ dX2_addRow_50 (fun _ => ?_)
    refine k_aload_n C dX2_addRow_51 rfl rfl ?_
    refine k_getR C (j := 3) okC2 rfl (by decide) (by decide) rfl flX2_18 dX2_addRow_52 ?_
    refine k_iload_n C dX2_addRow_55 rfl rfl ?_
    refine k_iaload C rfl (by decide) (by decide) ⟨by omega, by omega⟩ dX2_addRow_56 (fun _ => ?_)
    refine k_aload_n C dX2_addRow_57 rfl rfl ?_
    refine k_getR C (j := 3) okC2 rfl (by decide) (by decide) rfl flX2_18 dX2_addRow_58 ?_
    refine k_iload_n C dX2_addRow_61 rfl rfl ?_
    refine k_iaload C rfl (by decide) (by decide) ⟨by omega, by omega⟩ dX2_addRow_62 (fun _ => ?_)
    refine k_icmp_le C (tgt := 70) dX2_addRow_63 rfl (by omega) (by omega) (fun c63 => ?_) (fun c63 => ?_)
    · refine k_iconst C dX2_addRow_70 ?_
      refine k_iadd C dX2_addRow_71 ?_
      refine k_iastore C rfl (by decide) (by decide) ⟨by omega, by omega⟩ (by omega) dX2_addRow_72 ?_
      refine k_iinc C dX2_addRow_73 (by decide) rfl ?_
      refine k_goto C (tgt := 33) dX2_addRow_76 rfl ?_
      refine k_cut2 C (lv' := [(0, _), (1, _), (2, _)]) ⟨rfl, rfl, rfl, trivial⟩ ?_
      refine l_addRow2 M hs C x hx hlx kk _ (fun k h h' => ?_) (fun a b c => ?_) (y + 1) (by omega) (I53_s hx (by omega) h3 ?_)
      · rw [up_ne h', hN k h h']
      · rw [up_ne (by decide)]; exact h2 a b c
      · rw [e54] at c63
        first | (rw [iteP_pos ⟨hlx, c63⟩]; done) | (rw [iteP_neg (fun q => by have := q.2; omega)]; done)
    · refine k_iconst C dX2_addRow_66 ?_
      refine k_goto C (tgt := 71) dX2_addRow_67 rfl ?_
      refine k_iadd C dX2_addRow_71 ?_
      refine k_iastore C rfl (by decide) (by decide) ⟨by omega, by omega⟩ (by omega) dX2_addRow_72 ?_
      refine k_iinc C dX2_addRow_73 (by decide) rfl ?_
      refine k_goto C (tgt := 33) dX2_addRow_76 rfl ?_
      refine k_cut2 C (lv' := [(0, _), (1, _), (2, _)]) ⟨rfl, rfl, rfl, trivial⟩ ?_
      refine l_addRow2 M hs C x hx hlx kk _ (fun k h h' => ?_) (fun a b c => ?_) (y + 1) (by omega) (I53_s hx (by omega) h3 ?_)
      · rw [up_ne h', hN k h h']
      · rw [up_ne (by decide)]; exact h2 a b c
      · rw [e54] at c63
        first | (rw [iteP_pos ⟨hlx, c63⟩]; done) | (rw [iteP_neg (fun q => by have := q.2; omega)]; done)
termination_by (8 - y).toNat
decreasing_by all_goals omega
set_option maxRecDepth 100000 in
theorem l_addRow1 {K : Kt} (M : Mem) (hs : smH M) (C : Ctx shC nC RX2 cX2_addRow 3 none (lvl 0) (fun _ M' => (∀ k, k ≠ 52 → k ≠ 53 → M' k = M k) ∧ I52 M M' 8 ∧ I53 M M' 8 0) K) (N : Mem) (hN : (∀ k, k ≠ 52 → k ≠ 53 → N k = M k)) (x : Int) (hx : 0 ≤ x ∧ x ≤ 8) (h2 : I52 M N x) (h3 : I53 M N x 0) : K 2 [(0, .inr 51), (1, .inl x)] [] N := by
  have e54 := hN 54 (by decide) (by decide)
  refine k_iload_n C dX2_addRow_2 rfl rfl ?_
  refine k_bipush C dX2_addRow_3 (by decide) ?_
  refine k_icmp_ge C (tgt := 85) dX2_addRow_5 rfl (by omega) (by omega) (fun c5 => ?_) (fun c5 => ?_)
  · exact k_vret C dX2_addRow_85 (fun _ => ⟨hN, by rw [show (8 : Int) = x by omega]; exact h2, by rw [show (8 : Int) = x by omega]; exact h3⟩)
  · have h2r := I52_rg hs h2 (x' := x) (by omega)
    refine k_aload_n C dX2_addRow_8 rfl rfl ?_
    refine k_getR C (j := 3) okC2 rfl (by decide) (by decide) rfl flX2_18 dX2_addRow_9 ?_
    refine k_iload_n C dX2_addRow_12 rfl rfl ?_
    refine k_iaload C rfl (by decide) (by decide) ⟨by omega, by omega⟩ dX2_addRow_13 (fun _ => ?_)
    refine k_iconst C dX2_addRow_14 ?_
    refine k_icmp_ne C (tgt := 21) dX2_addRow_15 rfl (by omega) (by omega) (fun c15 => ?_) (fun c15 => ?_)
    · refine k_aload_n C dX2_addRow_21 rfl rfl ?_
      refine k_getR C (j := 1) okC2 rfl (by decide) (by decide) rfl flX2_9 dX2_addRow_22 ?_
      refine k_iload_n C dX2_addRow_25 rfl rfl ?_
      refine k_dup2 C dX2_addRow_26 ?_
      refine k_iaload C rfl (by decide) (by decide) ⟨by omega, by omega⟩ dX2_addRow_27 (fun _ => ?_)
      refine k_iconst C dX2_addRow_28 ?_
      refine k_iadd C dX2_addRow_29 ?_
      refine k_iastore C rfl (by decide) (by decide) ⟨by omega, by omega⟩ (by omega) dX2_addRow_30 ?_
      refine k_iconst C dX2_addRow_31 ?_
      refine k_istore_n C dX2_addRow_32 rfl (by decide) ?_
      refine k_cut2 C (lv' := [(0, _), (1, _), (2, _)]) ⟨rfl, rfl, rfl, trivial⟩ ?_
      rw [e54] at c15
      refine l_addRow2 M hs C x (by omega) c15 (fun N2 a b c => ?_) _ (fun k h h' => ?_) (I52_s (by omega) h2 c15) 0 (by omega) (fun a b a1 a2 a3 a4 => ?_)
      · refine k_iinc C dX2_addRow_79 (by decide) rfl ?_
        refine k_goto C (tgt := 2) dX2_addRow_82 rfl ?_
        refine k_cut2 C (lv' := [(0, _), (1, _)]) ⟨rfl, rfl, trivial⟩ ?_
        exact l_addRow1 M hs C N2 a (x + 1) (by omega) b c
      · rw [up_ne h, hN k h h']
      · rw [up_ne (by decide)]; exact h3 a b a1 a2 a3 a4
    · refine k_goto C (tgt := 79) dX2_addRow_18 rfl ?_
      refine k_iinc C dX2_addRow_79 (by decide) rfl ?_
      refine k_goto C (tgt := 2) dX2_addRow_82 rfl ?_
      refine k_cut2 C (lv' := [(0, _), (1, _)]) ⟨rfl, rfl, trivial⟩ ?_
      rw [e54] at c15
      exact l_addRow1 M hs C N hN (x + 1) (by omega) (I52_k h2 (by omega)) (I53_k h3 (by omega))
termination_by (8 - x).toNat
decreasing_by all_goals omega
set_option maxRecDepth 100000 in
theorem c_Habits_addRow (M : Mem) (hs : smH M) : Ct shC nC yX2_addRow cX2_addRow 3 none (lvl 0) [.inr 51] M (fun _ M' => (∀ k, k ≠ 52 → k ≠ 53 → M' k = M k) ∧ I52 M M' 8 ∧ I53 M M' 8 0) := by
  refine Ct_of (by decide +kernel) (Nat.le_of_ble_eq_true rfl) (fun K C => ?_)
  refine k_iconst C dX2_addRow_0 ?_
  refine k_istore_n C dX2_addRow_1 rfl (by decide) ?_
  refine k_cut2 C (lv' := [(0, _), (1, _)]) ⟨rfl, rfl, trivial⟩ ?_
  exact l_addRow1 M hs C M (fun _ _ _ => rfl) 0 (by omega) (fun a b c => by rw [if_neg (by omega)]) (fun a b a1 a2 a3 a4 => by rw [if_neg (by omega)])
def SvR (M N : Mem) (row : Int) : Prop := (∀ x, 0 ≤ x → x < 8 → N 52 x = cnI (hvP (M 5) (M 6) (M 7) (M 4) x) row) ∧ ∀ x y, 0 ≤ x → x < 8 → 0 ≤ y → y < 8 → N 53 (8 * x + y) = cnI (hoP (M 5) (M 6) (M 7) (M 4) x y) row
theorem SvR_sm {M N : Mem} {row : Int} (h : SvR M N row) (hr : 0 ≤ row ∧ row ≤ 60) : smH N := by
  refine ⟨fun x a b => ?_, fun i a b => ?_⟩
  · rw [h.1 x a b]; have := cnI_rg (hvP (M 5) (M 6) (M 7) (M 4) x) hr.1; omega
  · have := h.2 (i / 8) (i % 8) (by omega) (by omega) (by omega) (by omega)
    rw [show 8 * (i / 8) + i % 8 = i by omega] at this
    rw [this]; have := cnI_rg (hoP (M 5) (M 6) (M 7) (M 4) (i / 8) (i % 8)) hr.1; omega
set_option maxRecDepth 100000 in
theorem l_survey {K : Kt} (M : Mem) (hB : BkC M) (C : Ctx shC nC RX2 cX2_survey 2 none (lvl 3) (fun _ M' => (∀ k, k ≠ 52 → k ≠ 53 → k ≠ 54 → M' k = M k) ∧ SvR M M' (M 3 6)) K) (N : Mem) (hN : (∀ k, k ≠ 52 → k ≠ 53 → k ≠ 54 → N k = M k)) (row : Int) (hr : 0 ≤ row ∧ row ≤ M 3 6) (hv : SvR M N row) : K 18 [(0, .inr 51), (1, .inl row)] [] N := by
  have hb1 := hB.1; have hb2 := hB.2.1; have hbr := hB.2.2 row hr.1
  have n3 := hN 3 (by decide) (by decide) (by decide); have n4 := hN 4 (by decide) (by decide) (by decide); have n5 := hN 5 (by decide) (by decide) (by decide); have n6 := hN 6 (by decide) (by decide) (by decide); have n7 := hN 7 (by decide) (by decide) (by decide)
  have hBN : BkC N := by unfold BkC; rw [n3, n4, n5, n6, n7]; exact hB
  refine k_iload_n C dX2_survey_18 rfl rfl ?_
  refine k_aload_n C dX2_survey_19 rfl rfl ?_
  refine k_getR C (j := 0) okC2 rfl (by decide) (by decide) rfl flX2_21 dX2_survey_20 ?_
  refine k_getJ C 6 6 rfl okC0 rfl (by decide) (by decide) rfl flX2_35 dX2_survey_23 (fun _ => ?_)
  rw [n3]
  refine k_icmp_ge C (tgt := 55) dX2_survey_26 rfl (by omega) (by omega) (fun c26 => ?_) (fun c26 => ?_)
  · exact k_vret C dX2_survey_55 (fun _ => ⟨hN, by rw [show M 3 6 = row by omega]; exact hv⟩)
  · refine k_aload_n C dX2_survey_29 rfl rfl ?_
    refine k_getR C (j := 0) okC2 rfl (by decide) (by decide) rfl flX2_21 dX2_survey_30 ?_
    refine k_iload_n C dX2_survey_33 rfl rfl ?_
    refine k_callV C okX2_41 dX2_survey_34 (c_Book_isRightThere N row (by omega)) rfl rfl (by decide) rfl (by decide) rfl (Nat.le_of_ble_eq_true rfl) (fun r34 M34 hr34 hp34 => ?_)
    obtain ⟨rfl, hp34⟩ := hp34
    rw [n3, n6, n7] at hp34
    have hbr := hbr c26
    refine k_if_eq C (tgt := 49) dX2_survey_37 rfl (by omega) (fun c37 => ?_) (fun c37 => ?_)
    · refine k_iinc C dX2_survey_49 (by decide) rfl ?_
      refine k_goto C (tgt := 18) dX2_survey_52 rfl ?_
      refine k_cut2 C (lv' := [(0, _), (1, _)]) ⟨rfl, rfl, trivial⟩ ?_
      first
      | (refine l_survey M hB C N hN (row + 1) (by omega) ⟨fun x a b => ?_, fun x y a b a' b' => ?_⟩
         · rw [cnI_s _ hr.1, iteP_neg (fun q => by have q1 := q.1; have q2 := q.2.1; omega), hv.1 x a b]; omega
         · rw [cnI_s _ hr.1, iteP_neg (fun q => by have q1 := q.1; have q2 := q.2.1; omega), hv.2 x y a b a' b']; omega)
      | (have lp := hp42.2
         rw [n4, n5] at lp
         refine l_survey M hB C M46 (fun k h h' h'' => ?_) (row + 1) (by omega) ⟨fun x a b => ?_, fun x y a b a' b' => ?_⟩
         · rw [hp46.1 k h h', hp42.1 k h'', hN k h h' h'']
         · rw [hp46.2.1 x a b, if_pos b, cnI_s _ hr.1, ← hv.1 x a b]
           unfold A52; rw [hp42.1 52 (by decide)]
           by_cases q : ¬ M42 54 x = -1
           · rw [iteP_pos q, iteP_pos ⟨by omega, by omega, (lastP_has lp ⟨a, b⟩).mpr q⟩]
           · rw [iteP_neg q, iteP_neg (fun z => q ((lastP_has lp ⟨a, b⟩).mp z.2.2))]
         · rw [hp46.2.2 x y a b a' b', if_pos (Or.inl b), cnI_s _ hr.1, ← hv.2 x y a b a' b']
           unfold A53; rw [hp42.1 53 (by decide)]
           by_cases q : ¬ M42 54 x = -1 ∧ M42 54 x < M42 54 y
           · rw [iteP_pos q, iteP_pos ⟨by omega, by omega, (lastP_hld lp ⟨a, b⟩ ⟨a', b'⟩).mpr q⟩]
           · rw [iteP_neg q, iteP_neg (fun z => q ((lastP_hld lp ⟨a, b⟩ ⟨a', b'⟩).mp z.2.2))])
    · refine k_aload_n C dX2_survey_40 rfl rfl ?_
      refine k_iload_n C dX2_survey_41 rfl rfl ?_
      refine k_callV C okX2_44 dX2_survey_42 (c_Habits_findLast N hBN row (by rw [n3]; omega)) rfl rfl (by decide) rfl (by decide) rfl (Nat.le_of_ble_eq_true rfl) (fun r42 M42 hr42 hp42 => ?_)
      refine k_aload_n C dX2_survey_45 rfl rfl ?_
      refine k_callV C okX2_48 dX2_survey_46 (c_Habits_addRow M42 (by have e2 := hp42.1 52 (by decide); have e3 := hp42.1 53 (by decide); unfold smH; rw [e2, e3]; exact SvR_sm hv (by omega))) rfl rfl (by decide) rfl (by decide) rfl (Nat.le_of_ble_eq_true rfl) (fun r46 M46 hr46 hp46 => ?_)
      refine k_iinc C dX2_survey_49 (by decide) rfl ?_
      refine k_goto C (tgt := 18) dX2_survey_52 rfl ?_
      refine k_cut2 C (lv' := [(0, _), (1, _)]) ⟨rfl, rfl, trivial⟩ ?_
      first
      | (refine l_survey M hB C N hN (row + 1) (by omega) ⟨fun x a b => ?_, fun x y a b a' b' => ?_⟩
         · rw [cnI_s _ hr.1, iteP_neg (fun q => by have q1 := q.1; have q2 := q.2.1; omega), hv.1 x a b]; omega
         · rw [cnI_s _ hr.1, iteP_neg (fun q => by have q1 := q.1; have q2 := q.2.1; omega), hv.2 x y a b a' b']; omega)
      | (have lp := hp42.2
         rw [n4, n5] at lp
         refine l_survey M hB C M46 (fun k h h' h'' => ?_) (row + 1) (by omega) ⟨fun x a b => ?_, fun x y a b a' b' => ?_⟩
         · rw [hp46.1 k h h', hp42.1 k h'', hN k h h' h'']
         · rw [hp46.2.1 x a b, if_pos b, cnI_s _ hr.1, ← hv.1 x a b]
           unfold A52; rw [hp42.1 52 (by decide)]
           by_cases q : ¬ M42 54 x = -1
           · rw [iteP_pos q, iteP_pos ⟨by omega, by omega, (lastP_has lp ⟨a, b⟩).mpr q⟩]
           · rw [iteP_neg q, iteP_neg (fun z => q ((lastP_has lp ⟨a, b⟩).mp z.2.2))]
         · rw [hp46.2.2 x y a b a' b', if_pos (Or.inl b), cnI_s _ hr.1, ← hv.2 x y a b a' b']
           unfold A53; rw [hp42.1 53 (by decide)]
           by_cases q : ¬ M42 54 x = -1 ∧ M42 54 x < M42 54 y
           · rw [iteP_pos q, iteP_pos ⟨by omega, by omega, (lastP_hld lp ⟨a, b⟩ ⟨a', b'⟩).mpr q⟩]
           · rw [iteP_neg q, iteP_neg (fun z => q ((lastP_hld lp ⟨a, b⟩ ⟨a', b'⟩).mp z.2.2))])
termination_by (M 3 6 - row).toNat
decreasing_by all_goals omega
set_option maxRecDepth 100000 in
theorem c_Habits_survey (M : Mem) (hB : BkC M) : Ct shC nC yX2_survey cX2_survey 2 none (lvl 3) [.inr 51] M (fun _ M' => (∀ k, k ≠ 52 → k ≠ 53 → k ≠ 54 → M' k = M k) ∧ SvR M M' (M 3 6)) := by
  refine Ct_of (by decide +kernel) (Nat.le_of_ble_eq_true rfl) (fun K C => ?_)
  have hb1 := hB.1
  refine k_aload_n C dX2_survey_0 rfl rfl ?_
  refine k_getR C (j := 1) okC2 rfl (by decide) (by decide) rfl flX2_9 dX2_survey_1 ?_
  refine k_iconst C dX2_survey_4 ?_
  refine k_callS C okX2_29 dX2_survey_5 (c_fill 52 8 rfl (by decide) (by decide) _ 0 (by decide)) rfl (by decide) rfl (Nat.le_of_ble_eq_true rfl) (fun r5 M5 hr5 hp5 => ?_)
  subst hp5
  refine k_aload_n C dX2_survey_8 rfl rfl ?_
  refine k_getR C (j := 2) okC2 rfl (by decide) (by decide) rfl flX2_15 dX2_survey_9 ?_
  refine k_iconst C dX2_survey_12 ?_
  refine k_callS C okX2_29 dX2_survey_13 (c_fill 53 64 rfl (by decide) (by decide) _ 0 (by decide)) rfl (by decide) rfl (Nat.le_of_ble_eq_true rfl) (fun r13 M13 hr13 hp13 => ?_)
  subst hp13
  refine k_iconst C dX2_survey_16 ?_
  refine k_istore_n C dX2_survey_17 rfl (by decide) ?_
  refine k_cut2 C (lv' := [(0, _), (1, _)]) ⟨rfl, rfl, trivial⟩ ?_
  exact l_survey M hB C _ (fun k h h' _ => by rw [fillM_ne h', fillM_ne h]) 0 (by omega) ⟨fun x a b => by rw [fillM_ne (by decide), fillM_in (by omega)]; rfl, fun x y a b a' b' => by rw [fillM_in (by omega)]; rfl⟩
end
section
/-! RANK: hv x how many rows have x, ho (8 x + y) in how many it holds; a habit h is x = h / 8, y = h % 8 -/
def rkd (hv : Int → Int) (h : Int) : Prop := ¬ h / 8 = h % 8 ∧ 0 < hv (h / 8)
def ahd (hv ho : Int → Int) (a b : Int) : Prop := ho b * hv (a / 8) < ho a * hv (b / 8) ∨ (ho a * hv (b / 8) = ho b * hv (a / 8) ∧ (hv (b / 8) < hv (a / 8) ∨ (hv (a / 8) = hv (b / 8) ∧ a < b)))
noncomputable def ahN (hv ho : Int → Int) (h : Int) : Int := cnI (fun g => rkd hv g ∧ ahd hv ho g h) 64
def RkP (hv ho : Int → Int) (k r : Int) : Prop := (0 ≤ r ∧ r < 64 ∧ rkd hv r ∧ ahN hv ho r = k ∧ ∀ g, 0 ≤ g → g < r → ¬ (rkd hv g ∧ ahN hv ho g = k)) ∨ (r = -1 ∧ ∀ g, 0 ≤ g → g < 64 → ¬ (rkd hv g ∧ ahN hv ho g = k))
def okH (M : Mem) : Prop := (∀ x, 0 ≤ x → x < 8 → 0 ≤ M 52 x ∧ M 52 x ≤ 60) ∧ ∀ i, 0 ≤ i → i < 64 → 0 ≤ M 53 i ∧ M 53 i ≤ 60
theorem mulr {a b : Int} (ha : 0 ≤ a ∧ a ≤ 60) (hb : 0 ≤ b ∧ b ≤ 60) : 0 ≤ a * b ∧ a * b ≤ 3600 := by
  constructor
  · exact Int.mul_nonneg ha.1 hb.1
  · have := Int.mul_le_mul ha.2 hb.2 hb.1 (by decide : (0 : Int) ≤ 60)
    omega
set_option maxRecDepth 100000 in
theorem c_Habits_isRanked (M : Mem) (hH : okH M) (h : Int) (hh : 0 ≤ h ∧ h < 64) : Ct shC nC yX2_isRanked cX2_isRanked 2 (some .boolean) (lvl 2) [.inr 51, .inl h] M (fun r M' => M = M' ∧ ((r = 1 ∧ rkd (M 52) h) ∨ (r = 0 ∧ ¬ rkd (M 52) h))) := by
  refine Ct_of (by decide +kernel) (Nat.le_of_ble_eq_true rfl) (fun K C => ?_)
  refine k_iload_n C dX2_isRanked_0 rfl rfl ?_
  refine k_bipush C dX2_isRanked_1 (by decide) ?_
  refine k_idiv C dX2_isRanked_3 ⟨by omega, by omega⟩ (by decide) ?_
  refine k_iload_n C dX2_isRanked_4 rfl rfl ?_
  refine k_bipush C dX2_isRanked_5 (by decide) ?_
  refine k_irem C dX2_isRanked_7 ⟨by omega, by omega⟩ (by decide) ?_
  refine k_icmp_eq C (tgt := 26) dX2_isRanked_8 rfl (by omega) (by omega) (fun c8 => ?_) (fun c8 => ?_)
  · refine k_iconst C dX2_isRanked_26 ?_
    exact k_zret C dX2_isRanked_27 (by omega) (fun _ => ⟨rfl, by unfold rkd; omega⟩)
  · refine k_aload_n C dX2_isRanked_11 rfl rfl ?_
    refine k_iload_n C dX2_isRanked_12 rfl rfl ?_
    refine k_bipush C dX2_isRanked_13 (by decide) ?_
    refine k_idiv C dX2_isRanked_15 ⟨by omega, by omega⟩ (by decide) ?_
    refine k_callV C okX2_65 dX2_isRanked_16 (c_Habits_having M (h / 8) (by omega)) rfl rfl (by decide) rfl (by decide) rfl (Nat.le_of_ble_eq_true rfl) (fun r16 M16 hr16 hp16 => ?_)
    obtain ⟨rfl, rfl⟩ := hp16
    refine k_if_le C (tgt := 26) dX2_isRanked_19 rfl (by omega) (fun c19 => ?_) (fun c19 => ?_)
    · refine k_iconst C dX2_isRanked_26 ?_
      exact k_zret C dX2_isRanked_27 (by omega) (fun _ => ⟨rfl, by unfold rkd; omega⟩)
    · refine k_iconst C dX2_isRanked_22 ?_
      refine k_goto C (tgt := 27) dX2_isRanked_23 rfl ?_
      exact k_zret C dX2_isRanked_27 (by omega) (fun _ => ⟨rfl, by unfold rkd; omega⟩)
set_option maxRecDepth 100000 in
theorem c_Habits_isAhead (M : Mem) (hH : okH M) (a b : Int) (ha : 0 ≤ a ∧ a < 64) (hb : 0 ≤ b ∧ b < 64) : Ct shC nC yX2_isAhead cX2_isAhead 7 (some .boolean) (lvl 2) [.inr 51, .inl a, .inl b] M (fun r M' => M = M' ∧ ((r = 1 ∧ ahd (M 52) (M 53) a b) ∨ (r = 0 ∧ ¬ ahd (M 52) (M 53) a b))) := by
  refine Ct_of (by decide +kernel) (Nat.le_of_ble_eq_true rfl) (fun K C => ?_)
  have q1 := hH.1 (a / 8) (by omega) (by omega); have q2 := hH.1 (b / 8) (by omega) (by omega); have q3 := hH.2 a (by omega) (by omega); have q4 := hH.2 b (by omega) (by omega)
  have m1 := mulr q3 q2; have m2 := mulr q4 q1
  refine k_aload_n C dX2_isAhead_0 rfl rfl ?_
  refine k_iload_n C dX2_isAhead_1 rfl rfl ?_
  refine k_bipush C dX2_isAhead_2 (by decide) ?_
  refine k_idiv C dX2_isAhead_4 ⟨by omega, by omega⟩ (by decide) ?_
  refine k_callV C okX2_65 dX2_isAhead_5 (c_Habits_having M (a / 8) (by omega)) rfl rfl (by decide) rfl (by decide) rfl (Nat.le_of_ble_eq_true rfl) (fun r5 M5 hr5 hp5 => ?_)
  obtain ⟨rfl, rfl⟩ := hp5
  refine k_istore_n C dX2_isAhead_8 rfl (by decide) ?_
  refine k_aload_n C dX2_isAhead_9 rfl rfl ?_
  refine k_iload_n C dX2_isAhead_10 rfl rfl ?_
  refine k_bipush C dX2_isAhead_11 (by decide) ?_
  refine k_idiv C dX2_isAhead_13 ⟨by omega, by omega⟩ (by decide) ?_
  refine k_callV C okX2_65 dX2_isAhead_14 (c_Habits_having M (b / 8) (by omega)) rfl rfl (by decide) rfl (by decide) rfl (Nat.le_of_ble_eq_true rfl) (fun r14 M14 hr14 hp14 => ?_)
  obtain ⟨rfl, rfl⟩ := hp14
  refine k_istore C dX2_isAhead_17 (by decide) ?_
  refine k_aload_n C dX2_isAhead_19 rfl rfl ?_
  refine k_iload_n C dX2_isAhead_20 rfl rfl ?_
  refine k_bipush C dX2_isAhead_21 (by decide) ?_
  refine k_idiv C dX2_isAhead_23 ⟨by omega, by omega⟩ (by decide) ?_
  refine k_iload_n C dX2_isAhead_24 rfl rfl ?_
  refine k_bipush C dX2_isAhead_25 (by decide) ?_
  refine k_irem C dX2_isAhead_27 ⟨by omega, by omega⟩ (by decide) ?_
  refine k_callV C okX2_72 dX2_isAhead_28 (c_Habits_holding M (a / 8) (a % 8) (by omega) (by omega)) rfl rfl (by decide) rfl (by decide) rfl (Nat.le_of_ble_eq_true rfl) (fun r28 M28 hr28 hp28 => ?_)
  obtain ⟨rfl, rfl⟩ := hp28
  rw [show 8 * (a / 8) + a % 8 = a by omega]
  refine k_iload C dX2_isAhead_31 rfl ?_
  refine k_imul C dX2_isAhead_33 ?_
  refine k_istore C dX2_isAhead_34 (by decide) ?_
  refine k_aload_n C dX2_isAhead_36 rfl rfl ?_
  refine k_iload_n C dX2_isAhead_37 rfl rfl ?_
  refine k_bipush C dX2_isAhead_38 (by decide) ?_
  refine k_idiv C dX2_isAhead_40 ⟨by omega, by omega⟩ (by decide) ?_
  refine k_iload_n C dX2_isAhead_41 rfl rfl ?_
  refine k_bipush C dX2_isAhead_42 (by decide) ?_
  refine k_irem C dX2_isAhead_44 ⟨by omega, by omega⟩ (by decide) ?_
  refine k_callV C okX2_72 dX2_isAhead_45 (c_Habits_holding M (b / 8) (b % 8) (by omega) (by omega)) rfl rfl (by decide) rfl (by decide) rfl (Nat.le_of_ble_eq_true rfl) (fun r45 M45 hr45 hp45 => ?_)
  obtain ⟨rfl, rfl⟩ := hp45
  rw [show 8 * (b / 8) + b % 8 = b by omega]
  refine k_iload_n C dX2_isAhead_48 rfl rfl ?_
  refine k_imul C dX2_isAhead_49 ?_
  refine k_istore C dX2_isAhead_50 (by decide) ?_
  refine k_iload C dX2_isAhead_52 rfl ?_
  refine k_iload C dX2_isAhead_54 rfl ?_
  refine k_icmp_eq C (tgt := 72) dX2_isAhead_56 rfl (by omega) (by omega) (fun c56 => ?_) (fun c56 => ?_)
  · refine k_iload_n C dX2_isAhead_72 rfl rfl ?_
    refine k_iload C dX2_isAhead_73 rfl ?_
    refine k_icmp_eq C (tgt := 92) dX2_isAhead_75 rfl (by omega) (by omega) (fun c75 => ?_) (fun c75 => ?_)
    · refine k_iload_n C dX2_isAhead_92 rfl rfl ?_
      refine k_iload_n C dX2_isAhead_93 rfl rfl ?_
      refine k_icmp_ge C (tgt := 101) dX2_isAhead_94 rfl (by omega) (by omega) (fun c94 => ?_) (fun c94 => ?_)
      · refine k_iconst C dX2_isAhead_101 ?_
        exact k_zret C dX2_isAhead_102 (by omega) (fun _ => ⟨rfl, by unfold ahd; omega⟩)
      · refine k_iconst C dX2_isAhead_97 ?_
        refine k_goto C (tgt := 102) dX2_isAhead_98 rfl ?_
        exact k_zret C dX2_isAhead_102 (by omega) (fun _ => ⟨rfl, by unfold ahd; omega⟩)
    · refine k_iload_n C dX2_isAhead_78 rfl rfl ?_
      refine k_iload C dX2_isAhead_79 rfl ?_
      refine k_icmp_le C (tgt := 88) dX2_isAhead_81 rfl (by omega) (by omega) (fun c81 => ?_) (fun c81 => ?_)
      · refine k_iconst C dX2_isAhead_88 ?_
        refine k_goto C (tgt := 102) dX2_isAhead_89 rfl ?_
        exact k_zret C dX2_isAhead_102 (by omega) (fun _ => ⟨rfl, by unfold ahd; omega⟩)
      · refine k_iconst C dX2_isAhead_84 ?_
        refine k_goto C (tgt := 102) dX2_isAhead_85 rfl ?_
        exact k_zret C dX2_isAhead_102 (by omega) (fun _ => ⟨rfl, by unfold ahd; omega⟩)
  · refine k_iload C dX2_isAhead_59 rfl ?_
    refine k_iload C dX2_isAhead_61 rfl ?_
    refine k_icmp_le C (tgt := 70) dX2_isAhead_63 rfl (by omega) (by omega) (fun c63 => ?_) (fun c63 => ?_)
    · refine k_iconst C dX2_isAhead_70 ?_
      exact k_zret C dX2_isAhead_71 (by omega) (fun _ => ⟨rfl, by unfold ahd; omega⟩)
    · refine k_iconst C dX2_isAhead_66 ?_
      refine k_goto C (tgt := 71) dX2_isAhead_67 rfl ?_
      exact k_zret C dX2_isAhead_71 (by omega) (fun _ => ⟨rfl, by unfold ahd; omega⟩)
set_option maxRecDepth 100000 in
theorem l_countAhead {K : Kt} (M : Mem) (hH : okH M) (h : Int) (hh : 0 ≤ h ∧ h < 64) (C : Ctx shC nC RX2 cX2_countAhead 4 (some .int) (lvl 3) (fun r M' => M = M' ∧ r = ahN (M 52) (M 53) h) K) (sum g : Int) (hg : 0 ≤ g ∧ g ≤ 64) (hs : sum = cnI (fun g => rkd (M 52) g ∧ ahd (M 52) (M 53) g h) g) : K 4 [(0, .inr 51), (1, .inl h), (2, .inl sum), (3, .inl g)] [] M := by
  have hq := cnI_rg (fun g => rkd (M 52) g ∧ ahd (M 52) (M 53) g h) hg.1
  refine k_iload_n C dX2_countAhead_4 rfl rfl ?_
  refine k_bipush C dX2_countAhead_5 (by decide) ?_
  refine k_icmp_ge C (tgt := 41) dX2_countAhead_7 rfl (by omega) (by omega) (fun c7 => ?_) (fun c7 => ?_)
  · refine k_iload_n C dX2_countAhead_41 rfl rfl ?_
    exact k_iret C dX2_countAhead_42 (by omega) (fun _ => ⟨rfl, by rw [hs, show g = 64 by omega]; rfl⟩)
  · refine k_iload_n C dX2_countAhead_10 rfl rfl ?_
    refine k_aload_n C dX2_countAhead_11 rfl rfl ?_
    refine k_iload_n C dX2_countAhead_12 rfl rfl ?_
    refine k_callV C okX2_59 dX2_countAhead_13 (c_Habits_isRanked M hH g (by omega)) rfl rfl (by decide) rfl (by decide) rfl (Nat.le_of_ble_eq_true rfl) (fun r13 M13 hr13 hp13 => ?_)
    obtain ⟨rfl, hp13⟩ := hp13
    refine k_if_eq C (tgt := 32) dX2_countAhead_16 rfl (by omega) (fun c16 => ?_) (fun c16 => ?_)
    · refine k_iconst C dX2_countAhead_32 ?_
      refine k_iadd C dX2_countAhead_33 ?_
      refine k_istore_n C dX2_countAhead_34 rfl (by decide) ?_
      refine k_iinc C dX2_countAhead_35 (by decide) rfl ?_
      refine k_goto C (tgt := 4) dX2_countAhead_38 rfl ?_
      refine k_cut2 C (lv' := [(0, _), (1, _), (2, _), (3, _)]) ⟨rfl, rfl, rfl, rfl, trivial⟩ ?_
      refine l_countAhead M hH h hh C _ _ (by omega) ?_
      rw [cnI_s _ hg.1]
      first
      | (rw [iteP_pos ⟨by rcases hp13 with z | z; exact z.2; omega, by rcases hp22 with z | z; exact z.2; omega⟩, hs]; done)
      | (rw [iteP_neg (fun q => by rcases hp22 with z | z; omega; exact z.2 q.2), hs]; done)
      | (rw [iteP_neg (fun q => by rcases hp13 with z | z; omega; exact z.2 q.1), hs]; done)
    · refine k_aload_n C dX2_countAhead_19 rfl rfl ?_
      refine k_iload_n C dX2_countAhead_20 rfl rfl ?_
      refine k_iload_n C dX2_countAhead_21 rfl rfl ?_
      refine k_callV C okX2_68 dX2_countAhead_22 (c_Habits_isAhead M hH g h (by omega) hh) rfl rfl (by decide) rfl (by decide) rfl (Nat.le_of_ble_eq_true rfl) (fun r22 M22 hr22 hp22 => ?_)
      obtain ⟨rfl, hp22⟩ := hp22
      refine k_if_eq C (tgt := 32) dX2_countAhead_25 rfl (by omega) (fun c25 => ?_) (fun c25 => ?_)
      · refine k_iconst C dX2_countAhead_32 ?_
        refine k_iadd C dX2_countAhead_33 ?_
        refine k_istore_n C dX2_countAhead_34 rfl (by decide) ?_
        refine k_iinc C dX2_countAhead_35 (by decide) rfl ?_
        refine k_goto C (tgt := 4) dX2_countAhead_38 rfl ?_
        refine k_cut2 C (lv' := [(0, _), (1, _), (2, _), (3, _)]) ⟨rfl, rfl, rfl, rfl, trivial⟩ ?_
        refine l_countAhead M hH h hh C _ _ (by omega) ?_
        rw [cnI_s _ hg.1]
        first
        | (rw [iteP_pos ⟨by rcases hp13 with z | z; exact z.2; omega, by rcases hp22 with z | z; exact z.2; omega⟩, hs]; done)
        | (rw [iteP_neg (fun q => by rcases hp22 with z | z; omega; exact z.2 q.2), hs]; done)
        | (rw [iteP_neg (fun q => by rcases hp13 with z | z; omega; exact z.2 q.1), hs]; done)
      · refine k_iconst C dX2_countAhead_28 ?_
        refine k_goto C (tgt := 33) dX2_countAhead_29 rfl ?_
        refine k_iadd C dX2_countAhead_33 ?_
        refine k_istore_n C dX2_countAhead_34 rfl (by decide) ?_
        refine k_iinc C dX2_countAhead_35 (by decide) rfl ?_
        refine k_goto C (tgt := 4) dX2_countAhead_38 rfl ?_
        refine k_cut2 C (lv' := [(0, _), (1, _), (2, _), (3, _)]) ⟨rfl, rfl, rfl, rfl, trivial⟩ ?_
        refine l_countAhead M hH h hh C _ _ (by omega) ?_
        rw [cnI_s _ hg.1]
        first
        | (rw [iteP_pos ⟨by rcases hp13 with z | z; exact z.2; omega, by rcases hp22 with z | z; exact z.2; omega⟩, hs]; done)
        | (rw [iteP_neg (fun q => by rcases hp22 with z | z; omega; exact z.2 q.2), hs]; done)
        | (rw [iteP_neg (fun q => by rcases hp13 with z | z; omega; exact z.2 q.1), hs]; done)
termination_by (64 - g).toNat
decreasing_by all_goals omega
set_option maxRecDepth 100000 in
theorem c_Habits_countAhead (M : Mem) (hH : okH M) (h : Int) (hh : 0 ≤ h ∧ h < 64) : Ct shC nC yX2_countAhead cX2_countAhead 4 (some .int) (lvl 3) [.inr 51, .inl h] M (fun r M' => M = M' ∧ r = ahN (M 52) (M 53) h) := by
  refine Ct_of (by decide +kernel) (Nat.le_of_ble_eq_true rfl) (fun K C => ?_)
  refine k_iconst C dX2_countAhead_0 ?_
  refine k_istore_n C dX2_countAhead_1 rfl (by decide) ?_
  refine k_iconst C dX2_countAhead_2 ?_
  refine k_istore_n C dX2_countAhead_3 rfl (by decide) ?_
  refine k_cut2 C (lv' := [(0, _), (1, _), (2, _), (3, _)]) ⟨rfl, rfl, rfl, rfl, trivial⟩ ?_
  exact l_countAhead M hH h hh C _ _ (by omega) rfl
theorem ahN_rg (hv ho : Int → Int) (h : Int) : 0 ≤ ahN hv ho h ∧ ahN hv ho h ≤ 64 := cnI_rg _ (by decide)
/-- how many of the first n are ranked ahead of h, h itself not counted: fewer than n -/
theorem cnI_lt {P : Int → Prop} {n j : Int} (hj : 0 ≤ j ∧ j < n) (h : ¬ P j) : cnI P n < n := by
  obtain ⟨m, rfl⟩ : ∃ m : Nat, n = m := ⟨n.toNat, by omega⟩
  induction m with
  | zero => omega
  | succ m ih =>
    rw [show ((m + 1 : Nat) : Int) = (m : Int) + 1 by omega, cnI_s _ (by omega)]
    by_cases e : j = m
    · subst e; rw [iteP_neg h]; have := cnI_rg P (n := (m : Int)) (by omega); omega
    · have := ih (by omega)
      by_cases q : P m
      · rw [iteP_pos q]; omega
      · rw [iteP_neg q]; omega
theorem ahd_self (hv ho : Int → Int) (h : Int) : ¬ ahd hv ho h h := by unfold ahd; omega
theorem ahN_lt (hv ho : Int → Int) {h : Int} (hh : 0 ≤ h ∧ h < 64) : ahN hv ho h < 64 := cnI_lt hh (fun q => ahd_self hv ho h q.2)
set_option maxRecDepth 100000 in
theorem l_atRank {K : Kt} (M : Mem) (hH : okH M) (k : Int) (hk : inR k) (C : Ctx shC nC RX2 cX2_atRank 3 (some .int) (lvl 4) (fun r M' => M = M' ∧ RkP (M 52) (M 53) k r) K) (h : Int) (hh : 0 ≤ h ∧ h ≤ 64) (hn : ∀ g, 0 ≤ g → g < h → ¬ (rkd (M 52) g ∧ ahN (M 52) (M 53) g = k)) : K 14 [(0, .inr 51), (1, .inl k), (2, .inl h)] [] M := by
  refine k_iload_n C dX2_atRank_14 rfl rfl ?_
  refine k_bipush C dX2_atRank_15 (by decide) ?_
  refine k_icmp_ge C (tgt := 45) dX2_atRank_17 rfl (by omega) (by omega) (fun c17 => ?_) (fun c17 => ?_)
  · refine k_iconst C dX2_atRank_45 ?_
    exact k_iret C dX2_atRank_46 (by omega) (fun _ => ⟨rfl, Or.inr ⟨rfl, fun g a b => hn g a (by omega)⟩⟩)
  · refine k_aload_n C dX2_atRank_20 rfl rfl ?_
    refine k_iload_n C dX2_atRank_21 rfl rfl ?_
    refine k_callV C okX2_59 dX2_atRank_22 (c_Habits_isRanked M hH h (by omega)) rfl rfl (by decide) rfl (by decide) rfl (Nat.le_of_ble_eq_true rfl) (fun r22 M22 hr22 hp22 => ?_)
    obtain ⟨rfl, hp22⟩ := hp22
    refine k_if_eq C (tgt := 39) dX2_atRank_25 rfl (by omega) (fun c25 => ?_) (fun c25 => ?_)
    · refine k_iinc C dX2_atRank_39 (by decide) rfl ?_
      refine k_goto C (tgt := 14) dX2_atRank_42 rfl ?_
      refine k_cut2 C (lv' := [(0, _), (1, _), (2, _)]) ⟨rfl, rfl, rfl, trivial⟩ ?_
      refine l_atRank M hH k hk C (h + 1) (by omega) (fun g a b q => ?_)
      by_cases e : g = h
      · subst e
        first | exact c34 q.2 | (rcases hp22 with z | z; omega; exact z.2 q.1)
      · exact hn g a (by omega) q
    · refine k_aload_n C dX2_atRank_28 rfl rfl ?_
      refine k_iload_n C dX2_atRank_29 rfl rfl ?_
      refine k_callV C okX2_62 dX2_atRank_30 (c_Habits_countAhead M hH h (by omega)) rfl rfl (by decide) rfl (by decide) rfl (Nat.le_of_ble_eq_true rfl) (fun r30 M30 hr30 hp30 => ?_)
      obtain ⟨rfl, rfl⟩ := hp30
      have har := ahN_rg (M 52) (M 53) h
      refine k_iload_n C dX2_atRank_33 rfl rfl ?_
      refine k_icmp_ne C (tgt := 39) dX2_atRank_34 rfl (by omega) (by omega) (fun c34 => ?_) (fun c34 => ?_)
      · refine k_iinc C dX2_atRank_39 (by decide) rfl ?_
        refine k_goto C (tgt := 14) dX2_atRank_42 rfl ?_
        refine k_cut2 C (lv' := [(0, _), (1, _), (2, _)]) ⟨rfl, rfl, rfl, trivial⟩ ?_
        refine l_atRank M hH k hk C (h + 1) (by omega) (fun g a b q => ?_)
        by_cases e : g = h
        · subst e
          first | exact c34 q.2 | (rcases hp22 with z | z; omega; exact z.2 q.1)
        · exact hn g a (by omega) q
      · refine k_iload_n C dX2_atRank_37 rfl rfl ?_
        exact k_iret C dX2_atRank_38 (by omega) (fun _ => ⟨rfl, Or.inl ⟨hh.1, by omega, by rcases hp22 with z | z; exact z.2; omega, c34, hn⟩⟩)
termination_by (64 - h).toNat
decreasing_by all_goals omega
set_option maxRecDepth 100000 in
theorem c_Habits_atRank (M : Mem) (hH : okH M) (k : Int) (hk : inR k) : Ct shC nC yX2_atRank cX2_atRank 3 (some .int) (lvl 4) [.inr 51, .inl k] M (fun r M' => M = M' ∧ RkP (M 52) (M 53) k r) := by
  refine Ct_of (by decide +kernel) (Nat.le_of_ble_eq_true rfl) (fun K C => ?_)
  refine k_iload_n C dX2_atRank_0 rfl rfl ?_
  refine k_if_lt C (tgt := 10) dX2_atRank_1 rfl (by omega) (fun c1 => ?_) (fun c1 => ?_)
  · refine k_iconst C dX2_atRank_10 ?_
    exact k_iret C dX2_atRank_11 (by omega) (fun _ => ⟨rfl, Or.inr ⟨rfl, fun g a b q => by have := ahN_rg (M 52) (M 53) g; have := ahN_lt (M 52) (M 53) ⟨a, b⟩; omega⟩⟩)
  · refine k_iload_n C dX2_atRank_4 rfl rfl ?_
    refine k_bipush C dX2_atRank_5 (by decide) ?_
    refine k_icmp_lt C (tgt := 12) dX2_atRank_7 rfl (by omega) (by omega) (fun c7 => ?_) (fun c7 => ?_)
    · refine k_iconst C dX2_atRank_12 ?_
      refine k_istore_n C dX2_atRank_13 rfl (by decide) ?_
      refine k_cut2 C (lv' := [(0, _), (1, _), (2, _)]) ⟨rfl, rfl, rfl, trivial⟩ ?_
      exact l_atRank M hH k hk C 0 (by omega) (fun g a b => by omega)
    · refine k_iconst C dX2_atRank_10 ?_
      exact k_iret C dX2_atRank_11 (by omega) (fun _ => ⟨rfl, Or.inr ⟨rfl, fun g a b q => by have := ahN_rg (M 52) (M 53) g; have := ahN_lt (M 52) (M 53) ⟨a, b⟩; omega⟩⟩)
end
