theorem dX0_init_0 : decode cX0_init 0 = .ok (.aload_n 0, 1) := by decide +kernel
theorem dX0_init_1 : decode cX0_init 1 = .ok (.invokespecial 3, 3) := by decide +kernel
theorem dX0_init_4 : decode cX0_init 4 = .ok (.aload_n 0, 1) := by decide +kernel
theorem dX0_init_5 : decode cX0_init 5 = .ok (.sipush 720, 3) := by decide +kernel
theorem dX0_init_8 : decode cX0_init 8 = .ok (.newarray .int, 2) := by decide +kernel
theorem dX0_init_10 : decode cX0_init 10 = .ok (.putfield 9, 3) := by decide +kernel
theorem dX0_init_13 : decode cX0_init 13 = .ok (.aload_n 0, 1) := by decide +kernel
theorem dX0_init_14 : decode cX0_init 14 = .ok (.bipush 60, 2) := by decide +kernel
theorem dX0_init_16 : decode cX0_init 16 = .ok (.newarray .int, 2) := by decide +kernel
theorem dX0_init_18 : decode cX0_init 18 = .ok (.putfield 15, 3) := by decide +kernel
theorem dX0_init_21 : decode cX0_init 21 = .ok (.aload_n 0, 1) := by decide +kernel
theorem dX0_init_22 : decode cX0_init 22 = .ok (.bipush 60, 2) := by decide +kernel
theorem dX0_init_24 : decode cX0_init 24 = .ok (.newarray .boolean, 2) := by decide +kernel
theorem dX0_init_26 : decode cX0_init 26 = .ok (.putfield 18, 3) := by decide +kernel
theorem dX0_init_29 : decode cX0_init 29 = .ok (.aload_n 0, 1) := by decide +kernel
theorem dX0_init_30 : decode cX0_init 30 = .ok (.bipush 60, 2) := by decide +kernel
theorem dX0_init_32 : decode cX0_init 32 = .ok (.newarray .boolean, 2) := by decide +kernel
theorem dX0_init_34 : decode cX0_init 34 = .ok (.putfield 22, 3) := by decide +kernel
theorem dX0_init_37 : decode cX0_init 37 = .ok (.aload_n 0, 1) := by decide +kernel
theorem dX0_init_38 : decode cX0_init 38 = .ok (.bipush 60, 2) := by decide +kernel
theorem dX0_init_40 : decode cX0_init 40 = .ok (.newarray .int, 2) := by decide +kernel
theorem dX0_init_42 : decode cX0_init 42 = .ok (.putfield 25, 3) := by decide +kernel
theorem dX0_init_45 : decode cX0_init 45 = .ok (.return_, 1) := by decide +kernel
theorem dX0_knows_0 : decode cX0_knows 0 = .ok (.iload_n 1, 1) := by decide +kernel
theorem dX0_knows_1 : decode cX0_knows 1 = .ok (.ifCond .lt 21, 3) := by decide +kernel
theorem dX0_knows_4 : decode cX0_knows 4 = .ok (.iload_n 1, 1) := by decide +kernel
theorem dX0_knows_5 : decode cX0_knows 5 = .ok (.aload_n 0, 1) := by decide +kernel
theorem dX0_knows_6 : decode cX0_knows 6 = .ok (.getfield 28, 3) := by decide +kernel
theorem dX0_knows_9 : decode cX0_knows 9 = .ok (.if_icmp .ge 13, 3) := by decide +kernel
theorem dX0_knows_12 : decode cX0_knows 12 = .ok (.iload_n 1, 1) := by decide +kernel
theorem dX0_knows_13 : decode cX0_knows 13 = .ok (.bipush 60, 2) := by decide +kernel
theorem dX0_knows_15 : decode cX0_knows 15 = .ok (.if_icmp .ge 7, 3) := by decide +kernel
theorem dX0_knows_18 : decode cX0_knows 18 = .ok (.iconst 1, 1) := by decide +kernel
theorem dX0_knows_19 : decode cX0_knows 19 = .ok (.goto 4, 3) := by decide +kernel
theorem dX0_knows_22 : decode cX0_knows 22 = .ok (.iconst 0, 1) := by decide +kernel
theorem dX0_knows_23 : decode cX0_knows 23 = .ok (.ireturn, 1) := by decide +kernel
theorem dX0_enter_0 : decode cX0_enter 0 = .ok (.aload_n 0, 1) := by decide +kernel
theorem dX0_enter_1 : decode cX0_enter 1 = .ok (.getfield 28, 3) := by decide +kernel
theorem dX0_enter_4 : decode cX0_enter 4 = .ok (.ifCond .lt 12, 3) := by decide +kernel
theorem dX0_enter_7 : decode cX0_enter 7 = .ok (.aload_n 0, 1) := by decide +kernel
theorem dX0_enter_8 : decode cX0_enter 8 = .ok (.getfield 28, 3) := by decide +kernel
theorem dX0_enter_11 : decode cX0_enter 11 = .ok (.bipush 60, 2) := by decide +kernel
theorem dX0_enter_13 : decode cX0_enter 13 = .ok (.if_icmp .lt 5, 3) := by decide +kernel
theorem dX0_enter_16 : decode cX0_enter 16 = .ok (.iconst (-1), 1) := by decide +kernel
theorem dX0_enter_17 : decode cX0_enter 17 = .ok (.ireturn, 1) := by decide +kernel
theorem dX0_enter_18 : decode cX0_enter 18 = .ok (.iconst 0, 1) := by decide +kernel
theorem dX0_enter_19 : decode cX0_enter 19 = .ok (.istore_n 3, 1) := by decide +kernel
theorem dX0_enter_20 : decode cX0_enter 20 = .ok (.iload_n 3, 1) := by decide +kernel
theorem dX0_enter_21 : decode cX0_enter 21 = .ok (.aload_n 1, 1) := by decide +kernel
theorem dX0_enter_22 : decode cX0_enter 22 = .ok (.getfield 32, 3) := by decide +kernel
theorem dX0_enter_25 : decode cX0_enter 25 = .ok (.if_icmp .ge 34, 3) := by decide +kernel
theorem dX0_enter_28 : decode cX0_enter 28 = .ok (.iload_n 3, 1) := by decide +kernel
theorem dX0_enter_29 : decode cX0_enter 29 = .ok (.bipush 12, 2) := by decide +kernel
theorem dX0_enter_31 : decode cX0_enter 31 = .ok (.if_icmp .ge 28, 3) := by decide +kernel
theorem dX0_enter_34 : decode cX0_enter 34 = .ok (.aload_n 0, 1) := by decide +kernel
theorem dX0_enter_35 : decode cX0_enter 35 = .ok (.getfield 9, 3) := by decide +kernel
theorem dX0_enter_38 : decode cX0_enter 38 = .ok (.aload_n 0, 1) := by decide +kernel
theorem dX0_enter_39 : decode cX0_enter 39 = .ok (.getfield 28, 3) := by decide +kernel
theorem dX0_enter_42 : decode cX0_enter 42 = .ok (.bipush 12, 2) := by decide +kernel
theorem dX0_enter_44 : decode cX0_enter 44 = .ok (.imul, 1) := by decide +kernel
theorem dX0_enter_45 : decode cX0_enter 45 = .ok (.iload_n 3, 1) := by decide +kernel
theorem dX0_enter_46 : decode cX0_enter 46 = .ok (.iadd, 1) := by decide +kernel
theorem dX0_enter_47 : decode cX0_enter 47 = .ok (.aload_n 1, 1) := by decide +kernel
theorem dX0_enter_48 : decode cX0_enter 48 = .ok (.iload_n 3, 1) := by decide +kernel
theorem dX0_enter_49 : decode cX0_enter 49 = .ok (.invokevirtual 37, 3) := by decide +kernel
theorem dX0_enter_52 : decode cX0_enter 52 = .ok (.iastore, 1) := by decide +kernel
theorem dX0_enter_53 : decode cX0_enter 53 = .ok (.iinc 3 1, 3) := by decide +kernel
theorem dX0_enter_56 : decode cX0_enter 56 = .ok (.goto (-36), 3) := by decide +kernel
theorem dX0_enter_59 : decode cX0_enter 59 = .ok (.aload_n 0, 1) := by decide +kernel
theorem dX0_enter_60 : decode cX0_enter 60 = .ok (.getfield 15, 3) := by decide +kernel
theorem dX0_enter_63 : decode cX0_enter 63 = .ok (.aload_n 0, 1) := by decide +kernel
theorem dX0_enter_64 : decode cX0_enter 64 = .ok (.getfield 28, 3) := by decide +kernel
theorem dX0_enter_67 : decode cX0_enter 67 = .ok (.aload_n 1, 1) := by decide +kernel
theorem dX0_enter_68 : decode cX0_enter 68 = .ok (.getfield 32, 3) := by decide +kernel
theorem dX0_enter_71 : decode cX0_enter 71 = .ok (.iastore, 1) := by decide +kernel
theorem dX0_enter_72 : decode cX0_enter 72 = .ok (.aload_n 0, 1) := by decide +kernel
theorem dX0_enter_73 : decode cX0_enter 73 = .ok (.getfield 18, 3) := by decide +kernel
theorem dX0_enter_76 : decode cX0_enter 76 = .ok (.aload_n 0, 1) := by decide +kernel
theorem dX0_enter_77 : decode cX0_enter 77 = .ok (.getfield 28, 3) := by decide +kernel
theorem dX0_enter_80 : decode cX0_enter 80 = .ok (.iload_n 2, 1) := by decide +kernel
theorem dX0_enter_81 : decode cX0_enter 81 = .ok (.bastore, 1) := by decide +kernel
theorem dX0_enter_82 : decode cX0_enter 82 = .ok (.aload_n 0, 1) := by decide +kernel
theorem dX0_enter_83 : decode cX0_enter 83 = .ok (.getfield 22, 3) := by decide +kernel
theorem dX0_enter_86 : decode cX0_enter 86 = .ok (.aload_n 0, 1) := by decide +kernel
theorem dX0_enter_87 : decode cX0_enter 87 = .ok (.getfield 28, 3) := by decide +kernel
theorem dX0_enter_90 : decode cX0_enter 90 = .ok (.iconst 1, 1) := by decide +kernel
theorem dX0_enter_91 : decode cX0_enter 91 = .ok (.bastore, 1) := by decide +kernel
theorem dX0_enter_92 : decode cX0_enter 92 = .ok (.aload_n 0, 1) := by decide +kernel
theorem dX0_enter_93 : decode cX0_enter 93 = .ok (.dup, 1) := by decide +kernel
theorem dX0_enter_94 : decode cX0_enter 94 = .ok (.getfield 28, 3) := by decide +kernel
theorem dX0_enter_97 : decode cX0_enter 97 = .ok (.iconst 1, 1) := by decide +kernel
theorem dX0_enter_98 : decode cX0_enter 98 = .ok (.iadd, 1) := by decide +kernel
theorem dX0_enter_99 : decode cX0_enter 99 = .ok (.putfield 28, 3) := by decide +kernel
theorem dX0_enter_102 : decode cX0_enter 102 = .ok (.aload_n 0, 1) := by decide +kernel
theorem dX0_enter_103 : decode cX0_enter 103 = .ok (.getfield 28, 3) := by decide +kernel
theorem dX0_enter_106 : decode cX0_enter 106 = .ok (.iconst 1, 1) := by decide +kernel
theorem dX0_enter_107 : decode cX0_enter 107 = .ok (.isub, 1) := by decide +kernel
theorem dX0_enter_108 : decode cX0_enter 108 = .ok (.ireturn, 1) := by decide +kernel
theorem dX0_sizeOf_0 : decode cX0_sizeOf 0 = .ok (.aload_n 0, 1) := by decide +kernel
theorem dX0_sizeOf_1 : decode cX0_sizeOf 1 = .ok (.iload_n 1, 1) := by decide +kernel
theorem dX0_sizeOf_2 : decode cX0_sizeOf 2 = .ok (.invokevirtual 41, 3) := by decide +kernel
theorem dX0_sizeOf_5 : decode cX0_sizeOf 5 = .ok (.ifCond .eq 12, 3) := by decide +kernel
theorem dX0_sizeOf_8 : decode cX0_sizeOf 8 = .ok (.aload_n 0, 1) := by decide +kernel
theorem dX0_sizeOf_9 : decode cX0_sizeOf 9 = .ok (.getfield 15, 3) := by decide +kernel
theorem dX0_sizeOf_12 : decode cX0_sizeOf 12 = .ok (.iload_n 1, 1) := by decide +kernel
theorem dX0_sizeOf_13 : decode cX0_sizeOf 13 = .ok (.iaload, 1) := by decide +kernel
theorem dX0_sizeOf_14 : decode cX0_sizeOf 14 = .ok (.goto 4, 3) := by decide +kernel
theorem dX0_sizeOf_17 : decode cX0_sizeOf 17 = .ok (.iconst 0, 1) := by decide +kernel
theorem dX0_sizeOf_18 : decode cX0_sizeOf 18 = .ok (.ireturn, 1) := by decide +kernel
theorem dX0_callAt_0 : decode cX0_callAt 0 = .ok (.iload_n 1, 1) := by decide +kernel
theorem dX0_callAt_1 : decode cX0_callAt 1 = .ok (.ifCond .lt 19, 3) := by decide +kernel
theorem dX0_callAt_4 : decode cX0_callAt 4 = .ok (.iload_n 1, 1) := by decide +kernel
theorem dX0_callAt_5 : decode cX0_callAt 5 = .ok (.bipush 60, 2) := by decide +kernel
theorem dX0_callAt_7 : decode cX0_callAt 7 = .ok (.if_icmp .ge 13, 3) := by decide +kernel
theorem dX0_callAt_10 : decode cX0_callAt 10 = .ok (.iload_n 2, 1) := by decide +kernel
theorem dX0_callAt_11 : decode cX0_callAt 11 = .ok (.ifCond .lt 9, 3) := by decide +kernel
theorem dX0_callAt_14 : decode cX0_callAt 14 = .ok (.iload_n 2, 1) := by decide +kernel
theorem dX0_callAt_15 : decode cX0_callAt 15 = .ok (.bipush 12, 2) := by decide +kernel
theorem dX0_callAt_17 : decode cX0_callAt 17 = .ok (.if_icmp .lt 5, 3) := by decide +kernel
theorem dX0_callAt_20 : decode cX0_callAt 20 = .ok (.iconst (-1), 1) := by decide +kernel
theorem dX0_callAt_21 : decode cX0_callAt 21 = .ok (.ireturn, 1) := by decide +kernel
theorem dX0_callAt_22 : decode cX0_callAt 22 = .ok (.aload_n 0, 1) := by decide +kernel
theorem dX0_callAt_23 : decode cX0_callAt 23 = .ok (.getfield 9, 3) := by decide +kernel
theorem dX0_callAt_26 : decode cX0_callAt 26 = .ok (.iload_n 1, 1) := by decide +kernel
theorem dX0_callAt_27 : decode cX0_callAt 27 = .ok (.bipush 12, 2) := by decide +kernel
theorem dX0_callAt_29 : decode cX0_callAt 29 = .ok (.imul, 1) := by decide +kernel
theorem dX0_callAt_30 : decode cX0_callAt 30 = .ok (.iload_n 2, 1) := by decide +kernel
theorem dX0_callAt_31 : decode cX0_callAt 31 = .ok (.iadd, 1) := by decide +kernel
theorem dX0_callAt_32 : decode cX0_callAt 32 = .ok (.iaload, 1) := by decide +kernel
theorem dX0_callAt_33 : decode cX0_callAt 33 = .ok (.ireturn, 1) := by decide +kernel
theorem dX0_isRightThere_0 : decode cX0_isRightThere 0 = .ok (.aload_n 0, 1) := by decide +kernel
theorem dX0_isRightThere_1 : decode cX0_isRightThere 1 = .ok (.iload_n 1, 1) := by decide +kernel
theorem dX0_isRightThere_2 : decode cX0_isRightThere 2 = .ok (.invokevirtual 41, 3) := by decide +kernel
theorem dX0_isRightThere_5 : decode cX0_isRightThere 5 = .ok (.ifCond .eq 25, 3) := by decide +kernel
theorem dX0_isRightThere_8 : decode cX0_isRightThere 8 = .ok (.aload_n 0, 1) := by decide +kernel
theorem dX0_isRightThere_9 : decode cX0_isRightThere 9 = .ok (.getfield 22, 3) := by decide +kernel
theorem dX0_isRightThere_12 : decode cX0_isRightThere 12 = .ok (.iload_n 1, 1) := by decide +kernel
theorem dX0_isRightThere_13 : decode cX0_isRightThere 13 = .ok (.baload, 1) := by decide +kernel
theorem dX0_isRightThere_14 : decode cX0_isRightThere 14 = .ok (.ifCond .eq 16, 3) := by decide +kernel
theorem dX0_isRightThere_17 : decode cX0_isRightThere 17 = .ok (.aload_n 0, 1) := by decide +kernel
theorem dX0_isRightThere_18 : decode cX0_isRightThere 18 = .ok (.getfield 18, 3) := by decide +kernel
theorem dX0_isRightThere_21 : decode cX0_isRightThere 21 = .ok (.iload_n 1, 1) := by decide +kernel
theorem dX0_isRightThere_22 : decode cX0_isRightThere 22 = .ok (.baload, 1) := by decide +kernel
theorem dX0_isRightThere_23 : decode cX0_isRightThere 23 = .ok (.ifCond .eq 7, 3) := by decide +kernel
theorem dX0_isRightThere_26 : decode cX0_isRightThere 26 = .ok (.iconst 1, 1) := by decide +kernel
theorem dX0_isRightThere_27 : decode cX0_isRightThere 27 = .ok (.goto 4, 3) := by decide +kernel
theorem dX0_isRightThere_30 : decode cX0_isRightThere 30 = .ok (.iconst 0, 1) := by decide +kernel
theorem dX0_isRightThere_31 : decode cX0_isRightThere 31 = .ok (.ireturn, 1) := by decide +kernel
theorem dX0_isWrongThere_0 : decode cX0_isWrongThere 0 = .ok (.aload_n 0, 1) := by decide +kernel
theorem dX0_isWrongThere_1 : decode cX0_isWrongThere 1 = .ok (.iload_n 1, 1) := by decide +kernel
theorem dX0_isWrongThere_2 : decode cX0_isWrongThere 2 = .ok (.invokevirtual 41, 3) := by decide +kernel
theorem dX0_isWrongThere_5 : decode cX0_isWrongThere 5 = .ok (.ifCond .eq 25, 3) := by decide +kernel
theorem dX0_isWrongThere_8 : decode cX0_isWrongThere 8 = .ok (.aload_n 0, 1) := by decide +kernel
theorem dX0_isWrongThere_9 : decode cX0_isWrongThere 9 = .ok (.getfield 22, 3) := by decide +kernel
theorem dX0_isWrongThere_12 : decode cX0_isWrongThere 12 = .ok (.iload_n 1, 1) := by decide +kernel
theorem dX0_isWrongThere_13 : decode cX0_isWrongThere 13 = .ok (.baload, 1) := by decide +kernel
theorem dX0_isWrongThere_14 : decode cX0_isWrongThere 14 = .ok (.ifCond .eq 16, 3) := by decide +kernel
theorem dX0_isWrongThere_17 : decode cX0_isWrongThere 17 = .ok (.aload_n 0, 1) := by decide +kernel
theorem dX0_isWrongThere_18 : decode cX0_isWrongThere 18 = .ok (.getfield 18, 3) := by decide +kernel
theorem dX0_isWrongThere_21 : decode cX0_isWrongThere 21 = .ok (.iload_n 1, 1) := by decide +kernel
theorem dX0_isWrongThere_22 : decode cX0_isWrongThere 22 = .ok (.baload, 1) := by decide +kernel
theorem dX0_isWrongThere_23 : decode cX0_isWrongThere 23 = .ok (.ifCond .ne 7, 3) := by decide +kernel
theorem dX0_isWrongThere_26 : decode cX0_isWrongThere 26 = .ok (.iconst 1, 1) := by decide +kernel
theorem dX0_isWrongThere_27 : decode cX0_isWrongThere 27 = .ok (.goto 4, 3) := by decide +kernel
theorem dX0_isWrongThere_30 : decode cX0_isWrongThere 30 = .ok (.iconst 0, 1) := by decide +kernel
theorem dX0_isWrongThere_31 : decode cX0_isWrongThere 31 = .ok (.ireturn, 1) := by decide +kernel
theorem dX0_countThere_0 : decode cX0_countThere 0 = .ok (.iconst 0, 1) := by decide +kernel
theorem dX0_countThere_1 : decode cX0_countThere 1 = .ok (.istore_n 1, 1) := by decide +kernel
theorem dX0_countThere_2 : decode cX0_countThere 2 = .ok (.iconst 0, 1) := by decide +kernel
theorem dX0_countThere_3 : decode cX0_countThere 3 = .ok (.istore_n 2, 1) := by decide +kernel
theorem dX0_countThere_4 : decode cX0_countThere 4 = .ok (.iload_n 2, 1) := by decide +kernel
theorem dX0_countThere_5 : decode cX0_countThere 5 = .ok (.aload_n 0, 1) := by decide +kernel
theorem dX0_countThere_6 : decode cX0_countThere 6 = .ok (.getfield 28, 3) := by decide +kernel
theorem dX0_countThere_9 : decode cX0_countThere 9 = .ok (.if_icmp .ge 32, 3) := by decide +kernel
theorem dX0_countThere_12 : decode cX0_countThere 12 = .ok (.iload_n 2, 1) := by decide +kernel
theorem dX0_countThere_13 : decode cX0_countThere 13 = .ok (.bipush 60, 2) := by decide +kernel
theorem dX0_countThere_15 : decode cX0_countThere 15 = .ok (.if_icmp .ge 26, 3) := by decide +kernel
theorem dX0_countThere_18 : decode cX0_countThere 18 = .ok (.iload_n 1, 1) := by decide +kernel
theorem dX0_countThere_19 : decode cX0_countThere 19 = .ok (.aload_n 0, 1) := by decide +kernel
theorem dX0_countThere_20 : decode cX0_countThere 20 = .ok (.getfield 22, 3) := by decide +kernel
theorem dX0_countThere_23 : decode cX0_countThere 23 = .ok (.iload_n 2, 1) := by decide +kernel
theorem dX0_countThere_24 : decode cX0_countThere 24 = .ok (.baload, 1) := by decide +kernel
theorem dX0_countThere_25 : decode cX0_countThere 25 = .ok (.ifCond .eq 7, 3) := by decide +kernel
theorem dX0_countThere_28 : decode cX0_countThere 28 = .ok (.iconst 1, 1) := by decide +kernel
theorem dX0_countThere_29 : decode cX0_countThere 29 = .ok (.goto 4, 3) := by decide +kernel
theorem dX0_countThere_32 : decode cX0_countThere 32 = .ok (.iconst 0, 1) := by decide +kernel
theorem dX0_countThere_33 : decode cX0_countThere 33 = .ok (.iadd, 1) := by decide +kernel
theorem dX0_countThere_34 : decode cX0_countThere 34 = .ok (.istore_n 1, 1) := by decide +kernel
theorem dX0_countThere_35 : decode cX0_countThere 35 = .ok (.iinc 2 1, 3) := by decide +kernel
theorem dX0_countThere_38 : decode cX0_countThere 38 = .ok (.goto (-34), 3) := by decide +kernel
theorem dX0_countThere_41 : decode cX0_countThere 41 = .ok (.iload_n 1, 1) := by decide +kernel
theorem dX0_countThere_42 : decode cX0_countThere 42 = .ok (.ireturn, 1) := by decide +kernel
theorem dX0_standingOf_0 : decode cX0_standingOf 0 = .ok (.aload_n 0, 1) := by decide +kernel
theorem dX0_standingOf_1 : decode cX0_standingOf 1 = .ok (.iload_n 1, 1) := by decide +kernel
theorem dX0_standingOf_2 : decode cX0_standingOf 2 = .ok (.invokevirtual 45, 3) := by decide +kernel
theorem dX0_standingOf_5 : decode cX0_standingOf 5 = .ok (.ifCond .eq 9, 3) := by decide +kernel
theorem dX0_standingOf_8 : decode cX0_standingOf 8 = .ok (.aload_n 0, 1) := by decide +kernel
theorem dX0_standingOf_9 : decode cX0_standingOf 9 = .ok (.iload_n 1, 1) := by decide +kernel
theorem dX0_standingOf_10 : decode cX0_standingOf 10 = .ok (.invokevirtual 48, 3) := by decide +kernel
theorem dX0_standingOf_13 : decode cX0_standingOf 13 = .ok (.ireturn, 1) := by decide +kernel
theorem dX0_standingOf_14 : decode cX0_standingOf 14 = .ok (.aload_n 0, 1) := by decide +kernel
theorem dX0_standingOf_15 : decode cX0_standingOf 15 = .ok (.iload_n 1, 1) := by decide +kernel
theorem dX0_standingOf_16 : decode cX0_standingOf 16 = .ok (.invokevirtual 51, 3) := by decide +kernel
theorem dX0_standingOf_19 : decode cX0_standingOf 19 = .ok (.ifCond .eq 15, 3) := by decide +kernel
theorem dX0_standingOf_22 : decode cX0_standingOf 22 = .ok (.aload_n 0, 1) := by decide +kernel
theorem dX0_standingOf_23 : decode cX0_standingOf 23 = .ok (.iload_n 1, 1) := by decide +kernel
theorem dX0_standingOf_24 : decode cX0_standingOf 24 = .ok (.invokevirtual 54, 3) := by decide +kernel
theorem dX0_standingOf_27 : decode cX0_standingOf 27 = .ok (.ifCond .eq 7, 3) := by decide +kernel
theorem dX0_standingOf_30 : decode cX0_standingOf 30 = .ok (.iconst 1, 1) := by decide +kernel
theorem dX0_standingOf_31 : decode cX0_standingOf 31 = .ok (.goto 4, 3) := by decide +kernel
theorem dX0_standingOf_34 : decode cX0_standingOf 34 = .ok (.iconst 0, 1) := by decide +kernel
theorem dX0_standingOf_35 : decode cX0_standingOf 35 = .ok (.ireturn, 1) := by decide +kernel
theorem dX0_cutSize_0 : decode cX0_cutSize 0 = .ok (.aload_n 0, 1) := by decide +kernel
theorem dX0_cutSize_1 : decode cX0_cutSize 1 = .ok (.iload_n 1, 1) := by decide +kernel
theorem dX0_cutSize_2 : decode cX0_cutSize 2 = .ok (.invokevirtual 57, 3) := by decide +kernel
theorem dX0_cutSize_5 : decode cX0_cutSize 5 = .ok (.istore_n 2, 1) := by decide +kernel
theorem dX0_cutSize_6 : decode cX0_cutSize 6 = .ok (.iconst 0, 1) := by decide +kernel
theorem dX0_cutSize_7 : decode cX0_cutSize 7 = .ok (.istore_n 3, 1) := by decide +kernel
theorem dX0_cutSize_8 : decode cX0_cutSize 8 = .ok (.iload_n 3, 1) := by decide +kernel
theorem dX0_cutSize_9 : decode cX0_cutSize 9 = .ok (.aload_n 0, 1) := by decide +kernel
theorem dX0_cutSize_10 : decode cX0_cutSize 10 = .ok (.getfield 28, 3) := by decide +kernel
theorem dX0_cutSize_13 : decode cX0_cutSize 13 = .ok (.if_icmp .ge 43, 3) := by decide +kernel
theorem dX0_cutSize_16 : decode cX0_cutSize 16 = .ok (.aload_n 0, 1) := by decide +kernel
theorem dX0_cutSize_17 : decode cX0_cutSize 17 = .ok (.iload_n 3, 1) := by decide +kernel
theorem dX0_cutSize_18 : decode cX0_cutSize 18 = .ok (.invokevirtual 51, 3) := by decide +kernel
theorem dX0_cutSize_21 : decode cX0_cutSize 21 = .ok (.ifCond .eq 29, 3) := by decide +kernel
theorem dX0_cutSize_24 : decode cX0_cutSize 24 = .ok (.aload_n 0, 1) := by decide +kernel
theorem dX0_cutSize_25 : decode cX0_cutSize 25 = .ok (.iload_n 3, 1) := by decide +kernel
theorem dX0_cutSize_26 : decode cX0_cutSize 26 = .ok (.invokevirtual 57, 3) := by decide +kernel
theorem dX0_cutSize_29 : decode cX0_cutSize 29 = .ok (.iload_n 2, 1) := by decide +kernel
theorem dX0_cutSize_30 : decode cX0_cutSize 30 = .ok (.if_icmp .gt 20, 3) := by decide +kernel
theorem dX0_cutSize_33 : decode cX0_cutSize 33 = .ok (.aload_n 0, 1) := by decide +kernel
theorem dX0_cutSize_34 : decode cX0_cutSize 34 = .ok (.iload_n 1, 1) := by decide +kernel
theorem dX0_cutSize_35 : decode cX0_cutSize 35 = .ok (.iload_n 3, 1) := by decide +kernel
theorem dX0_cutSize_36 : decode cX0_cutSize 36 = .ok (.invokevirtual 60, 3) := by decide +kernel
theorem dX0_cutSize_39 : decode cX0_cutSize 39 = .ok (.ifCond .eq 11, 3) := by decide +kernel
theorem dX0_cutSize_42 : decode cX0_cutSize 42 = .ok (.aload_n 0, 1) := by decide +kernel
theorem dX0_cutSize_43 : decode cX0_cutSize 43 = .ok (.iload_n 3, 1) := by decide +kernel
theorem dX0_cutSize_44 : decode cX0_cutSize 44 = .ok (.invokevirtual 57, 3) := by decide +kernel
theorem dX0_cutSize_47 : decode cX0_cutSize 47 = .ok (.iconst 1, 1) := by decide +kernel
theorem dX0_cutSize_48 : decode cX0_cutSize 48 = .ok (.isub, 1) := by decide +kernel
theorem dX0_cutSize_49 : decode cX0_cutSize 49 = .ok (.istore_n 2, 1) := by decide +kernel
theorem dX0_cutSize_50 : decode cX0_cutSize 50 = .ok (.iinc 3 1, 3) := by decide +kernel
theorem dX0_cutSize_53 : decode cX0_cutSize 53 = .ok (.goto (-45), 3) := by decide +kernel
theorem dX0_cutSize_56 : decode cX0_cutSize 56 = .ok (.iload_n 2, 1) := by decide +kernel
theorem dX0_cutSize_57 : decode cX0_cutSize 57 = .ok (.ireturn, 1) := by decide +kernel
theorem dX0_isLeftOut_0 : decode cX0_isLeftOut 0 = .ok (.iconst 0, 1) := by decide +kernel
theorem dX0_isLeftOut_1 : decode cX0_isLeftOut 1 = .ok (.istore_n 2, 1) := by decide +kernel
theorem dX0_isLeftOut_2 : decode cX0_isLeftOut 2 = .ok (.iload_n 2, 1) := by decide +kernel
theorem dX0_isLeftOut_3 : decode cX0_isLeftOut 3 = .ok (.aload_n 0, 1) := by decide +kernel
theorem dX0_isLeftOut_4 : decode cX0_isLeftOut 4 = .ok (.getfield 28, 3) := by decide +kernel
theorem dX0_isLeftOut_7 : decode cX0_isLeftOut 7 = .ok (.if_icmp .ge 28, 3) := by decide +kernel
theorem dX0_isLeftOut_10 : decode cX0_isLeftOut 10 = .ok (.aload_n 0, 1) := by decide +kernel
theorem dX0_isLeftOut_11 : decode cX0_isLeftOut 11 = .ok (.iload_n 2, 1) := by decide +kernel
theorem dX0_isLeftOut_12 : decode cX0_isLeftOut 12 = .ok (.invokevirtual 45, 3) := by decide +kernel
theorem dX0_isLeftOut_15 : decode cX0_isLeftOut 15 = .ok (.ifCond .eq 14, 3) := by decide +kernel
theorem dX0_isLeftOut_18 : decode cX0_isLeftOut 18 = .ok (.aload_n 0, 1) := by decide +kernel
theorem dX0_isLeftOut_19 : decode cX0_isLeftOut 19 = .ok (.iload_n 2, 1) := by decide +kernel
theorem dX0_isLeftOut_20 : decode cX0_isLeftOut 20 = .ok (.iload_n 1, 1) := by decide +kernel
theorem dX0_isLeftOut_21 : decode cX0_isLeftOut 21 = .ok (.invokevirtual 60, 3) := by decide +kernel
theorem dX0_isLeftOut_24 : decode cX0_isLeftOut 24 = .ok (.ifCond .eq 5, 3) := by decide +kernel
theorem dX0_isLeftOut_27 : decode cX0_isLeftOut 27 = .ok (.iconst 1, 1) := by decide +kernel
theorem dX0_isLeftOut_28 : decode cX0_isLeftOut 28 = .ok (.ireturn, 1) := by decide +kernel
theorem dX0_isLeftOut_29 : decode cX0_isLeftOut 29 = .ok (.iinc 2 1, 3) := by decide +kernel
theorem dX0_isLeftOut_32 : decode cX0_isLeftOut 32 = .ok (.goto (-30), 3) := by decide +kernel
theorem dX0_isLeftOut_35 : decode cX0_isLeftOut 35 = .ok (.iconst 0, 1) := by decide +kernel
theorem dX0_isLeftOut_36 : decode cX0_isLeftOut 36 = .ok (.ireturn, 1) := by decide +kernel
theorem dX0_gatherBinding_0 : decode cX0_gatherBinding 0 = .ok (.aload_n 0, 1) := by decide +kernel
theorem dX0_gatherBinding_1 : decode cX0_gatherBinding 1 = .ok (.iconst 0, 1) := by decide +kernel
theorem dX0_gatherBinding_2 : decode cX0_gatherBinding 2 = .ok (.putfield 64, 3) := by decide +kernel
theorem dX0_gatherBinding_5 : decode cX0_gatherBinding 5 = .ok (.iconst 0, 1) := by decide +kernel
theorem dX0_gatherBinding_6 : decode cX0_gatherBinding 6 = .ok (.istore_n 1, 1) := by decide +kernel
theorem dX0_gatherBinding_7 : decode cX0_gatherBinding 7 = .ok (.iload_n 1, 1) := by decide +kernel
theorem dX0_gatherBinding_8 : decode cX0_gatherBinding 8 = .ok (.aload_n 0, 1) := by decide +kernel
theorem dX0_gatherBinding_9 : decode cX0_gatherBinding 9 = .ok (.getfield 28, 3) := by decide +kernel
theorem dX0_gatherBinding_12 : decode cX0_gatherBinding 12 = .ok (.if_icmp .ge 51, 3) := by decide +kernel
theorem dX0_gatherBinding_15 : decode cX0_gatherBinding 15 = .ok (.iload_n 1, 1) := by decide +kernel
theorem dX0_gatherBinding_16 : decode cX0_gatherBinding 16 = .ok (.bipush 60, 2) := by decide +kernel
theorem dX0_gatherBinding_18 : decode cX0_gatherBinding 18 = .ok (.if_icmp .ge 45, 3) := by decide +kernel
theorem dX0_gatherBinding_21 : decode cX0_gatherBinding 21 = .ok (.aload_n 0, 1) := by decide +kernel
theorem dX0_gatherBinding_22 : decode cX0_gatherBinding 22 = .ok (.iload_n 1, 1) := by decide +kernel
theorem dX0_gatherBinding_23 : decode cX0_gatherBinding 23 = .ok (.invokevirtual 51, 3) := by decide +kernel
theorem dX0_gatherBinding_26 : decode cX0_gatherBinding 26 = .ok (.ifCond .eq 31, 3) := by decide +kernel
theorem dX0_gatherBinding_29 : decode cX0_gatherBinding 29 = .ok (.aload_n 0, 1) := by decide +kernel
theorem dX0_gatherBinding_30 : decode cX0_gatherBinding 30 = .ok (.iload_n 1, 1) := by decide +kernel
theorem dX0_gatherBinding_31 : decode cX0_gatherBinding 31 = .ok (.invokevirtual 54, 3) := by decide +kernel
theorem dX0_gatherBinding_34 : decode cX0_gatherBinding 34 = .ok (.ifCond .ne 23, 3) := by decide +kernel
theorem dX0_gatherBinding_37 : decode cX0_gatherBinding 37 = .ok (.aload_n 0, 1) := by decide +kernel
theorem dX0_gatherBinding_38 : decode cX0_gatherBinding 38 = .ok (.getfield 25, 3) := by decide +kernel
theorem dX0_gatherBinding_41 : decode cX0_gatherBinding 41 = .ok (.aload_n 0, 1) := by decide +kernel
theorem dX0_gatherBinding_42 : decode cX0_gatherBinding 42 = .ok (.getfield 64, 3) := by decide +kernel
theorem dX0_gatherBinding_45 : decode cX0_gatherBinding 45 = .ok (.iload_n 1, 1) := by decide +kernel
theorem dX0_gatherBinding_46 : decode cX0_gatherBinding 46 = .ok (.iastore, 1) := by decide +kernel
theorem dX0_gatherBinding_47 : decode cX0_gatherBinding 47 = .ok (.aload_n 0, 1) := by decide +kernel
theorem dX0_gatherBinding_48 : decode cX0_gatherBinding 48 = .ok (.dup, 1) := by decide +kernel
theorem dX0_gatherBinding_49 : decode cX0_gatherBinding 49 = .ok (.getfield 64, 3) := by decide +kernel
theorem dX0_gatherBinding_52 : decode cX0_gatherBinding 52 = .ok (.iconst 1, 1) := by decide +kernel
theorem dX0_gatherBinding_53 : decode cX0_gatherBinding 53 = .ok (.iadd, 1) := by decide +kernel
theorem dX0_gatherBinding_54 : decode cX0_gatherBinding 54 = .ok (.putfield 64, 3) := by decide +kernel
theorem dX0_gatherBinding_57 : decode cX0_gatherBinding 57 = .ok (.iinc 1 1, 3) := by decide +kernel
theorem dX0_gatherBinding_60 : decode cX0_gatherBinding 60 = .ok (.goto (-53), 3) := by decide +kernel
theorem dX0_gatherBinding_63 : decode cX0_gatherBinding 63 = .ok (.return_, 1) := by decide +kernel
theorem dX0_beginsWith_0 : decode cX0_beginsWith 0 = .ok (.aload_n 0, 1) := by decide +kernel
theorem dX0_beginsWith_1 : decode cX0_beginsWith 1 = .ok (.iload_n 2, 1) := by decide +kernel
theorem dX0_beginsWith_2 : decode cX0_beginsWith 2 = .ok (.invokevirtual 57, 3) := by decide +kernel
theorem dX0_beginsWith_5 : decode cX0_beginsWith 5 = .ok (.istore_n 3, 1) := by decide +kernel
theorem dX0_beginsWith_6 : decode cX0_beginsWith 6 = .ok (.iload_n 3, 1) := by decide +kernel
theorem dX0_beginsWith_7 : decode cX0_beginsWith 7 = .ok (.aload_n 0, 1) := by decide +kernel
theorem dX0_beginsWith_8 : decode cX0_beginsWith 8 = .ok (.iload_n 1, 1) := by decide +kernel
theorem dX0_beginsWith_9 : decode cX0_beginsWith 9 = .ok (.invokevirtual 57, 3) := by decide +kernel
theorem dX0_beginsWith_12 : decode cX0_beginsWith 12 = .ok (.if_icmp .le 5, 3) := by decide +kernel
theorem dX0_beginsWith_15 : decode cX0_beginsWith 15 = .ok (.iconst 0, 1) := by decide +kernel
theorem dX0_beginsWith_16 : decode cX0_beginsWith 16 = .ok (.ireturn, 1) := by decide +kernel
theorem dX0_beginsWith_17 : decode cX0_beginsWith 17 = .ok (.iconst 0, 1) := by decide +kernel
theorem dX0_beginsWith_18 : decode cX0_beginsWith 18 = .ok (.istore 4, 2) := by decide +kernel
theorem dX0_beginsWith_20 : decode cX0_beginsWith 20 = .ok (.iload 4, 2) := by decide +kernel
theorem dX0_beginsWith_22 : decode cX0_beginsWith 22 = .ok (.iload_n 3, 1) := by decide +kernel
theorem dX0_beginsWith_23 : decode cX0_beginsWith 23 = .ok (.if_icmp .ge 28, 3) := by decide +kernel
theorem dX0_beginsWith_26 : decode cX0_beginsWith 26 = .ok (.aload_n 0, 1) := by decide +kernel
theorem dX0_beginsWith_27 : decode cX0_beginsWith 27 = .ok (.iload_n 1, 1) := by decide +kernel
theorem dX0_beginsWith_28 : decode cX0_beginsWith 28 = .ok (.iload 4, 2) := by decide +kernel
theorem dX0_beginsWith_30 : decode cX0_beginsWith 30 = .ok (.invokevirtual 67, 3) := by decide +kernel
theorem dX0_beginsWith_33 : decode cX0_beginsWith 33 = .ok (.aload_n 0, 1) := by decide +kernel
theorem dX0_beginsWith_34 : decode cX0_beginsWith 34 = .ok (.iload_n 2, 1) := by decide +kernel
theorem dX0_beginsWith_35 : decode cX0_beginsWith 35 = .ok (.iload 4, 2) := by decide +kernel
theorem dX0_beginsWith_37 : decode cX0_beginsWith 37 = .ok (.invokevirtual 67, 3) := by decide +kernel
theorem dX0_beginsWith_40 : decode cX0_beginsWith 40 = .ok (.if_icmp .eq 5, 3) := by decide +kernel
theorem dX0_beginsWith_43 : decode cX0_beginsWith 43 = .ok (.iconst 0, 1) := by decide +kernel
theorem dX0_beginsWith_44 : decode cX0_beginsWith 44 = .ok (.ireturn, 1) := by decide +kernel
theorem dX0_beginsWith_45 : decode cX0_beginsWith 45 = .ok (.iinc 4 1, 3) := by decide +kernel
theorem dX0_beginsWith_48 : decode cX0_beginsWith 48 = .ok (.goto (-28), 3) := by decide +kernel
theorem dX0_beginsWith_51 : decode cX0_beginsWith 51 = .ok (.iconst 1, 1) := by decide +kernel
theorem dX0_beginsWith_52 : decode cX0_beginsWith 52 = .ok (.ireturn, 1) := by decide +kernel
theorem dX1_init_0 : decode cX1_init 0 = .ok (.aload_n 0, 1) := by decide +kernel
theorem dX1_init_1 : decode cX1_init 1 = .ok (.invokespecial 3, 3) := by decide +kernel
theorem dX1_init_4 : decode cX1_init 4 = .ok (.aload_n 0, 1) := by decide +kernel
theorem dX1_init_5 : decode cX1_init 5 = .ok (.bipush 24, 2) := by decide +kernel
theorem dX1_init_7 : decode cX1_init 7 = .ok (.newarray .int, 2) := by decide +kernel
theorem dX1_init_9 : decode cX1_init 9 = .ok (.putfield 9, 3) := by decide +kernel
theorem dX1_init_12 : decode cX1_init 12 = .ok (.aload_n 0, 1) := by decide +kernel
theorem dX1_init_13 : decode cX1_init 13 = .ok (.bipush 16, 2) := by decide +kernel
theorem dX1_init_15 : decode cX1_init 15 = .ok (.newarray .int, 2) := by decide +kernel
theorem dX1_init_17 : decode cX1_init 17 = .ok (.putfield 15, 3) := by decide +kernel
theorem dX1_init_20 : decode cX1_init 20 = .ok (.aload_n 0, 1) := by decide +kernel
theorem dX1_init_21 : decode cX1_init 21 = .ok (.aload_n 1, 1) := by decide +kernel
theorem dX1_init_22 : decode cX1_init 22 = .ok (.putfield 18, 3) := by decide +kernel
theorem dX1_init_25 : decode cX1_init 25 = .ok (.aload_n 0, 1) := by decide +kernel
theorem dX1_init_26 : decode cX1_init 26 = .ok (.aload_n 2, 1) := by decide +kernel
theorem dX1_init_27 : decode cX1_init 27 = .ok (.putfield 22, 3) := by decide +kernel
theorem dX1_init_30 : decode cX1_init 30 = .ok (.return_, 1) := by decide +kernel
theorem dX1_states_0 : decode cX1_states 0 = .ok (.aload_n 0, 1) := by decide +kernel
theorem dX1_states_1 : decode cX1_states 1 = .ok (.getfield 18, 3) := by decide +kernel
theorem dX1_states_4 : decode cX1_states 4 = .ok (.invokevirtual 26, 3) := by decide +kernel
theorem dX1_states_7 : decode cX1_states 7 = .ok (.iconst 1, 1) := by decide +kernel
theorem dX1_states_8 : decode cX1_states 8 = .ok (.istore_n 1, 1) := by decide +kernel
theorem dX1_states_9 : decode cX1_states 9 = .ok (.iload_n 1, 1) := by decide +kernel
theorem dX1_states_10 : decode cX1_states 10 = .ok (.iconst 3, 1) := by decide +kernel
theorem dX1_states_11 : decode cX1_states 11 = .ok (.if_icmp .gt 40, 3) := by decide +kernel
theorem dX1_states_14 : decode cX1_states 14 = .ok (.aload_n 0, 1) := by decide +kernel
theorem dX1_states_15 : decode cX1_states 15 = .ok (.iload_n 1, 1) := by decide +kernel
theorem dX1_states_16 : decode cX1_states 16 = .ok (.putfield 31, 3) := by decide +kernel
theorem dX1_states_19 : decode cX1_states 19 = .ok (.aload_n 0, 1) := by decide +kernel
theorem dX1_states_20 : decode cX1_states 20 = .ok (.getfield 9, 3) := by decide +kernel
theorem dX1_states_23 : decode cX1_states 23 = .ok (.iconst (-1), 1) := by decide +kernel
theorem dX1_states_24 : decode cX1_states 24 = .ok (.invokestatic 35, 3) := by decide +kernel
theorem dX1_states_27 : decode cX1_states 27 = .ok (.aload_n 0, 1) := by decide +kernel
theorem dX1_states_28 : decode cX1_states 28 = .ok (.getfield 15, 3) := by decide +kernel
theorem dX1_states_31 : decode cX1_states 31 = .ok (.iconst 0, 1) := by decide +kernel
theorem dX1_states_32 : decode cX1_states 32 = .ok (.iconst 0, 1) := by decide +kernel
theorem dX1_states_33 : decode cX1_states 33 = .ok (.iastore, 1) := by decide +kernel
theorem dX1_states_34 : decode cX1_states 34 = .ok (.aload_n 0, 1) := by decide +kernel
theorem dX1_states_35 : decode cX1_states 35 = .ok (.iconst 1, 1) := by decide +kernel
theorem dX1_states_36 : decode cX1_states 36 = .ok (.iconst 1, 1) := by decide +kernel
theorem dX1_states_37 : decode cX1_states 37 = .ok (.invokevirtual 41, 3) := by decide +kernel
theorem dX1_states_40 : decode cX1_states 40 = .ok (.ifCond .eq 5, 3) := by decide +kernel
theorem dX1_states_43 : decode cX1_states 43 = .ok (.iload_n 1, 1) := by decide +kernel
theorem dX1_states_44 : decode cX1_states 44 = .ok (.ireturn, 1) := by decide +kernel
theorem dX1_states_45 : decode cX1_states 45 = .ok (.iinc 1 1, 3) := by decide +kernel
theorem dX1_states_48 : decode cX1_states 48 = .ok (.goto (-39), 3) := by decide +kernel
theorem dX1_states_51 : decode cX1_states 51 = .ok (.iconst 4, 1) := by decide +kernel
theorem dX1_states_52 : decode cX1_states 52 = .ok (.ireturn, 1) := by decide +kernel
theorem dX1_placeFrom_0 : decode cX1_placeFrom 0 = .ok (.iload_n 1, 1) := by decide +kernel
theorem dX1_placeFrom_1 : decode cX1_placeFrom 1 = .ok (.aload_n 0, 1) := by decide +kernel
theorem dX1_placeFrom_2 : decode cX1_placeFrom 2 = .ok (.getfield 22, 3) := by decide +kernel
theorem dX1_placeFrom_5 : decode cX1_placeFrom 5 = .ok (.getfield 45, 3) := by decide +kernel
theorem dX1_placeFrom_8 : decode cX1_placeFrom 8 = .ok (.if_icmp .ge 9, 3) := by decide +kernel
theorem dX1_placeFrom_11 : decode cX1_placeFrom 11 = .ok (.iload_n 1, 1) := by decide +kernel
theorem dX1_placeFrom_12 : decode cX1_placeFrom 12 = .ok (.bipush 16, 2) := by decide +kernel
theorem dX1_placeFrom_14 : decode cX1_placeFrom 14 = .ok (.if_icmp .lt 5, 3) := by decide +kernel
theorem dX1_placeFrom_17 : decode cX1_placeFrom 17 = .ok (.iconst 1, 1) := by decide +kernel
theorem dX1_placeFrom_18 : decode cX1_placeFrom 18 = .ok (.ireturn, 1) := by decide +kernel
theorem dX1_placeFrom_19 : decode cX1_placeFrom 19 = .ok (.aload_n 0, 1) := by decide +kernel
theorem dX1_placeFrom_20 : decode cX1_placeFrom 20 = .ok (.iload_n 1, 1) := by decide +kernel
theorem dX1_placeFrom_21 : decode cX1_placeFrom 21 = .ok (.invokevirtual 50, 3) := by decide +kernel
theorem dX1_placeFrom_24 : decode cX1_placeFrom 24 = .ok (.istore_n 3, 1) := by decide +kernel
theorem dX1_placeFrom_25 : decode cX1_placeFrom 25 = .ok (.iload_n 3, 1) := by decide +kernel
theorem dX1_placeFrom_26 : decode cX1_placeFrom 26 = .ok (.iconst (-1), 1) := by decide +kernel
theorem dX1_placeFrom_27 : decode cX1_placeFrom 27 = .ok (.if_icmp .ne 5, 3) := by decide +kernel
theorem dX1_placeFrom_30 : decode cX1_placeFrom 30 = .ok (.iconst 0, 1) := by decide +kernel
theorem dX1_placeFrom_31 : decode cX1_placeFrom 31 = .ok (.ireturn, 1) := by decide +kernel
theorem dX1_placeFrom_32 : decode cX1_placeFrom 32 = .ok (.aload_n 0, 1) := by decide +kernel
theorem dX1_placeFrom_33 : decode cX1_placeFrom 33 = .ok (.getfield 9, 3) := by decide +kernel
theorem dX1_placeFrom_36 : decode cX1_placeFrom 36 = .ok (.iload_n 3, 1) := by decide +kernel
theorem dX1_placeFrom_37 : decode cX1_placeFrom 37 = .ok (.iaload, 1) := by decide +kernel
theorem dX1_placeFrom_38 : decode cX1_placeFrom 38 = .ok (.iconst (-1), 1) := by decide +kernel
theorem dX1_placeFrom_39 : decode cX1_placeFrom 39 = .ok (.if_icmp .ne 11, 3) := by decide +kernel
theorem dX1_placeFrom_42 : decode cX1_placeFrom 42 = .ok (.aload_n 0, 1) := by decide +kernel
theorem dX1_placeFrom_43 : decode cX1_placeFrom 43 = .ok (.iload_n 1, 1) := by decide +kernel
theorem dX1_placeFrom_44 : decode cX1_placeFrom 44 = .ok (.iload_n 2, 1) := by decide +kernel
theorem dX1_placeFrom_45 : decode cX1_placeFrom 45 = .ok (.iload_n 3, 1) := by decide +kernel
theorem dX1_placeFrom_46 : decode cX1_placeFrom 46 = .ok (.invokevirtual 54, 3) := by decide +kernel
theorem dX1_placeFrom_49 : decode cX1_placeFrom 49 = .ok (.ireturn, 1) := by decide +kernel
theorem dX1_placeFrom_50 : decode cX1_placeFrom 50 = .ok (.aload_n 0, 1) := by decide +kernel
theorem dX1_placeFrom_51 : decode cX1_placeFrom 51 = .ok (.getfield 15, 3) := by decide +kernel
theorem dX1_placeFrom_54 : decode cX1_placeFrom 54 = .ok (.iload_n 1, 1) := by decide +kernel
theorem dX1_placeFrom_55 : decode cX1_placeFrom 55 = .ok (.aload_n 0, 1) := by decide +kernel
theorem dX1_placeFrom_56 : decode cX1_placeFrom 56 = .ok (.getfield 9, 3) := by decide +kernel
theorem dX1_placeFrom_59 : decode cX1_placeFrom 59 = .ok (.iload_n 3, 1) := by decide +kernel
theorem dX1_placeFrom_60 : decode cX1_placeFrom 60 = .ok (.iaload, 1) := by decide +kernel
theorem dX1_placeFrom_61 : decode cX1_placeFrom 61 = .ok (.iastore, 1) := by decide +kernel
theorem dX1_placeFrom_62 : decode cX1_placeFrom 62 = .ok (.aload_n 0, 1) := by decide +kernel
theorem dX1_placeFrom_63 : decode cX1_placeFrom 63 = .ok (.iload_n 1, 1) := by decide +kernel
theorem dX1_placeFrom_64 : decode cX1_placeFrom 64 = .ok (.iconst 1, 1) := by decide +kernel
theorem dX1_placeFrom_65 : decode cX1_placeFrom 65 = .ok (.iadd, 1) := by decide +kernel
theorem dX1_placeFrom_66 : decode cX1_placeFrom 66 = .ok (.iload_n 2, 1) := by decide +kernel
theorem dX1_placeFrom_67 : decode cX1_placeFrom 67 = .ok (.invokevirtual 41, 3) := by decide +kernel
theorem dX1_placeFrom_70 : decode cX1_placeFrom 70 = .ok (.ireturn, 1) := by decide +kernel
theorem dX1_placeFree_0 : decode cX1_placeFree 0 = .ok (.iload_n 1, 1) := by decide +kernel
theorem dX1_placeFree_1 : decode cX1_placeFree 1 = .ok (.ifCond .lt 19, 3) := by decide +kernel
theorem dX1_placeFree_4 : decode cX1_placeFree 4 = .ok (.iload_n 1, 1) := by decide +kernel
theorem dX1_placeFree_5 : decode cX1_placeFree 5 = .ok (.bipush 16, 2) := by decide +kernel
theorem dX1_placeFree_7 : decode cX1_placeFree 7 = .ok (.if_icmp .ge 13, 3) := by decide +kernel
theorem dX1_placeFree_10 : decode cX1_placeFree 10 = .ok (.iload_n 3, 1) := by decide +kernel
theorem dX1_placeFree_11 : decode cX1_placeFree 11 = .ok (.ifCond .lt 9, 3) := by decide +kernel
theorem dX1_placeFree_14 : decode cX1_placeFree 14 = .ok (.iload_n 3, 1) := by decide +kernel
theorem dX1_placeFree_15 : decode cX1_placeFree 15 = .ok (.bipush 24, 2) := by decide +kernel
theorem dX1_placeFree_17 : decode cX1_placeFree 17 = .ok (.if_icmp .lt 5, 3) := by decide +kernel
theorem dX1_placeFree_20 : decode cX1_placeFree 20 = .ok (.iconst 0, 1) := by decide +kernel
theorem dX1_placeFree_21 : decode cX1_placeFree 21 = .ok (.ireturn, 1) := by decide +kernel
theorem dX1_placeFree_22 : decode cX1_placeFree 22 = .ok (.iconst 0, 1) := by decide +kernel
theorem dX1_placeFree_23 : decode cX1_placeFree 23 = .ok (.istore 4, 2) := by decide +kernel
theorem dX1_placeFree_25 : decode cX1_placeFree 25 = .ok (.iload 4, 2) := by decide +kernel
theorem dX1_placeFree_27 : decode cX1_placeFree 27 = .ok (.iload_n 2, 1) := by decide +kernel
theorem dX1_placeFree_28 : decode cX1_placeFree 28 = .ok (.if_icmp .gt 66, 3) := by decide +kernel
theorem dX1_placeFree_31 : decode cX1_placeFree 31 = .ok (.iload 4, 2) := by decide +kernel
theorem dX1_placeFree_33 : decode cX1_placeFree 33 = .ok (.aload_n 0, 1) := by decide +kernel
theorem dX1_placeFree_34 : decode cX1_placeFree 34 = .ok (.getfield 31, 3) := by decide +kernel
theorem dX1_placeFree_37 : decode cX1_placeFree 37 = .ok (.if_icmp .ge 57, 3) := by decide +kernel
theorem dX1_placeFree_40 : decode cX1_placeFree 40 = .ok (.aload_n 0, 1) := by decide +kernel
theorem dX1_placeFree_41 : decode cX1_placeFree 41 = .ok (.getfield 9, 3) := by decide +kernel
theorem dX1_placeFree_44 : decode cX1_placeFree 44 = .ok (.iload_n 3, 1) := by decide +kernel
theorem dX1_placeFree_45 : decode cX1_placeFree 45 = .ok (.iload 4, 2) := by decide +kernel
theorem dX1_placeFree_47 : decode cX1_placeFree 47 = .ok (.iastore, 1) := by decide +kernel
theorem dX1_placeFree_48 : decode cX1_placeFree 48 = .ok (.aload_n 0, 1) := by decide +kernel
theorem dX1_placeFree_49 : decode cX1_placeFree 49 = .ok (.getfield 15, 3) := by decide +kernel
theorem dX1_placeFree_52 : decode cX1_placeFree 52 = .ok (.iload_n 1, 1) := by decide +kernel
theorem dX1_placeFree_53 : decode cX1_placeFree 53 = .ok (.iload 4, 2) := by decide +kernel
theorem dX1_placeFree_55 : decode cX1_placeFree 55 = .ok (.iastore, 1) := by decide +kernel
theorem dX1_placeFree_56 : decode cX1_placeFree 56 = .ok (.aload_n 0, 1) := by decide +kernel
theorem dX1_placeFree_57 : decode cX1_placeFree 57 = .ok (.iload_n 1, 1) := by decide +kernel
theorem dX1_placeFree_58 : decode cX1_placeFree 58 = .ok (.aload_n 0, 1) := by decide +kernel
theorem dX1_placeFree_59 : decode cX1_placeFree 59 = .ok (.invokevirtual 58, 3) := by decide +kernel
theorem dX1_placeFree_62 : decode cX1_placeFree 62 = .ok (.invokevirtual 62, 3) := by decide +kernel
theorem dX1_placeFree_65 : decode cX1_placeFree 65 = .ok (.ifCond .ne 23, 3) := by decide +kernel
theorem dX1_placeFree_68 : decode cX1_placeFree 68 = .ok (.aload_n 0, 1) := by decide +kernel
theorem dX1_placeFree_69 : decode cX1_placeFree 69 = .ok (.iload_n 1, 1) := by decide +kernel
theorem dX1_placeFree_70 : decode cX1_placeFree 70 = .ok (.iconst 1, 1) := by decide +kernel
theorem dX1_placeFree_71 : decode cX1_placeFree 71 = .ok (.iadd, 1) := by decide +kernel
theorem dX1_placeFree_72 : decode cX1_placeFree 72 = .ok (.iload_n 2, 1) := by decide +kernel
theorem dX1_placeFree_73 : decode cX1_placeFree 73 = .ok (.iload 4, 2) := by decide +kernel
theorem dX1_placeFree_75 : decode cX1_placeFree 75 = .ok (.iconst 1, 1) := by decide +kernel
theorem dX1_placeFree_76 : decode cX1_placeFree 76 = .ok (.iadd, 1) := by decide +kernel
theorem dX1_placeFree_77 : decode cX1_placeFree 77 = .ok (.invokestatic 65, 3) := by decide +kernel
theorem dX1_placeFree_80 : decode cX1_placeFree 80 = .ok (.invokevirtual 41, 3) := by decide +kernel
theorem dX1_placeFree_83 : decode cX1_placeFree 83 = .ok (.ifCond .eq 5, 3) := by decide +kernel
theorem dX1_placeFree_86 : decode cX1_placeFree 86 = .ok (.iconst 1, 1) := by decide +kernel
theorem dX1_placeFree_87 : decode cX1_placeFree 87 = .ok (.ireturn, 1) := by decide +kernel
theorem dX1_placeFree_88 : decode cX1_placeFree 88 = .ok (.iinc 4 1, 3) := by decide +kernel
theorem dX1_placeFree_91 : decode cX1_placeFree 91 = .ok (.goto (-66), 3) := by decide +kernel
theorem dX1_placeFree_94 : decode cX1_placeFree 94 = .ok (.aload_n 0, 1) := by decide +kernel
theorem dX1_placeFree_95 : decode cX1_placeFree 95 = .ok (.getfield 9, 3) := by decide +kernel
theorem dX1_placeFree_98 : decode cX1_placeFree 98 = .ok (.iload_n 3, 1) := by decide +kernel
theorem dX1_placeFree_99 : decode cX1_placeFree 99 = .ok (.iconst (-1), 1) := by decide +kernel
theorem dX1_placeFree_100 : decode cX1_placeFree 100 = .ok (.iastore, 1) := by decide +kernel
theorem dX1_placeFree_101 : decode cX1_placeFree 101 = .ok (.iconst 0, 1) := by decide +kernel
theorem dX1_placeFree_102 : decode cX1_placeFree 102 = .ok (.ireturn, 1) := by decide +kernel
theorem dX1_slotInto_0 : decode cX1_slotInto 0 = .ok (.iload_n 1, 1) := by decide +kernel
theorem dX1_slotInto_1 : decode cX1_slotInto 1 = .ok (.ifCond .lt 9, 3) := by decide +kernel
theorem dX1_slotInto_4 : decode cX1_slotInto 4 = .ok (.iload_n 1, 1) := by decide +kernel
theorem dX1_slotInto_5 : decode cX1_slotInto 5 = .ok (.bipush 16, 2) := by decide +kernel
theorem dX1_slotInto_7 : decode cX1_slotInto 7 = .ok (.if_icmp .lt 5, 3) := by decide +kernel
theorem dX1_slotInto_10 : decode cX1_slotInto 10 = .ok (.iconst (-1), 1) := by decide +kernel
theorem dX1_slotInto_11 : decode cX1_slotInto 11 = .ok (.ireturn, 1) := by decide +kernel
theorem dX1_slotInto_12 : decode cX1_slotInto 12 = .ok (.aload_n 0, 1) := by decide +kernel
theorem dX1_slotInto_13 : decode cX1_slotInto 13 = .ok (.aload_n 0, 1) := by decide +kernel
theorem dX1_slotInto_14 : decode cX1_slotInto 14 = .ok (.getfield 22, 3) := by decide +kernel
theorem dX1_slotInto_17 : decode cX1_slotInto 17 = .ok (.getfield 71, 3) := by decide +kernel
theorem dX1_slotInto_20 : decode cX1_slotInto 20 = .ok (.iload_n 1, 1) := by decide +kernel
theorem dX1_slotInto_21 : decode cX1_slotInto 21 = .ok (.iaload, 1) := by decide +kernel
theorem dX1_slotInto_22 : decode cX1_slotInto 22 = .ok (.invokevirtual 74, 3) := by decide +kernel
theorem dX1_slotInto_25 : decode cX1_slotInto 25 = .ok (.aload_n 0, 1) := by decide +kernel
theorem dX1_slotInto_26 : decode cX1_slotInto 26 = .ok (.getfield 22, 3) := by decide +kernel
theorem dX1_slotInto_29 : decode cX1_slotInto 29 = .ok (.getfield 77, 3) := by decide +kernel
theorem dX1_slotInto_32 : decode cX1_slotInto 32 = .ok (.iload_n 1, 1) := by decide +kernel
theorem dX1_slotInto_33 : decode cX1_slotInto 33 = .ok (.iaload, 1) := by decide +kernel
theorem dX1_slotInto_34 : decode cX1_slotInto 34 = .ok (.invokestatic 80, 3) := by decide +kernel
theorem dX1_slotInto_37 : decode cX1_slotInto 37 = .ok (.ireturn, 1) := by decide +kernel
theorem dX1_stateAt_0 : decode cX1_stateAt 0 = .ok (.iload_n 1, 1) := by decide +kernel
theorem dX1_stateAt_1 : decode cX1_stateAt 1 = .ok (.ifCond .lt 18, 3) := by decide +kernel
theorem dX1_stateAt_4 : decode cX1_stateAt 4 = .ok (.iload_n 1, 1) := by decide +kernel
theorem dX1_stateAt_5 : decode cX1_stateAt 5 = .ok (.bipush 16, 2) := by decide +kernel
theorem dX1_stateAt_7 : decode cX1_stateAt 7 = .ok (.if_icmp .ge 12, 3) := by decide +kernel
theorem dX1_stateAt_10 : decode cX1_stateAt 10 = .ok (.aload_n 0, 1) := by decide +kernel
theorem dX1_stateAt_11 : decode cX1_stateAt 11 = .ok (.getfield 15, 3) := by decide +kernel
theorem dX1_stateAt_14 : decode cX1_stateAt 14 = .ok (.iload_n 1, 1) := by decide +kernel
theorem dX1_stateAt_15 : decode cX1_stateAt 15 = .ok (.iaload, 1) := by decide +kernel
theorem dX1_stateAt_16 : decode cX1_stateAt 16 = .ok (.goto 4, 3) := by decide +kernel
theorem dX1_stateAt_19 : decode cX1_stateAt 19 = .ok (.iconst (-1), 1) := by decide +kernel
theorem dX1_stateAt_20 : decode cX1_stateAt 20 = .ok (.ireturn, 1) := by decide +kernel
theorem dX1_slotOf_0 : decode cX1_slotOf 0 = .ok (.iload_n 0, 1) := by decide +kernel
theorem dX1_slotOf_1 : decode cX1_slotOf 1 = .ok (.ifCond .lt 24, 3) := by decide +kernel
theorem dX1_slotOf_4 : decode cX1_slotOf 4 = .ok (.iload_n 0, 1) := by decide +kernel
theorem dX1_slotOf_5 : decode cX1_slotOf 5 = .ok (.iconst 3, 1) := by decide +kernel
theorem dX1_slotOf_6 : decode cX1_slotOf 6 = .ok (.if_icmp .ge 19, 3) := by decide +kernel
theorem dX1_slotOf_9 : decode cX1_slotOf 9 = .ok (.iload_n 1, 1) := by decide +kernel
theorem dX1_slotOf_10 : decode cX1_slotOf 10 = .ok (.invokestatic 83, 3) := by decide +kernel
theorem dX1_slotOf_13 : decode cX1_slotOf 13 = .ok (.ifCond .eq 12, 3) := by decide +kernel
theorem dX1_slotOf_16 : decode cX1_slotOf 16 = .ok (.iload_n 0, 1) := by decide +kernel
theorem dX1_slotOf_17 : decode cX1_slotOf 17 = .ok (.bipush 8, 2) := by decide +kernel
theorem dX1_slotOf_19 : decode cX1_slotOf 19 = .ok (.imul, 1) := by decide +kernel
theorem dX1_slotOf_20 : decode cX1_slotOf 20 = .ok (.iload_n 1, 1) := by decide +kernel
theorem dX1_slotOf_21 : decode cX1_slotOf 21 = .ok (.iadd, 1) := by decide +kernel
theorem dX1_slotOf_22 : decode cX1_slotOf 22 = .ok (.goto 4, 3) := by decide +kernel
theorem dX1_slotOf_25 : decode cX1_slotOf 25 = .ok (.iconst (-1), 1) := by decide +kernel
theorem dX1_slotOf_26 : decode cX1_slotOf 26 = .ok (.ireturn, 1) := by decide +kernel
theorem dX1_isLost_0 : decode cX1_isLost 0 = .ok (.iload_n 2, 1) := by decide +kernel
theorem dX1_isLost_1 : decode cX1_isLost 1 = .ok (.iconst (-1), 1) := by decide +kernel
theorem dX1_isLost_2 : decode cX1_isLost 2 = .ok (.if_icmp .ne 5, 3) := by decide +kernel
theorem dX1_isLost_5 : decode cX1_isLost 5 = .ok (.iconst 1, 1) := by decide +kernel
theorem dX1_isLost_6 : decode cX1_isLost 6 = .ok (.ireturn, 1) := by decide +kernel
theorem dX1_isLost_7 : decode cX1_isLost 7 = .ok (.iload_n 1, 1) := by decide +kernel
theorem dX1_isLost_8 : decode cX1_isLost 8 = .ok (.iconst 1, 1) := by decide +kernel
theorem dX1_isLost_9 : decode cX1_isLost 9 = .ok (.iadd, 1) := by decide +kernel
theorem dX1_isLost_10 : decode cX1_isLost 10 = .ok (.istore_n 3, 1) := by decide +kernel
theorem dX1_isLost_11 : decode cX1_isLost 11 = .ok (.iload_n 3, 1) := by decide +kernel
theorem dX1_isLost_12 : decode cX1_isLost 12 = .ok (.aload_n 0, 1) := by decide +kernel
theorem dX1_isLost_13 : decode cX1_isLost 13 = .ok (.getfield 22, 3) := by decide +kernel
theorem dX1_isLost_16 : decode cX1_isLost 16 = .ok (.getfield 45, 3) := by decide +kernel
theorem dX1_isLost_19 : decode cX1_isLost 19 = .ok (.if_icmp .ge 57, 3) := by decide +kernel
theorem dX1_isLost_22 : decode cX1_isLost 22 = .ok (.iload_n 3, 1) := by decide +kernel
theorem dX1_isLost_23 : decode cX1_isLost 23 = .ok (.bipush 16, 2) := by decide +kernel
theorem dX1_isLost_25 : decode cX1_isLost 25 = .ok (.if_icmp .ge 51, 3) := by decide +kernel
theorem dX1_isLost_28 : decode cX1_isLost 28 = .ok (.aload_n 0, 1) := by decide +kernel
theorem dX1_isLost_29 : decode cX1_isLost 29 = .ok (.getfield 22, 3) := by decide +kernel
theorem dX1_isLost_32 : decode cX1_isLost 32 = .ok (.getfield 71, 3) := by decide +kernel
theorem dX1_isLost_35 : decode cX1_isLost 35 = .ok (.iload_n 3, 1) := by decide +kernel
theorem dX1_isLost_36 : decode cX1_isLost 36 = .ok (.iaload, 1) := by decide +kernel
theorem dX1_isLost_37 : decode cX1_isLost 37 = .ok (.iload_n 1, 1) := by decide +kernel
theorem dX1_isLost_38 : decode cX1_isLost 38 = .ok (.if_icmp .gt 11, 3) := by decide +kernel
theorem dX1_isLost_41 : decode cX1_isLost 41 = .ok (.aload_n 0, 1) := by decide +kernel
theorem dX1_isLost_42 : decode cX1_isLost 42 = .ok (.iload_n 3, 1) := by decide +kernel
theorem dX1_isLost_43 : decode cX1_isLost 43 = .ok (.invokevirtual 50, 3) := by decide +kernel
theorem dX1_isLost_46 : decode cX1_isLost 46 = .ok (.goto 4, 3) := by decide +kernel
theorem dX1_isLost_49 : decode cX1_isLost 49 = .ok (.iconst (-1), 1) := by decide +kernel
theorem dX1_isLost_50 : decode cX1_isLost 50 = .ok (.istore 4, 2) := by decide +kernel
theorem dX1_isLost_52 : decode cX1_isLost 52 = .ok (.iload 4, 2) := by decide +kernel
theorem dX1_isLost_54 : decode cX1_isLost 54 = .ok (.iconst (-1), 1) := by decide +kernel
theorem dX1_isLost_55 : decode cX1_isLost 55 = .ok (.if_icmp .eq 15, 3) := by decide +kernel
theorem dX1_isLost_58 : decode cX1_isLost 58 = .ok (.iload_n 2, 1) := by decide +kernel
theorem dX1_isLost_59 : decode cX1_isLost 59 = .ok (.iload 4, 2) := by decide +kernel
theorem dX1_isLost_61 : decode cX1_isLost 61 = .ok (.iushr, 1) := by decide +kernel
theorem dX1_isLost_62 : decode cX1_isLost 62 = .ok (.iconst 1, 1) := by decide +kernel
theorem dX1_isLost_63 : decode cX1_isLost 63 = .ok (.iand, 1) := by decide +kernel
theorem dX1_isLost_64 : decode cX1_isLost 64 = .ok (.iconst 1, 1) := by decide +kernel
theorem dX1_isLost_65 : decode cX1_isLost 65 = .ok (.if_icmp .ne 5, 3) := by decide +kernel
theorem dX1_isLost_68 : decode cX1_isLost 68 = .ok (.iconst 1, 1) := by decide +kernel
theorem dX1_isLost_69 : decode cX1_isLost 69 = .ok (.ireturn, 1) := by decide +kernel
theorem dX1_isLost_70 : decode cX1_isLost 70 = .ok (.iinc 3 1, 3) := by decide +kernel
theorem dX1_isLost_73 : decode cX1_isLost 73 = .ok (.goto (-62), 3) := by decide +kernel
theorem dX1_isLost_76 : decode cX1_isLost 76 = .ok (.iconst 0, 1) := by decide +kernel
theorem dX1_isLost_77 : decode cX1_isLost 77 = .ok (.ireturn, 1) := by decide +kernel
theorem dX1_barredSlots_0 : decode cX1_barredSlots 0 = .ok (.iconst 0, 1) := by decide +kernel
theorem dX1_barredSlots_1 : decode cX1_barredSlots 1 = .ok (.istore_n 1, 1) := by decide +kernel
theorem dX1_barredSlots_2 : decode cX1_barredSlots 2 = .ok (.iconst 0, 1) := by decide +kernel
theorem dX1_barredSlots_3 : decode cX1_barredSlots 3 = .ok (.istore_n 2, 1) := by decide +kernel
theorem dX1_barredSlots_4 : decode cX1_barredSlots 4 = .ok (.iload_n 2, 1) := by decide +kernel
theorem dX1_barredSlots_5 : decode cX1_barredSlots 5 = .ok (.aload_n 0, 1) := by decide +kernel
theorem dX1_barredSlots_6 : decode cX1_barredSlots 6 = .ok (.getfield 18, 3) := by decide +kernel
theorem dX1_barredSlots_9 : decode cX1_barredSlots 9 = .ok (.getfield 87, 3) := by decide +kernel
theorem dX1_barredSlots_12 : decode cX1_barredSlots 12 = .ok (.if_icmp .ge 52, 3) := by decide +kernel
theorem dX1_barredSlots_15 : decode cX1_barredSlots 15 = .ok (.iload_n 2, 1) := by decide +kernel
theorem dX1_barredSlots_16 : decode cX1_barredSlots 16 = .ok (.bipush 60, 2) := by decide +kernel
theorem dX1_barredSlots_18 : decode cX1_barredSlots 18 = .ok (.if_icmp .ge 46, 3) := by decide +kernel
theorem dX1_barredSlots_21 : decode cX1_barredSlots 21 = .ok (.aload_n 0, 1) := by decide +kernel
theorem dX1_barredSlots_22 : decode cX1_barredSlots 22 = .ok (.aload_n 0, 1) := by decide +kernel
theorem dX1_barredSlots_23 : decode cX1_barredSlots 23 = .ok (.getfield 18, 3) := by decide +kernel
theorem dX1_barredSlots_26 : decode cX1_barredSlots 26 = .ok (.getfield 90, 3) := by decide +kernel
theorem dX1_barredSlots_29 : decode cX1_barredSlots 29 = .ok (.iload_n 2, 1) := by decide +kernel
theorem dX1_barredSlots_30 : decode cX1_barredSlots 30 = .ok (.iaload, 1) := by decide +kernel
theorem dX1_barredSlots_31 : decode cX1_barredSlots 31 = .ok (.invokevirtual 93, 3) := by decide +kernel
theorem dX1_barredSlots_34 : decode cX1_barredSlots 34 = .ok (.istore_n 3, 1) := by decide +kernel
theorem dX1_barredSlots_35 : decode cX1_barredSlots 35 = .ok (.iload_n 3, 1) := by decide +kernel
theorem dX1_barredSlots_36 : decode cX1_barredSlots 36 = .ok (.iconst (-1), 1) := by decide +kernel
theorem dX1_barredSlots_37 : decode cX1_barredSlots 37 = .ok (.if_icmp .ne 5, 3) := by decide +kernel
theorem dX1_barredSlots_40 : decode cX1_barredSlots 40 = .ok (.iconst (-1), 1) := by decide +kernel
theorem dX1_barredSlots_41 : decode cX1_barredSlots 41 = .ok (.ireturn, 1) := by decide +kernel
theorem dX1_barredSlots_42 : decode cX1_barredSlots 42 = .ok (.iload_n 1, 1) := by decide +kernel
theorem dX1_barredSlots_43 : decode cX1_barredSlots 43 = .ok (.iload_n 3, 1) := by decide +kernel
theorem dX1_barredSlots_44 : decode cX1_barredSlots 44 = .ok (.bipush (-2), 2) := by decide +kernel
theorem dX1_barredSlots_46 : decode cX1_barredSlots 46 = .ok (.if_icmp .ne 7, 3) := by decide +kernel
theorem dX1_barredSlots_49 : decode cX1_barredSlots 49 = .ok (.iconst 0, 1) := by decide +kernel
theorem dX1_barredSlots_50 : decode cX1_barredSlots 50 = .ok (.goto 6, 3) := by decide +kernel
theorem dX1_barredSlots_53 : decode cX1_barredSlots 53 = .ok (.iconst 1, 1) := by decide +kernel
theorem dX1_barredSlots_54 : decode cX1_barredSlots 54 = .ok (.iload_n 3, 1) := by decide +kernel
theorem dX1_barredSlots_55 : decode cX1_barredSlots 55 = .ok (.ishl, 1) := by decide +kernel
theorem dX1_barredSlots_56 : decode cX1_barredSlots 56 = .ok (.ior, 1) := by decide +kernel
theorem dX1_barredSlots_57 : decode cX1_barredSlots 57 = .ok (.istore_n 1, 1) := by decide +kernel
theorem dX1_barredSlots_58 : decode cX1_barredSlots 58 = .ok (.iinc 2 1, 3) := by decide +kernel
theorem dX1_barredSlots_61 : decode cX1_barredSlots 61 = .ok (.goto (-57), 3) := by decide +kernel
theorem dX1_barredSlots_64 : decode cX1_barredSlots 64 = .ok (.iload_n 1, 1) := by decide +kernel
theorem dX1_barredSlots_65 : decode cX1_barredSlots 65 = .ok (.ireturn, 1) := by decide +kernel
theorem dX1_slotLackedBy_0 : decode cX1_slotLackedBy 0 = .ok (.iconst 0, 1) := by decide +kernel
theorem dX1_slotLackedBy_1 : decode cX1_slotLackedBy 1 = .ok (.istore_n 2, 1) := by decide +kernel
theorem dX1_slotLackedBy_2 : decode cX1_slotLackedBy 2 = .ok (.aload_n 0, 1) := by decide +kernel
theorem dX1_slotLackedBy_3 : decode cX1_slotLackedBy 3 = .ok (.getfield 18, 3) := by decide +kernel
theorem dX1_slotLackedBy_6 : decode cX1_slotLackedBy 6 = .ok (.iload_n 1, 1) := by decide +kernel
theorem dX1_slotLackedBy_7 : decode cX1_slotLackedBy 7 = .ok (.invokevirtual 96, 3) := by decide +kernel
theorem dX1_slotLackedBy_10 : decode cX1_slotLackedBy 10 = .ok (.istore_n 3, 1) := by decide +kernel
theorem dX1_slotLackedBy_11 : decode cX1_slotLackedBy 11 = .ok (.iconst 0, 1) := by decide +kernel
theorem dX1_slotLackedBy_12 : decode cX1_slotLackedBy 12 = .ok (.istore 4, 2) := by decide +kernel
theorem dX1_slotLackedBy_14 : decode cX1_slotLackedBy 14 = .ok (.iload 4, 2) := by decide +kernel
theorem dX1_slotLackedBy_16 : decode cX1_slotLackedBy 16 = .ok (.iload_n 3, 1) := by decide +kernel
theorem dX1_slotLackedBy_17 : decode cX1_slotLackedBy 17 = .ok (.if_icmp .ge 69, 3) := by decide +kernel
theorem dX1_slotLackedBy_20 : decode cX1_slotLackedBy 20 = .ok (.iload_n 2, 1) := by decide +kernel
theorem dX1_slotLackedBy_21 : decode cX1_slotLackedBy 21 = .ok (.aload_n 0, 1) := by decide +kernel
theorem dX1_slotLackedBy_22 : decode cX1_slotLackedBy 22 = .ok (.getfield 18, 3) := by decide +kernel
theorem dX1_slotLackedBy_25 : decode cX1_slotLackedBy 25 = .ok (.iload_n 1, 1) := by decide +kernel
theorem dX1_slotLackedBy_26 : decode cX1_slotLackedBy 26 = .ok (.iload 4, 2) := by decide +kernel
theorem dX1_slotLackedBy_28 : decode cX1_slotLackedBy 28 = .ok (.invokevirtual 99, 3) := by decide +kernel
theorem dX1_slotLackedBy_31 : decode cX1_slotLackedBy 31 = .ok (.invokestatic 80, 3) := by decide +kernel
theorem dX1_slotLackedBy_34 : decode cX1_slotLackedBy 34 = .ok (.istore 5, 2) := by decide +kernel
theorem dX1_slotLackedBy_36 : decode cX1_slotLackedBy 36 = .ok (.iload 5, 2) := by decide +kernel
theorem dX1_slotLackedBy_38 : decode cX1_slotLackedBy 38 = .ok (.iconst (-1), 1) := by decide +kernel
theorem dX1_slotLackedBy_39 : decode cX1_slotLackedBy 39 = .ok (.if_icmp .ne 6, 3) := by decide +kernel
theorem dX1_slotLackedBy_42 : decode cX1_slotLackedBy 42 = .ok (.bipush (-2), 2) := by decide +kernel
theorem dX1_slotLackedBy_44 : decode cX1_slotLackedBy 44 = .ok (.ireturn, 1) := by decide +kernel
theorem dX1_slotLackedBy_45 : decode cX1_slotLackedBy 45 = .ok (.aload_n 0, 1) := by decide +kernel
theorem dX1_slotLackedBy_46 : decode cX1_slotLackedBy 46 = .ok (.getfield 9, 3) := by decide +kernel
theorem dX1_slotLackedBy_49 : decode cX1_slotLackedBy 49 = .ok (.iload 5, 2) := by decide +kernel
theorem dX1_slotLackedBy_51 : decode cX1_slotLackedBy 51 = .ok (.iaload, 1) := by decide +kernel
theorem dX1_slotLackedBy_52 : decode cX1_slotLackedBy 52 = .ok (.iconst (-1), 1) := by decide +kernel
theorem dX1_slotLackedBy_53 : decode cX1_slotLackedBy 53 = .ok (.if_icmp .ne 19, 3) := by decide +kernel
theorem dX1_slotLackedBy_56 : decode cX1_slotLackedBy 56 = .ok (.iload 4, 2) := by decide +kernel
theorem dX1_slotLackedBy_58 : decode cX1_slotLackedBy 58 = .ok (.iload_n 3, 1) := by decide +kernel
theorem dX1_slotLackedBy_59 : decode cX1_slotLackedBy 59 = .ok (.iconst 1, 1) := by decide +kernel
theorem dX1_slotLackedBy_60 : decode cX1_slotLackedBy 60 = .ok (.isub, 1) := by decide +kernel
theorem dX1_slotLackedBy_61 : decode cX1_slotLackedBy 61 = .ok (.if_icmp .ne 8, 3) := by decide +kernel
theorem dX1_slotLackedBy_64 : decode cX1_slotLackedBy 64 = .ok (.iload 5, 2) := by decide +kernel
theorem dX1_slotLackedBy_66 : decode cX1_slotLackedBy 66 = .ok (.goto 5, 3) := by decide +kernel
theorem dX1_slotLackedBy_69 : decode cX1_slotLackedBy 69 = .ok (.bipush (-2), 2) := by decide +kernel
theorem dX1_slotLackedBy_71 : decode cX1_slotLackedBy 71 = .ok (.ireturn, 1) := by decide +kernel
theorem dX1_slotLackedBy_72 : decode cX1_slotLackedBy 72 = .ok (.aload_n 0, 1) := by decide +kernel
theorem dX1_slotLackedBy_73 : decode cX1_slotLackedBy 73 = .ok (.getfield 9, 3) := by decide +kernel
theorem dX1_slotLackedBy_76 : decode cX1_slotLackedBy 76 = .ok (.iload 5, 2) := by decide +kernel
theorem dX1_slotLackedBy_78 : decode cX1_slotLackedBy 78 = .ok (.iaload, 1) := by decide +kernel
theorem dX1_slotLackedBy_79 : decode cX1_slotLackedBy 79 = .ok (.istore_n 2, 1) := by decide +kernel
theorem dX1_slotLackedBy_80 : decode cX1_slotLackedBy 80 = .ok (.iinc 4 1, 3) := by decide +kernel
theorem dX1_slotLackedBy_83 : decode cX1_slotLackedBy 83 = .ok (.goto (-69), 3) := by decide +kernel
theorem dX1_slotLackedBy_86 : decode cX1_slotLackedBy 86 = .ok (.iconst (-1), 1) := by decide +kernel
theorem dX1_slotLackedBy_87 : decode cX1_slotLackedBy 87 = .ok (.ireturn, 1) := by decide +kernel
theorem dX2_init_0 : decode cX2_init 0 = .ok (.aload_n 0, 1) := by decide +kernel
theorem dX2_init_1 : decode cX2_init 1 = .ok (.invokespecial 3, 3) := by decide +kernel
theorem dX2_init_4 : decode cX2_init 4 = .ok (.aload_n 0, 1) := by decide +kernel
theorem dX2_init_5 : decode cX2_init 5 = .ok (.bipush 8, 2) := by decide +kernel
theorem dX2_init_7 : decode cX2_init 7 = .ok (.newarray .int, 2) := by decide +kernel
theorem dX2_init_9 : decode cX2_init 9 = .ok (.putfield 9, 3) := by decide +kernel
theorem dX2_init_12 : decode cX2_init 12 = .ok (.aload_n 0, 1) := by decide +kernel
theorem dX2_init_13 : decode cX2_init 13 = .ok (.bipush 64, 2) := by decide +kernel
theorem dX2_init_15 : decode cX2_init 15 = .ok (.newarray .int, 2) := by decide +kernel
theorem dX2_init_17 : decode cX2_init 17 = .ok (.putfield 15, 3) := by decide +kernel
theorem dX2_init_20 : decode cX2_init 20 = .ok (.aload_n 0, 1) := by decide +kernel
theorem dX2_init_21 : decode cX2_init 21 = .ok (.bipush 8, 2) := by decide +kernel
theorem dX2_init_23 : decode cX2_init 23 = .ok (.newarray .int, 2) := by decide +kernel
theorem dX2_init_25 : decode cX2_init 25 = .ok (.putfield 18, 3) := by decide +kernel
theorem dX2_init_28 : decode cX2_init 28 = .ok (.aload_n 0, 1) := by decide +kernel
theorem dX2_init_29 : decode cX2_init 29 = .ok (.aload_n 1, 1) := by decide +kernel
theorem dX2_init_30 : decode cX2_init 30 = .ok (.putfield 21, 3) := by decide +kernel
theorem dX2_init_33 : decode cX2_init 33 = .ok (.return_, 1) := by decide +kernel
theorem dX2_having_0 : decode cX2_having 0 = .ok (.iload_n 1, 1) := by decide +kernel
theorem dX2_having_1 : decode cX2_having 1 = .ok (.invokestatic 25, 3) := by decide +kernel
theorem dX2_having_4 : decode cX2_having 4 = .ok (.ifCond .eq 12, 3) := by decide +kernel
theorem dX2_having_7 : decode cX2_having 7 = .ok (.aload_n 0, 1) := by decide +kernel
theorem dX2_having_8 : decode cX2_having 8 = .ok (.getfield 9, 3) := by decide +kernel
theorem dX2_having_11 : decode cX2_having 11 = .ok (.iload_n 1, 1) := by decide +kernel
theorem dX2_having_12 : decode cX2_having 12 = .ok (.iaload, 1) := by decide +kernel
theorem dX2_having_13 : decode cX2_having 13 = .ok (.goto 4, 3) := by decide +kernel
theorem dX2_having_16 : decode cX2_having 16 = .ok (.iconst 0, 1) := by decide +kernel
theorem dX2_having_17 : decode cX2_having 17 = .ok (.ireturn, 1) := by decide +kernel
theorem dX2_holding_0 : decode cX2_holding 0 = .ok (.iload_n 1, 1) := by decide +kernel
theorem dX2_holding_1 : decode cX2_holding 1 = .ok (.invokestatic 25, 3) := by decide +kernel
theorem dX2_holding_4 : decode cX2_holding 4 = .ok (.ifCond .eq 24, 3) := by decide +kernel
theorem dX2_holding_7 : decode cX2_holding 7 = .ok (.iload_n 2, 1) := by decide +kernel
theorem dX2_holding_8 : decode cX2_holding 8 = .ok (.invokestatic 25, 3) := by decide +kernel
theorem dX2_holding_11 : decode cX2_holding 11 = .ok (.ifCond .eq 17, 3) := by decide +kernel
theorem dX2_holding_14 : decode cX2_holding 14 = .ok (.aload_n 0, 1) := by decide +kernel
theorem dX2_holding_15 : decode cX2_holding 15 = .ok (.getfield 15, 3) := by decide +kernel
theorem dX2_holding_18 : decode cX2_holding 18 = .ok (.iload_n 1, 1) := by decide +kernel
theorem dX2_holding_19 : decode cX2_holding 19 = .ok (.bipush 8, 2) := by decide +kernel
theorem dX2_holding_21 : decode cX2_holding 21 = .ok (.imul, 1) := by decide +kernel
theorem dX2_holding_22 : decode cX2_holding 22 = .ok (.iload_n 2, 1) := by decide +kernel
theorem dX2_holding_23 : decode cX2_holding 23 = .ok (.iadd, 1) := by decide +kernel
theorem dX2_holding_24 : decode cX2_holding 24 = .ok (.iaload, 1) := by decide +kernel
theorem dX2_holding_25 : decode cX2_holding 25 = .ok (.goto 4, 3) := by decide +kernel
theorem dX2_holding_28 : decode cX2_holding 28 = .ok (.iconst 0, 1) := by decide +kernel
theorem dX2_holding_29 : decode cX2_holding 29 = .ok (.ireturn, 1) := by decide +kernel
theorem dX2_survey_0 : decode cX2_survey 0 = .ok (.aload_n 0, 1) := by decide +kernel
theorem dX2_survey_1 : decode cX2_survey 1 = .ok (.getfield 9, 3) := by decide +kernel
theorem dX2_survey_4 : decode cX2_survey 4 = .ok (.iconst 0, 1) := by decide +kernel
theorem dX2_survey_5 : decode cX2_survey 5 = .ok (.invokestatic 29, 3) := by decide +kernel
theorem dX2_survey_8 : decode cX2_survey 8 = .ok (.aload_n 0, 1) := by decide +kernel
theorem dX2_survey_9 : decode cX2_survey 9 = .ok (.getfield 15, 3) := by decide +kernel
theorem dX2_survey_12 : decode cX2_survey 12 = .ok (.iconst 0, 1) := by decide +kernel
theorem dX2_survey_13 : decode cX2_survey 13 = .ok (.invokestatic 29, 3) := by decide +kernel
theorem dX2_survey_16 : decode cX2_survey 16 = .ok (.iconst 0, 1) := by decide +kernel
theorem dX2_survey_17 : decode cX2_survey 17 = .ok (.istore_n 1, 1) := by decide +kernel
theorem dX2_survey_18 : decode cX2_survey 18 = .ok (.iload_n 1, 1) := by decide +kernel
theorem dX2_survey_19 : decode cX2_survey 19 = .ok (.aload_n 0, 1) := by decide +kernel
theorem dX2_survey_20 : decode cX2_survey 20 = .ok (.getfield 21, 3) := by decide +kernel
theorem dX2_survey_23 : decode cX2_survey 23 = .ok (.getfield 35, 3) := by decide +kernel
theorem dX2_survey_26 : decode cX2_survey 26 = .ok (.if_icmp .ge 29, 3) := by decide +kernel
theorem dX2_survey_29 : decode cX2_survey 29 = .ok (.aload_n 0, 1) := by decide +kernel
theorem dX2_survey_30 : decode cX2_survey 30 = .ok (.getfield 21, 3) := by decide +kernel
theorem dX2_survey_33 : decode cX2_survey 33 = .ok (.iload_n 1, 1) := by decide +kernel
theorem dX2_survey_34 : decode cX2_survey 34 = .ok (.invokevirtual 41, 3) := by decide +kernel
theorem dX2_survey_37 : decode cX2_survey 37 = .ok (.ifCond .eq 12, 3) := by decide +kernel
theorem dX2_survey_40 : decode cX2_survey 40 = .ok (.aload_n 0, 1) := by decide +kernel
theorem dX2_survey_41 : decode cX2_survey 41 = .ok (.iload_n 1, 1) := by decide +kernel
theorem dX2_survey_42 : decode cX2_survey 42 = .ok (.invokevirtual 44, 3) := by decide +kernel
theorem dX2_survey_45 : decode cX2_survey 45 = .ok (.aload_n 0, 1) := by decide +kernel
theorem dX2_survey_46 : decode cX2_survey 46 = .ok (.invokevirtual 48, 3) := by decide +kernel
theorem dX2_survey_49 : decode cX2_survey 49 = .ok (.iinc 1 1, 3) := by decide +kernel
theorem dX2_survey_52 : decode cX2_survey 52 = .ok (.goto (-34), 3) := by decide +kernel
theorem dX2_survey_55 : decode cX2_survey 55 = .ok (.return_, 1) := by decide +kernel
theorem dX2_findLastPlaces_0 : decode cX2_findLastPlaces 0 = .ok (.aload_n 0, 1) := by decide +kernel
theorem dX2_findLastPlaces_1 : decode cX2_findLastPlaces 1 = .ok (.getfield 18, 3) := by decide +kernel
theorem dX2_findLastPlaces_4 : decode cX2_findLastPlaces 4 = .ok (.iconst (-1), 1) := by decide +kernel
theorem dX2_findLastPlaces_5 : decode cX2_findLastPlaces 5 = .ok (.invokestatic 29, 3) := by decide +kernel
theorem dX2_findLastPlaces_8 : decode cX2_findLastPlaces 8 = .ok (.aload_n 0, 1) := by decide +kernel
theorem dX2_findLastPlaces_9 : decode cX2_findLastPlaces 9 = .ok (.getfield 21, 3) := by decide +kernel
theorem dX2_findLastPlaces_12 : decode cX2_findLastPlaces 12 = .ok (.iload_n 1, 1) := by decide +kernel
theorem dX2_findLastPlaces_13 : decode cX2_findLastPlaces 13 = .ok (.invokevirtual 51, 3) := by decide +kernel
theorem dX2_findLastPlaces_16 : decode cX2_findLastPlaces 16 = .ok (.istore_n 2, 1) := by decide +kernel
theorem dX2_findLastPlaces_17 : decode cX2_findLastPlaces 17 = .ok (.iconst 0, 1) := by decide +kernel
theorem dX2_findLastPlaces_18 : decode cX2_findLastPlaces 18 = .ok (.istore_n 3, 1) := by decide +kernel
theorem dX2_findLastPlaces_19 : decode cX2_findLastPlaces 19 = .ok (.iload_n 3, 1) := by decide +kernel
theorem dX2_findLastPlaces_20 : decode cX2_findLastPlaces 20 = .ok (.iload_n 2, 1) := by decide +kernel
theorem dX2_findLastPlaces_21 : decode cX2_findLastPlaces 21 = .ok (.if_icmp .ge 36, 3) := by decide +kernel
theorem dX2_findLastPlaces_24 : decode cX2_findLastPlaces 24 = .ok (.aload_n 0, 1) := by decide +kernel
theorem dX2_findLastPlaces_25 : decode cX2_findLastPlaces 25 = .ok (.getfield 21, 3) := by decide +kernel
theorem dX2_findLastPlaces_28 : decode cX2_findLastPlaces 28 = .ok (.iload_n 1, 1) := by decide +kernel
theorem dX2_findLastPlaces_29 : decode cX2_findLastPlaces 29 = .ok (.iload_n 3, 1) := by decide +kernel
theorem dX2_findLastPlaces_30 : decode cX2_findLastPlaces 30 = .ok (.invokevirtual 55, 3) := by decide +kernel
theorem dX2_findLastPlaces_33 : decode cX2_findLastPlaces 33 = .ok (.istore 4, 2) := by decide +kernel
theorem dX2_findLastPlaces_35 : decode cX2_findLastPlaces 35 = .ok (.iload 4, 2) := by decide +kernel
theorem dX2_findLastPlaces_37 : decode cX2_findLastPlaces 37 = .ok (.invokestatic 25, 3) := by decide +kernel
theorem dX2_findLastPlaces_40 : decode cX2_findLastPlaces 40 = .ok (.ifCond .eq 11, 3) := by decide +kernel
theorem dX2_findLastPlaces_43 : decode cX2_findLastPlaces 43 = .ok (.aload_n 0, 1) := by decide +kernel
theorem dX2_findLastPlaces_44 : decode cX2_findLastPlaces 44 = .ok (.getfield 18, 3) := by decide +kernel
theorem dX2_findLastPlaces_47 : decode cX2_findLastPlaces 47 = .ok (.iload 4, 2) := by decide +kernel
theorem dX2_findLastPlaces_49 : decode cX2_findLastPlaces 49 = .ok (.iload_n 3, 1) := by decide +kernel
theorem dX2_findLastPlaces_50 : decode cX2_findLastPlaces 50 = .ok (.iastore, 1) := by decide +kernel
theorem dX2_findLastPlaces_51 : decode cX2_findLastPlaces 51 = .ok (.iinc 3 1, 3) := by decide +kernel
theorem dX2_findLastPlaces_54 : decode cX2_findLastPlaces 54 = .ok (.goto (-35), 3) := by decide +kernel
theorem dX2_findLastPlaces_57 : decode cX2_findLastPlaces 57 = .ok (.return_, 1) := by decide +kernel
theorem dX2_addRow_0 : decode cX2_addRow 0 = .ok (.iconst 0, 1) := by decide +kernel
theorem dX2_addRow_1 : decode cX2_addRow 1 = .ok (.istore_n 1, 1) := by decide +kernel
theorem dX2_addRow_2 : decode cX2_addRow 2 = .ok (.iload_n 1, 1) := by decide +kernel
theorem dX2_addRow_3 : decode cX2_addRow 3 = .ok (.bipush 8, 2) := by decide +kernel
theorem dX2_addRow_5 : decode cX2_addRow 5 = .ok (.if_icmp .ge 80, 3) := by decide +kernel
theorem dX2_addRow_8 : decode cX2_addRow 8 = .ok (.aload_n 0, 1) := by decide +kernel
theorem dX2_addRow_9 : decode cX2_addRow 9 = .ok (.getfield 18, 3) := by decide +kernel
theorem dX2_addRow_12 : decode cX2_addRow 12 = .ok (.iload_n 1, 1) := by decide +kernel
theorem dX2_addRow_13 : decode cX2_addRow 13 = .ok (.iaload, 1) := by decide +kernel
theorem dX2_addRow_14 : decode cX2_addRow 14 = .ok (.iconst (-1), 1) := by decide +kernel
theorem dX2_addRow_15 : decode cX2_addRow 15 = .ok (.if_icmp .ne 6, 3) := by decide +kernel
theorem dX2_addRow_18 : decode cX2_addRow 18 = .ok (.goto 61, 3) := by decide +kernel
theorem dX2_addRow_21 : decode cX2_addRow 21 = .ok (.aload_n 0, 1) := by decide +kernel
theorem dX2_addRow_22 : decode cX2_addRow 22 = .ok (.getfield 9, 3) := by decide +kernel
theorem dX2_addRow_25 : decode cX2_addRow 25 = .ok (.iload_n 1, 1) := by decide +kernel
theorem dX2_addRow_26 : decode cX2_addRow 26 = .ok (.dup2, 1) := by decide +kernel
theorem dX2_addRow_27 : decode cX2_addRow 27 = .ok (.iaload, 1) := by decide +kernel
theorem dX2_addRow_28 : decode cX2_addRow 28 = .ok (.iconst 1, 1) := by decide +kernel
theorem dX2_addRow_29 : decode cX2_addRow 29 = .ok (.iadd, 1) := by decide +kernel
theorem dX2_addRow_30 : decode cX2_addRow 30 = .ok (.iastore, 1) := by decide +kernel
theorem dX2_addRow_31 : decode cX2_addRow 31 = .ok (.iconst 0, 1) := by decide +kernel
theorem dX2_addRow_32 : decode cX2_addRow 32 = .ok (.istore_n 2, 1) := by decide +kernel
theorem dX2_addRow_33 : decode cX2_addRow 33 = .ok (.iload_n 2, 1) := by decide +kernel
theorem dX2_addRow_34 : decode cX2_addRow 34 = .ok (.bipush 8, 2) := by decide +kernel
theorem dX2_addRow_36 : decode cX2_addRow 36 = .ok (.if_icmp .ge 43, 3) := by decide +kernel
theorem dX2_addRow_39 : decode cX2_addRow 39 = .ok (.aload_n 0, 1) := by decide +kernel
theorem dX2_addRow_40 : decode cX2_addRow 40 = .ok (.getfield 15, 3) := by decide +kernel
theorem dX2_addRow_43 : decode cX2_addRow 43 = .ok (.iload_n 1, 1) := by decide +kernel
theorem dX2_addRow_44 : decode cX2_addRow 44 = .ok (.bipush 8, 2) := by decide +kernel
theorem dX2_addRow_46 : decode cX2_addRow 46 = .ok (.imul, 1) := by decide +kernel
theorem dX2_addRow_47 : decode cX2_addRow 47 = .ok (.iload_n 2, 1) := by decide +kernel
theorem dX2_addRow_48 : decode cX2_addRow 48 = .ok (.iadd, 1) := by decide +kernel
theorem dX2_addRow_49 : decode cX2_addRow 49 = .ok (.dup2, 1) := by decide +kernel
theorem dX2_addRow_50 : decode cX2_addRow 50 = .ok (.iaload, 1) := by decide +kernel
theorem dX2_addRow_51 : decode cX2_addRow 51 = .ok (.aload_n 0, 1) := by decide +kernel
theorem dX2_addRow_52 : decode cX2_addRow 52 = .ok (.getfield 18, 3) := by decide +kernel
theorem dX2_addRow_55 : decode cX2_addRow 55 = .ok (.iload_n 2, 1) := by decide +kernel
theorem dX2_addRow_56 : decode cX2_addRow 56 = .ok (.iaload, 1) := by decide +kernel
theorem dX2_addRow_57 : decode cX2_addRow 57 = .ok (.aload_n 0, 1) := by decide +kernel
theorem dX2_addRow_58 : decode cX2_addRow 58 = .ok (.getfield 18, 3) := by decide +kernel
theorem dX2_addRow_61 : decode cX2_addRow 61 = .ok (.iload_n 1, 1) := by decide +kernel
theorem dX2_addRow_62 : decode cX2_addRow 62 = .ok (.iaload, 1) := by decide +kernel
theorem dX2_addRow_63 : decode cX2_addRow 63 = .ok (.if_icmp .le 7, 3) := by decide +kernel
theorem dX2_addRow_66 : decode cX2_addRow 66 = .ok (.iconst 1, 1) := by decide +kernel
theorem dX2_addRow_67 : decode cX2_addRow 67 = .ok (.goto 4, 3) := by decide +kernel
theorem dX2_addRow_70 : decode cX2_addRow 70 = .ok (.iconst 0, 1) := by decide +kernel
theorem dX2_addRow_71 : decode cX2_addRow 71 = .ok (.iadd, 1) := by decide +kernel
theorem dX2_addRow_72 : decode cX2_addRow 72 = .ok (.iastore, 1) := by decide +kernel
theorem dX2_addRow_73 : decode cX2_addRow 73 = .ok (.iinc 2 1, 3) := by decide +kernel
theorem dX2_addRow_76 : decode cX2_addRow 76 = .ok (.goto (-43), 3) := by decide +kernel
theorem dX2_addRow_79 : decode cX2_addRow 79 = .ok (.iinc 1 1, 3) := by decide +kernel
theorem dX2_addRow_82 : decode cX2_addRow 82 = .ok (.goto (-80), 3) := by decide +kernel
theorem dX2_addRow_85 : decode cX2_addRow 85 = .ok (.return_, 1) := by decide +kernel
theorem dX2_atRank_0 : decode cX2_atRank 0 = .ok (.iload_n 1, 1) := by decide +kernel
theorem dX2_atRank_1 : decode cX2_atRank 1 = .ok (.ifCond .lt 9, 3) := by decide +kernel
theorem dX2_atRank_4 : decode cX2_atRank 4 = .ok (.iload_n 1, 1) := by decide +kernel
theorem dX2_atRank_5 : decode cX2_atRank 5 = .ok (.bipush 64, 2) := by decide +kernel
theorem dX2_atRank_7 : decode cX2_atRank 7 = .ok (.if_icmp .lt 5, 3) := by decide +kernel
theorem dX2_atRank_10 : decode cX2_atRank 10 = .ok (.iconst (-1), 1) := by decide +kernel
theorem dX2_atRank_11 : decode cX2_atRank 11 = .ok (.ireturn, 1) := by decide +kernel
theorem dX2_atRank_12 : decode cX2_atRank 12 = .ok (.iconst 0, 1) := by decide +kernel
theorem dX2_atRank_13 : decode cX2_atRank 13 = .ok (.istore_n 2, 1) := by decide +kernel
theorem dX2_atRank_14 : decode cX2_atRank 14 = .ok (.iload_n 2, 1) := by decide +kernel
theorem dX2_atRank_15 : decode cX2_atRank 15 = .ok (.bipush 64, 2) := by decide +kernel
theorem dX2_atRank_17 : decode cX2_atRank 17 = .ok (.if_icmp .ge 28, 3) := by decide +kernel
theorem dX2_atRank_20 : decode cX2_atRank 20 = .ok (.aload_n 0, 1) := by decide +kernel
theorem dX2_atRank_21 : decode cX2_atRank 21 = .ok (.iload_n 2, 1) := by decide +kernel
theorem dX2_atRank_22 : decode cX2_atRank 22 = .ok (.invokevirtual 59, 3) := by decide +kernel
theorem dX2_atRank_25 : decode cX2_atRank 25 = .ok (.ifCond .eq 14, 3) := by decide +kernel
theorem dX2_atRank_28 : decode cX2_atRank 28 = .ok (.aload_n 0, 1) := by decide +kernel
theorem dX2_atRank_29 : decode cX2_atRank 29 = .ok (.iload_n 2, 1) := by decide +kernel
theorem dX2_atRank_30 : decode cX2_atRank 30 = .ok (.invokevirtual 62, 3) := by decide +kernel
theorem dX2_atRank_33 : decode cX2_atRank 33 = .ok (.iload_n 1, 1) := by decide +kernel
theorem dX2_atRank_34 : decode cX2_atRank 34 = .ok (.if_icmp .ne 5, 3) := by decide +kernel
theorem dX2_atRank_37 : decode cX2_atRank 37 = .ok (.iload_n 2, 1) := by decide +kernel
theorem dX2_atRank_38 : decode cX2_atRank 38 = .ok (.ireturn, 1) := by decide +kernel
theorem dX2_atRank_39 : decode cX2_atRank 39 = .ok (.iinc 2 1, 3) := by decide +kernel
theorem dX2_atRank_42 : decode cX2_atRank 42 = .ok (.goto (-28), 3) := by decide +kernel
theorem dX2_atRank_45 : decode cX2_atRank 45 = .ok (.iconst (-1), 1) := by decide +kernel
theorem dX2_atRank_46 : decode cX2_atRank 46 = .ok (.ireturn, 1) := by decide +kernel
theorem dX2_isRanked_0 : decode cX2_isRanked 0 = .ok (.iload_n 1, 1) := by decide +kernel
theorem dX2_isRanked_1 : decode cX2_isRanked 1 = .ok (.bipush 8, 2) := by decide +kernel
theorem dX2_isRanked_3 : decode cX2_isRanked 3 = .ok (.idiv, 1) := by decide +kernel
theorem dX2_isRanked_4 : decode cX2_isRanked 4 = .ok (.iload_n 1, 1) := by decide +kernel
theorem dX2_isRanked_5 : decode cX2_isRanked 5 = .ok (.bipush 8, 2) := by decide +kernel
theorem dX2_isRanked_7 : decode cX2_isRanked 7 = .ok (.irem, 1) := by decide +kernel
theorem dX2_isRanked_8 : decode cX2_isRanked 8 = .ok (.if_icmp .eq 18, 3) := by decide +kernel
theorem dX2_isRanked_11 : decode cX2_isRanked 11 = .ok (.aload_n 0, 1) := by decide +kernel
theorem dX2_isRanked_12 : decode cX2_isRanked 12 = .ok (.iload_n 1, 1) := by decide +kernel
theorem dX2_isRanked_13 : decode cX2_isRanked 13 = .ok (.bipush 8, 2) := by decide +kernel
theorem dX2_isRanked_15 : decode cX2_isRanked 15 = .ok (.idiv, 1) := by decide +kernel
theorem dX2_isRanked_16 : decode cX2_isRanked 16 = .ok (.invokevirtual 65, 3) := by decide +kernel
theorem dX2_isRanked_19 : decode cX2_isRanked 19 = .ok (.ifCond .le 7, 3) := by decide +kernel
theorem dX2_isRanked_22 : decode cX2_isRanked 22 = .ok (.iconst 1, 1) := by decide +kernel
theorem dX2_isRanked_23 : decode cX2_isRanked 23 = .ok (.goto 4, 3) := by decide +kernel
theorem dX2_isRanked_26 : decode cX2_isRanked 26 = .ok (.iconst 0, 1) := by decide +kernel
theorem dX2_isRanked_27 : decode cX2_isRanked 27 = .ok (.ireturn, 1) := by decide +kernel
theorem dX2_countAhead_0 : decode cX2_countAhead 0 = .ok (.iconst 0, 1) := by decide +kernel
theorem dX2_countAhead_1 : decode cX2_countAhead 1 = .ok (.istore_n 2, 1) := by decide +kernel
theorem dX2_countAhead_2 : decode cX2_countAhead 2 = .ok (.iconst 0, 1) := by decide +kernel
theorem dX2_countAhead_3 : decode cX2_countAhead 3 = .ok (.istore_n 3, 1) := by decide +kernel
theorem dX2_countAhead_4 : decode cX2_countAhead 4 = .ok (.iload_n 3, 1) := by decide +kernel
theorem dX2_countAhead_5 : decode cX2_countAhead 5 = .ok (.bipush 64, 2) := by decide +kernel
theorem dX2_countAhead_7 : decode cX2_countAhead 7 = .ok (.if_icmp .ge 34, 3) := by decide +kernel
theorem dX2_countAhead_10 : decode cX2_countAhead 10 = .ok (.iload_n 2, 1) := by decide +kernel
theorem dX2_countAhead_11 : decode cX2_countAhead 11 = .ok (.aload_n 0, 1) := by decide +kernel
theorem dX2_countAhead_12 : decode cX2_countAhead 12 = .ok (.iload_n 3, 1) := by decide +kernel
theorem dX2_countAhead_13 : decode cX2_countAhead 13 = .ok (.invokevirtual 59, 3) := by decide +kernel
theorem dX2_countAhead_16 : decode cX2_countAhead 16 = .ok (.ifCond .eq 16, 3) := by decide +kernel
theorem dX2_countAhead_19 : decode cX2_countAhead 19 = .ok (.aload_n 0, 1) := by decide +kernel
theorem dX2_countAhead_20 : decode cX2_countAhead 20 = .ok (.iload_n 3, 1) := by decide +kernel
theorem dX2_countAhead_21 : decode cX2_countAhead 21 = .ok (.iload_n 1, 1) := by decide +kernel
theorem dX2_countAhead_22 : decode cX2_countAhead 22 = .ok (.invokevirtual 68, 3) := by decide +kernel
theorem dX2_countAhead_25 : decode cX2_countAhead 25 = .ok (.ifCond .eq 7, 3) := by decide +kernel
theorem dX2_countAhead_28 : decode cX2_countAhead 28 = .ok (.iconst 1, 1) := by decide +kernel
theorem dX2_countAhead_29 : decode cX2_countAhead 29 = .ok (.goto 4, 3) := by decide +kernel
theorem dX2_countAhead_32 : decode cX2_countAhead 32 = .ok (.iconst 0, 1) := by decide +kernel
theorem dX2_countAhead_33 : decode cX2_countAhead 33 = .ok (.iadd, 1) := by decide +kernel
theorem dX2_countAhead_34 : decode cX2_countAhead 34 = .ok (.istore_n 2, 1) := by decide +kernel
theorem dX2_countAhead_35 : decode cX2_countAhead 35 = .ok (.iinc 3 1, 3) := by decide +kernel
theorem dX2_countAhead_38 : decode cX2_countAhead 38 = .ok (.goto (-34), 3) := by decide +kernel
theorem dX2_countAhead_41 : decode cX2_countAhead 41 = .ok (.iload_n 2, 1) := by decide +kernel
theorem dX2_countAhead_42 : decode cX2_countAhead 42 = .ok (.ireturn, 1) := by decide +kernel
theorem dX2_isAhead_0 : decode cX2_isAhead 0 = .ok (.aload_n 0, 1) := by decide +kernel
theorem dX2_isAhead_1 : decode cX2_isAhead 1 = .ok (.iload_n 1, 1) := by decide +kernel
theorem dX2_isAhead_2 : decode cX2_isAhead 2 = .ok (.bipush 8, 2) := by decide +kernel
theorem dX2_isAhead_4 : decode cX2_isAhead 4 = .ok (.idiv, 1) := by decide +kernel
theorem dX2_isAhead_5 : decode cX2_isAhead 5 = .ok (.invokevirtual 65, 3) := by decide +kernel
theorem dX2_isAhead_8 : decode cX2_isAhead 8 = .ok (.istore_n 3, 1) := by decide +kernel
theorem dX2_isAhead_9 : decode cX2_isAhead 9 = .ok (.aload_n 0, 1) := by decide +kernel
theorem dX2_isAhead_10 : decode cX2_isAhead 10 = .ok (.iload_n 2, 1) := by decide +kernel
theorem dX2_isAhead_11 : decode cX2_isAhead 11 = .ok (.bipush 8, 2) := by decide +kernel
theorem dX2_isAhead_13 : decode cX2_isAhead 13 = .ok (.idiv, 1) := by decide +kernel
theorem dX2_isAhead_14 : decode cX2_isAhead 14 = .ok (.invokevirtual 65, 3) := by decide +kernel
theorem dX2_isAhead_17 : decode cX2_isAhead 17 = .ok (.istore 4, 2) := by decide +kernel
theorem dX2_isAhead_19 : decode cX2_isAhead 19 = .ok (.aload_n 0, 1) := by decide +kernel
theorem dX2_isAhead_20 : decode cX2_isAhead 20 = .ok (.iload_n 1, 1) := by decide +kernel
theorem dX2_isAhead_21 : decode cX2_isAhead 21 = .ok (.bipush 8, 2) := by decide +kernel
theorem dX2_isAhead_23 : decode cX2_isAhead 23 = .ok (.idiv, 1) := by decide +kernel
theorem dX2_isAhead_24 : decode cX2_isAhead 24 = .ok (.iload_n 1, 1) := by decide +kernel
theorem dX2_isAhead_25 : decode cX2_isAhead 25 = .ok (.bipush 8, 2) := by decide +kernel
theorem dX2_isAhead_27 : decode cX2_isAhead 27 = .ok (.irem, 1) := by decide +kernel
theorem dX2_isAhead_28 : decode cX2_isAhead 28 = .ok (.invokevirtual 72, 3) := by decide +kernel
theorem dX2_isAhead_31 : decode cX2_isAhead 31 = .ok (.iload 4, 2) := by decide +kernel
theorem dX2_isAhead_33 : decode cX2_isAhead 33 = .ok (.imul, 1) := by decide +kernel
theorem dX2_isAhead_34 : decode cX2_isAhead 34 = .ok (.istore 5, 2) := by decide +kernel
theorem dX2_isAhead_36 : decode cX2_isAhead 36 = .ok (.aload_n 0, 1) := by decide +kernel
theorem dX2_isAhead_37 : decode cX2_isAhead 37 = .ok (.iload_n 2, 1) := by decide +kernel
theorem dX2_isAhead_38 : decode cX2_isAhead 38 = .ok (.bipush 8, 2) := by decide +kernel
theorem dX2_isAhead_40 : decode cX2_isAhead 40 = .ok (.idiv, 1) := by decide +kernel
theorem dX2_isAhead_41 : decode cX2_isAhead 41 = .ok (.iload_n 2, 1) := by decide +kernel
theorem dX2_isAhead_42 : decode cX2_isAhead 42 = .ok (.bipush 8, 2) := by decide +kernel
theorem dX2_isAhead_44 : decode cX2_isAhead 44 = .ok (.irem, 1) := by decide +kernel
theorem dX2_isAhead_45 : decode cX2_isAhead 45 = .ok (.invokevirtual 72, 3) := by decide +kernel
theorem dX2_isAhead_48 : decode cX2_isAhead 48 = .ok (.iload_n 3, 1) := by decide +kernel
theorem dX2_isAhead_49 : decode cX2_isAhead 49 = .ok (.imul, 1) := by decide +kernel
theorem dX2_isAhead_50 : decode cX2_isAhead 50 = .ok (.istore 6, 2) := by decide +kernel
theorem dX2_isAhead_52 : decode cX2_isAhead 52 = .ok (.iload 5, 2) := by decide +kernel
theorem dX2_isAhead_54 : decode cX2_isAhead 54 = .ok (.iload 6, 2) := by decide +kernel
theorem dX2_isAhead_56 : decode cX2_isAhead 56 = .ok (.if_icmp .eq 16, 3) := by decide +kernel
theorem dX2_isAhead_59 : decode cX2_isAhead 59 = .ok (.iload 5, 2) := by decide +kernel
theorem dX2_isAhead_61 : decode cX2_isAhead 61 = .ok (.iload 6, 2) := by decide +kernel
theorem dX2_isAhead_63 : decode cX2_isAhead 63 = .ok (.if_icmp .le 7, 3) := by decide +kernel
theorem dX2_isAhead_66 : decode cX2_isAhead 66 = .ok (.iconst 1, 1) := by decide +kernel
theorem dX2_isAhead_67 : decode cX2_isAhead 67 = .ok (.goto 4, 3) := by decide +kernel
theorem dX2_isAhead_70 : decode cX2_isAhead 70 = .ok (.iconst 0, 1) := by decide +kernel
theorem dX2_isAhead_71 : decode cX2_isAhead 71 = .ok (.ireturn, 1) := by decide +kernel
theorem dX2_isAhead_72 : decode cX2_isAhead 72 = .ok (.iload_n 3, 1) := by decide +kernel
theorem dX2_isAhead_73 : decode cX2_isAhead 73 = .ok (.iload 4, 2) := by decide +kernel
theorem dX2_isAhead_75 : decode cX2_isAhead 75 = .ok (.if_icmp .eq 17, 3) := by decide +kernel
theorem dX2_isAhead_78 : decode cX2_isAhead 78 = .ok (.iload_n 3, 1) := by decide +kernel
theorem dX2_isAhead_79 : decode cX2_isAhead 79 = .ok (.iload 4, 2) := by decide +kernel
theorem dX2_isAhead_81 : decode cX2_isAhead 81 = .ok (.if_icmp .le 7, 3) := by decide +kernel
theorem dX2_isAhead_84 : decode cX2_isAhead 84 = .ok (.iconst 1, 1) := by decide +kernel
theorem dX2_isAhead_85 : decode cX2_isAhead 85 = .ok (.goto 17, 3) := by decide +kernel
theorem dX2_isAhead_88 : decode cX2_isAhead 88 = .ok (.iconst 0, 1) := by decide +kernel
theorem dX2_isAhead_89 : decode cX2_isAhead 89 = .ok (.goto 13, 3) := by decide +kernel
theorem dX2_isAhead_92 : decode cX2_isAhead 92 = .ok (.iload_n 1, 1) := by decide +kernel
theorem dX2_isAhead_93 : decode cX2_isAhead 93 = .ok (.iload_n 2, 1) := by decide +kernel
theorem dX2_isAhead_94 : decode cX2_isAhead 94 = .ok (.if_icmp .ge 7, 3) := by decide +kernel
theorem dX2_isAhead_97 : decode cX2_isAhead 97 = .ok (.iconst 1, 1) := by decide +kernel
theorem dX2_isAhead_98 : decode cX2_isAhead 98 = .ok (.goto 4, 3) := by decide +kernel
theorem dX2_isAhead_101 : decode cX2_isAhead 101 = .ok (.iconst 0, 1) := by decide +kernel
theorem dX2_isAhead_102 : decode cX2_isAhead 102 = .ok (.ireturn, 1) := by decide +kernel
theorem dX3_init_0 : decode cX3_init 0 = .ok (.aload_n 0, 1) := by decide +kernel
theorem dX3_init_1 : decode cX3_init 1 = .ok (.invokespecial 3, 3) := by decide +kernel
theorem dX3_init_4 : decode cX3_init 4 = .ok (.aload_n 0, 1) := by decide +kernel
theorem dX3_init_5 : decode cX3_init 5 = .ok (.sipush 6030, 3) := by decide +kernel
theorem dX3_init_8 : decode cX3_init 8 = .ok (.newarray .int, 2) := by decide +kernel
theorem dX3_init_10 : decode cX3_init 10 = .ok (.putfield 9, 3) := by decide +kernel
theorem dX3_init_13 : decode cX3_init 13 = .ok (.aload_n 0, 1) := by decide +kernel
theorem dX3_init_14 : decode cX3_init 14 = .ok (.sipush 6030, 3) := by decide +kernel
theorem dX3_init_17 : decode cX3_init 17 = .ok (.newarray .boolean, 2) := by decide +kernel
theorem dX3_init_19 : decode cX3_init 19 = .ok (.putfield 15, 3) := by decide +kernel
theorem dX3_init_22 : decode cX3_init 22 = .ok (.aload_n 0, 1) := by decide +kernel
theorem dX3_init_23 : decode cX3_init 23 = .ok (.sipush 6031, 3) := by decide +kernel
theorem dX3_init_26 : decode cX3_init 26 = .ok (.newarray .int, 2) := by decide +kernel
theorem dX3_init_28 : decode cX3_init 28 = .ok (.putfield 19, 3) := by decide +kernel
theorem dX3_init_31 : decode cX3_init 31 = .ok (.aload_n 0, 1) := by decide +kernel
theorem dX3_init_32 : decode cX3_init 32 = .ok (.sipush 6030, 3) := by decide +kernel
theorem dX3_init_35 : decode cX3_init 35 = .ok (.newarray .int, 2) := by decide +kernel
theorem dX3_init_37 : decode cX3_init 37 = .ok (.putfield 22, 3) := by decide +kernel
theorem dX3_init_40 : decode cX3_init 40 = .ok (.aload_n 0, 1) := by decide +kernel
theorem dX3_init_41 : decode cX3_init 41 = .ok (.sipush 6030, 3) := by decide +kernel
theorem dX3_init_44 : decode cX3_init 44 = .ok (.newarray .int, 2) := by decide +kernel
theorem dX3_init_46 : decode cX3_init 46 = .ok (.putfield 25, 3) := by decide +kernel
theorem dX3_init_49 : decode cX3_init 49 = .ok (.aload_n 0, 1) := by decide +kernel
theorem dX3_init_50 : decode cX3_init 50 = .ok (.new 28, 3) := by decide +kernel
theorem dX3_init_53 : decode cX3_init 53 = .ok (.dup, 1) := by decide +kernel
theorem dX3_init_54 : decode cX3_init 54 = .ok (.sipush 6031, 3) := by decide +kernel
theorem dX3_init_57 : decode cX3_init 57 = .ok (.invokespecial 30, 3) := by decide +kernel
theorem dX3_init_60 : decode cX3_init 60 = .ok (.putfield 33, 3) := by decide +kernel
theorem dX3_init_63 : decode cX3_init 63 = .ok (.aload_n 0, 1) := by decide +kernel
theorem dX3_init_64 : decode cX3_init 64 = .ok (.aload_n 1, 1) := by decide +kernel
theorem dX3_init_65 : decode cX3_init 65 = .ok (.putfield 37, 3) := by decide +kernel
theorem dX3_init_68 : decode cX3_init 68 = .ok (.aload_n 0, 1) := by decide +kernel
theorem dX3_init_69 : decode cX3_init 69 = .ok (.aload_n 2, 1) := by decide +kernel
theorem dX3_init_70 : decode cX3_init 70 = .ok (.putfield 41, 3) := by decide +kernel
theorem dX3_init_73 : decode cX3_init 73 = .ok (.return_, 1) := by decide +kernel
theorem dX3_findBreak_0 : decode cX3_findBreak 0 = .ok (.iconst 0, 1) := by decide +kernel
theorem dX3_findBreak_1 : decode cX3_findBreak 1 = .ok (.istore_n 1, 1) := by decide +kernel
theorem dX3_findBreak_2 : decode cX3_findBreak 2 = .ok (.iload_n 1, 1) := by decide +kernel
theorem dX3_findBreak_3 : decode cX3_findBreak 3 = .ok (.aload_n 0, 1) := by decide +kernel
theorem dX3_findBreak_4 : decode cX3_findBreak 4 = .ok (.getfield 37, 3) := by decide +kernel
theorem dX3_findBreak_7 : decode cX3_findBreak 7 = .ok (.getfield 45, 3) := by decide +kernel
theorem dX3_findBreak_10 : decode cX3_findBreak 10 = .ok (.iconst 1, 1) := by decide +kernel
theorem dX3_findBreak_11 : decode cX3_findBreak 11 = .ok (.iadd, 1) := by decide +kernel
theorem dX3_findBreak_12 : decode cX3_findBreak 12 = .ok (.bipush 30, 2) := by decide +kernel
theorem dX3_findBreak_14 : decode cX3_findBreak 14 = .ok (.imul, 1) := by decide +kernel
theorem dX3_findBreak_15 : decode cX3_findBreak 15 = .ok (.if_icmp .ge 23, 3) := by decide +kernel
theorem dX3_findBreak_18 : decode cX3_findBreak 18 = .ok (.iload_n 1, 1) := by decide +kernel
theorem dX3_findBreak_19 : decode cX3_findBreak 19 = .ok (.sipush 6030, 3) := by decide +kernel
theorem dX3_findBreak_22 : decode cX3_findBreak 22 = .ok (.if_icmp .ge 16, 3) := by decide +kernel
theorem dX3_findBreak_25 : decode cX3_findBreak 25 = .ok (.aload_n 0, 1) := by decide +kernel
theorem dX3_findBreak_26 : decode cX3_findBreak 26 = .ok (.getfield 15, 3) := by decide +kernel
theorem dX3_findBreak_29 : decode cX3_findBreak 29 = .ok (.iload_n 1, 1) := by decide +kernel
theorem dX3_findBreak_30 : decode cX3_findBreak 30 = .ok (.iconst 0, 1) := by decide +kernel
theorem dX3_findBreak_31 : decode cX3_findBreak 31 = .ok (.bastore, 1) := by decide +kernel
theorem dX3_findBreak_32 : decode cX3_findBreak 32 = .ok (.iinc 1 1, 3) := by decide +kernel
theorem dX3_findBreak_35 : decode cX3_findBreak 35 = .ok (.goto (-33), 3) := by decide +kernel
theorem dX3_findBreak_38 : decode cX3_findBreak 38 = .ok (.aload_n 0, 1) := by decide +kernel
theorem dX3_findBreak_39 : decode cX3_findBreak 39 = .ok (.iconst 0, 1) := by decide +kernel
theorem dX3_findBreak_40 : decode cX3_findBreak 40 = .ok (.putfield 51, 3) := by decide +kernel
theorem dX3_findBreak_43 : decode cX3_findBreak 43 = .ok (.aload_n 0, 1) := by decide +kernel
theorem dX3_findBreak_44 : decode cX3_findBreak 44 = .ok (.iconst 0, 1) := by decide +kernel
theorem dX3_findBreak_45 : decode cX3_findBreak 45 = .ok (.putfield 54, 3) := by decide +kernel
theorem dX3_findBreak_48 : decode cX3_findBreak 48 = .ok (.aload_n 0, 1) := by decide +kernel
theorem dX3_findBreak_49 : decode cX3_findBreak 49 = .ok (.getfield 33, 3) := by decide +kernel
theorem dX3_findBreak_52 : decode cX3_findBreak 52 = .ok (.iconst 0, 1) := by decide +kernel
theorem dX3_findBreak_53 : decode cX3_findBreak 53 = .ok (.putfield 57, 3) := by decide +kernel
theorem dX3_findBreak_56 : decode cX3_findBreak 56 = .ok (.aload_n 0, 1) := by decide +kernel
theorem dX3_findBreak_57 : decode cX3_findBreak 57 = .ok (.iconst 0, 1) := by decide +kernel
theorem dX3_findBreak_58 : decode cX3_findBreak 58 = .ok (.iconst 0, 1) := by decide +kernel
theorem dX3_findBreak_59 : decode cX3_findBreak 59 = .ok (.invokevirtual 58, 3) := by decide +kernel
theorem dX3_findBreak_62 : decode cX3_findBreak 62 = .ok (.aload_n 0, 1) := by decide +kernel
theorem dX3_findBreak_63 : decode cX3_findBreak 63 = .ok (.iconst (-1), 1) := by decide +kernel
theorem dX3_findBreak_64 : decode cX3_findBreak 64 = .ok (.iconst (-1), 1) := by decide +kernel
theorem dX3_findBreak_65 : decode cX3_findBreak 65 = .ok (.invokevirtual 62, 3) := by decide +kernel
theorem dX3_findBreak_68 : decode cX3_findBreak 68 = .ok (.iconst 0, 1) := by decide +kernel
theorem dX3_findBreak_69 : decode cX3_findBreak 69 = .ok (.istore_n 1, 1) := by decide +kernel
theorem dX3_findBreak_70 : decode cX3_findBreak 70 = .ok (.iload_n 1, 1) := by decide +kernel
theorem dX3_findBreak_71 : decode cX3_findBreak 71 = .ok (.aload_n 0, 1) := by decide +kernel
theorem dX3_findBreak_72 : decode cX3_findBreak 72 = .ok (.getfield 54, 3) := by decide +kernel
theorem dX3_findBreak_75 : decode cX3_findBreak 75 = .ok (.if_icmp .ge 52, 3) := by decide +kernel
theorem dX3_findBreak_78 : decode cX3_findBreak 78 = .ok (.iload_n 1, 1) := by decide +kernel
theorem dX3_findBreak_79 : decode cX3_findBreak 79 = .ok (.sipush 6030, 3) := by decide +kernel
theorem dX3_findBreak_82 : decode cX3_findBreak 82 = .ok (.if_icmp .ge 45, 3) := by decide +kernel
theorem dX3_findBreak_85 : decode cX3_findBreak 85 = .ok (.iconst 0, 1) := by decide +kernel
theorem dX3_findBreak_86 : decode cX3_findBreak 86 = .ok (.istore_n 2, 1) := by decide +kernel
theorem dX3_findBreak_87 : decode cX3_findBreak 87 = .ok (.iload_n 2, 1) := by decide +kernel
theorem dX3_findBreak_88 : decode cX3_findBreak 88 = .ok (.bipush 8, 2) := by decide +kernel
theorem dX3_findBreak_90 : decode cX3_findBreak 90 = .ok (.if_icmp .ge 31, 3) := by decide +kernel
theorem dX3_findBreak_93 : decode cX3_findBreak 93 = .ok (.aload_n 0, 1) := by decide +kernel
theorem dX3_findBreak_94 : decode cX3_findBreak 94 = .ok (.iload_n 1, 1) := by decide +kernel
theorem dX3_findBreak_95 : decode cX3_findBreak 95 = .ok (.iload_n 2, 1) := by decide +kernel
theorem dX3_findBreak_96 : decode cX3_findBreak 96 = .ok (.invokevirtual 65, 3) := by decide +kernel
theorem dX3_findBreak_99 : decode cX3_findBreak 99 = .ok (.ifCond .eq 10, 3) := by decide +kernel
theorem dX3_findBreak_102 : decode cX3_findBreak 102 = .ok (.aload_n 0, 1) := by decide +kernel
theorem dX3_findBreak_103 : decode cX3_findBreak 103 = .ok (.iload_n 1, 1) := by decide +kernel
theorem dX3_findBreak_104 : decode cX3_findBreak 104 = .ok (.iload_n 2, 1) := by decide +kernel
theorem dX3_findBreak_105 : decode cX3_findBreak 105 = .ok (.invokevirtual 69, 3) := by decide +kernel
theorem dX3_findBreak_108 : decode cX3_findBreak 108 = .ok (.return_, 1) := by decide +kernel
theorem dX3_findBreak_109 : decode cX3_findBreak 109 = .ok (.aload_n 0, 1) := by decide +kernel
theorem dX3_findBreak_110 : decode cX3_findBreak 110 = .ok (.iload_n 1, 1) := by decide +kernel
theorem dX3_findBreak_111 : decode cX3_findBreak 111 = .ok (.iload_n 2, 1) := by decide +kernel
theorem dX3_findBreak_112 : decode cX3_findBreak 112 = .ok (.invokevirtual 62, 3) := by decide +kernel
theorem dX3_findBreak_115 : decode cX3_findBreak 115 = .ok (.iinc 2 1, 3) := by decide +kernel
theorem dX3_findBreak_118 : decode cX3_findBreak 118 = .ok (.goto (-31), 3) := by decide +kernel
theorem dX3_findBreak_121 : decode cX3_findBreak 121 = .ok (.iinc 1 1, 3) := by decide +kernel
theorem dX3_findBreak_124 : decode cX3_findBreak 124 = .ok (.goto (-54), 3) := by decide +kernel
theorem dX3_findBreak_127 : decode cX3_findBreak 127 = .ok (.return_, 1) := by decide +kernel
theorem dX3_breaks_0 : decode cX3_breaks 0 = .ok (.aload_n 0, 1) := by decide +kernel
theorem dX3_breaks_1 : decode cX3_breaks 1 = .ok (.getfield 19, 3) := by decide +kernel
theorem dX3_breaks_4 : decode cX3_breaks 4 = .ok (.iload_n 1, 1) := by decide +kernel
theorem dX3_breaks_5 : decode cX3_breaks 5 = .ok (.iaload, 1) := by decide +kernel
theorem dX3_breaks_6 : decode cX3_breaks 6 = .ok (.istore_n 3, 1) := by decide +kernel
theorem dX3_breaks_7 : decode cX3_breaks 7 = .ok (.aload_n 0, 1) := by decide +kernel
theorem dX3_breaks_8 : decode cX3_breaks 8 = .ok (.getfield 19, 3) := by decide +kernel
theorem dX3_breaks_11 : decode cX3_breaks 11 = .ok (.iload_n 1, 1) := by decide +kernel
theorem dX3_breaks_12 : decode cX3_breaks 12 = .ok (.iconst 1, 1) := by decide +kernel
theorem dX3_breaks_13 : decode cX3_breaks 13 = .ok (.iadd, 1) := by decide +kernel
theorem dX3_breaks_14 : decode cX3_breaks 14 = .ok (.iaload, 1) := by decide +kernel
theorem dX3_breaks_15 : decode cX3_breaks 15 = .ok (.istore 4, 2) := by decide +kernel
theorem dX3_breaks_17 : decode cX3_breaks 17 = .ok (.iload_n 3, 1) := by decide +kernel
theorem dX3_breaks_18 : decode cX3_breaks 18 = .ok (.istore 5, 2) := by decide +kernel
theorem dX3_breaks_20 : decode cX3_breaks 20 = .ok (.iload 5, 2) := by decide +kernel
theorem dX3_breaks_22 : decode cX3_breaks 22 = .ok (.ifCond .lt 90, 3) := by decide +kernel
theorem dX3_breaks_25 : decode cX3_breaks 25 = .ok (.iload 5, 2) := by decide +kernel
theorem dX3_breaks_27 : decode cX3_breaks 27 = .ok (.iload 4, 2) := by decide +kernel
theorem dX3_breaks_29 : decode cX3_breaks 29 = .ok (.if_icmp .ge 83, 3) := by decide +kernel
theorem dX3_breaks_32 : decode cX3_breaks 32 = .ok (.iload 5, 2) := by decide +kernel
theorem dX3_breaks_34 : decode cX3_breaks 34 = .ok (.sipush 6030, 3) := by decide +kernel
theorem dX3_breaks_37 : decode cX3_breaks 37 = .ok (.if_icmp .ge 75, 3) := by decide +kernel
theorem dX3_breaks_40 : decode cX3_breaks 40 = .ok (.aload_n 0, 1) := by decide +kernel
theorem dX3_breaks_41 : decode cX3_breaks 41 = .ok (.getfield 9, 3) := by decide +kernel
theorem dX3_breaks_44 : decode cX3_breaks 44 = .ok (.iload 5, 2) := by decide +kernel
theorem dX3_breaks_46 : decode cX3_breaks 46 = .ok (.iaload, 1) := by decide +kernel
theorem dX3_breaks_47 : decode cX3_breaks 47 = .ok (.bipush 30, 2) := by decide +kernel
theorem dX3_breaks_49 : decode cX3_breaks 49 = .ok (.idiv, 1) := by decide +kernel
theorem dX3_breaks_50 : decode cX3_breaks 50 = .ok (.istore 6, 2) := by decide +kernel
theorem dX3_breaks_52 : decode cX3_breaks 52 = .ok (.aload_n 0, 1) := by decide +kernel
theorem dX3_breaks_53 : decode cX3_breaks 53 = .ok (.getfield 37, 3) := by decide +kernel
theorem dX3_breaks_56 : decode cX3_breaks 56 = .ok (.iload 6, 2) := by decide +kernel
theorem dX3_breaks_58 : decode cX3_breaks 58 = .ok (.invokevirtual 72, 3) := by decide +kernel
theorem dX3_breaks_61 : decode cX3_breaks 61 = .ok (.iload_n 2, 1) := by decide +kernel
theorem dX3_breaks_62 : decode cX3_breaks 62 = .ok (.if_icmp .eq 6, 3) := by decide +kernel
theorem dX3_breaks_65 : decode cX3_breaks 65 = .ok (.goto 41, 3) := by decide +kernel
theorem dX3_breaks_68 : decode cX3_breaks 68 = .ok (.aload_n 0, 1) := by decide +kernel
theorem dX3_breaks_69 : decode cX3_breaks 69 = .ok (.getfield 41, 3) := by decide +kernel
theorem dX3_breaks_72 : decode cX3_breaks 72 = .ok (.aload_n 0, 1) := by decide +kernel
theorem dX3_breaks_73 : decode cX3_breaks 73 = .ok (.getfield 9, 3) := by decide +kernel
theorem dX3_breaks_76 : decode cX3_breaks 76 = .ok (.iload 5, 2) := by decide +kernel
theorem dX3_breaks_78 : decode cX3_breaks 78 = .ok (.iaload, 1) := by decide +kernel
theorem dX3_breaks_79 : decode cX3_breaks 79 = .ok (.bipush 30, 2) := by decide +kernel
theorem dX3_breaks_81 : decode cX3_breaks 81 = .ok (.irem, 1) := by decide +kernel
theorem dX3_breaks_82 : decode cX3_breaks 82 = .ok (.iload_n 2, 1) := by decide +kernel
theorem dX3_breaks_83 : decode cX3_breaks 83 = .ok (.invokevirtual 76, 3) := by decide +kernel
theorem dX3_breaks_86 : decode cX3_breaks 86 = .ok (.istore 7, 2) := by decide +kernel
theorem dX3_breaks_88 : decode cX3_breaks 88 = .ok (.iload 7, 2) := by decide +kernel
theorem dX3_breaks_90 : decode cX3_breaks 90 = .ok (.iconst (-1), 1) := by decide +kernel
theorem dX3_breaks_91 : decode cX3_breaks 91 = .ok (.if_icmp .ne 5, 3) := by decide +kernel
theorem dX3_breaks_94 : decode cX3_breaks 94 = .ok (.iconst 1, 1) := by decide +kernel
theorem dX3_breaks_95 : decode cX3_breaks 95 = .ok (.ireturn, 1) := by decide +kernel
theorem dX3_breaks_96 : decode cX3_breaks 96 = .ok (.aload_n 0, 1) := by decide +kernel
theorem dX3_breaks_97 : decode cX3_breaks 97 = .ok (.iload 6, 2) := by decide +kernel
theorem dX3_breaks_99 : decode cX3_breaks 99 = .ok (.iconst 1, 1) := by decide +kernel
theorem dX3_breaks_100 : decode cX3_breaks 100 = .ok (.iadd, 1) := by decide +kernel
theorem dX3_breaks_101 : decode cX3_breaks 101 = .ok (.iload 7, 2) := by decide +kernel
theorem dX3_breaks_103 : decode cX3_breaks 103 = .ok (.invokevirtual 58, 3) := by decide +kernel
theorem dX3_breaks_106 : decode cX3_breaks 106 = .ok (.iinc 5 1, 3) := by decide +kernel
theorem dX3_breaks_109 : decode cX3_breaks 109 = .ok (.goto (-89), 3) := by decide +kernel
theorem dX3_breaks_112 : decode cX3_breaks 112 = .ok (.iconst 0, 1) := by decide +kernel
theorem dX3_breaks_113 : decode cX3_breaks 113 = .ok (.ireturn, 1) := by decide +kernel
theorem dX3_meet_0 : decode cX3_meet 0 = .ok (.iload_n 1, 1) := by decide +kernel
theorem dX3_meet_1 : decode cX3_meet 1 = .ok (.ifCond .lt 20, 3) := by decide +kernel
theorem dX3_meet_4 : decode cX3_meet 4 = .ok (.iload_n 1, 1) := by decide +kernel
theorem dX3_meet_5 : decode cX3_meet 5 = .ok (.sipush 200, 3) := by decide +kernel
theorem dX3_meet_8 : decode cX3_meet 8 = .ok (.if_icmp .gt 13, 3) := by decide +kernel
theorem dX3_meet_11 : decode cX3_meet 11 = .ok (.iload_n 2, 1) := by decide +kernel
theorem dX3_meet_12 : decode cX3_meet 12 = .ok (.ifCond .lt 9, 3) := by decide +kernel
theorem dX3_meet_15 : decode cX3_meet 15 = .ok (.iload_n 2, 1) := by decide +kernel
theorem dX3_meet_16 : decode cX3_meet 16 = .ok (.bipush 30, 2) := by decide +kernel
theorem dX3_meet_18 : decode cX3_meet 18 = .ok (.if_icmp .lt 4, 3) := by decide +kernel
theorem dX3_meet_21 : decode cX3_meet 21 = .ok (.return_, 1) := by decide +kernel
theorem dX3_meet_22 : decode cX3_meet 22 = .ok (.iload_n 1, 1) := by decide +kernel
theorem dX3_meet_23 : decode cX3_meet 23 = .ok (.bipush 30, 2) := by decide +kernel
theorem dX3_meet_25 : decode cX3_meet 25 = .ok (.imul, 1) := by decide +kernel
theorem dX3_meet_26 : decode cX3_meet 26 = .ok (.iload_n 2, 1) := by decide +kernel
theorem dX3_meet_27 : decode cX3_meet 27 = .ok (.iadd, 1) := by decide +kernel
theorem dX3_meet_28 : decode cX3_meet 28 = .ok (.istore_n 3, 1) := by decide +kernel
theorem dX3_meet_29 : decode cX3_meet 29 = .ok (.aload_n 0, 1) := by decide +kernel
theorem dX3_meet_30 : decode cX3_meet 30 = .ok (.getfield 15, 3) := by decide +kernel
theorem dX3_meet_33 : decode cX3_meet 33 = .ok (.iload_n 3, 1) := by decide +kernel
theorem dX3_meet_34 : decode cX3_meet 34 = .ok (.baload, 1) := by decide +kernel
theorem dX3_meet_35 : decode cX3_meet 35 = .ok (.ifCond .ne 40, 3) := by decide +kernel
theorem dX3_meet_38 : decode cX3_meet 38 = .ok (.aload_n 0, 1) := by decide +kernel
theorem dX3_meet_39 : decode cX3_meet 39 = .ok (.getfield 51, 3) := by decide +kernel
theorem dX3_meet_42 : decode cX3_meet 42 = .ok (.sipush 6030, 3) := by decide +kernel
theorem dX3_meet_45 : decode cX3_meet 45 = .ok (.if_icmp .ge 30, 3) := by decide +kernel
theorem dX3_meet_48 : decode cX3_meet 48 = .ok (.aload_n 0, 1) := by decide +kernel
theorem dX3_meet_49 : decode cX3_meet 49 = .ok (.getfield 15, 3) := by decide +kernel
theorem dX3_meet_52 : decode cX3_meet 52 = .ok (.iload_n 3, 1) := by decide +kernel
theorem dX3_meet_53 : decode cX3_meet 53 = .ok (.iconst 1, 1) := by decide +kernel
theorem dX3_meet_54 : decode cX3_meet 54 = .ok (.bastore, 1) := by decide +kernel
theorem dX3_meet_55 : decode cX3_meet 55 = .ok (.aload_n 0, 1) := by decide +kernel
theorem dX3_meet_56 : decode cX3_meet 56 = .ok (.getfield 9, 3) := by decide +kernel
theorem dX3_meet_59 : decode cX3_meet 59 = .ok (.aload_n 0, 1) := by decide +kernel
theorem dX3_meet_60 : decode cX3_meet 60 = .ok (.getfield 51, 3) := by decide +kernel
theorem dX3_meet_63 : decode cX3_meet 63 = .ok (.iload_n 3, 1) := by decide +kernel
theorem dX3_meet_64 : decode cX3_meet 64 = .ok (.iastore, 1) := by decide +kernel
theorem dX3_meet_65 : decode cX3_meet 65 = .ok (.aload_n 0, 1) := by decide +kernel
theorem dX3_meet_66 : decode cX3_meet 66 = .ok (.dup, 1) := by decide +kernel
theorem dX3_meet_67 : decode cX3_meet 67 = .ok (.getfield 51, 3) := by decide +kernel
theorem dX3_meet_70 : decode cX3_meet 70 = .ok (.iconst 1, 1) := by decide +kernel
theorem dX3_meet_71 : decode cX3_meet 71 = .ok (.iadd, 1) := by decide +kernel
theorem dX3_meet_72 : decode cX3_meet 72 = .ok (.putfield 51, 3) := by decide +kernel
theorem dX3_meet_75 : decode cX3_meet 75 = .ok (.return_, 1) := by decide +kernel
theorem dX3_closeGroup_0 : decode cX3_closeGroup 0 = .ok (.aload_n 0, 1) := by decide +kernel
theorem dX3_closeGroup_1 : decode cX3_closeGroup 1 = .ok (.getfield 54, 3) := by decide +kernel
theorem dX3_closeGroup_4 : decode cX3_closeGroup 4 = .ok (.ifCond .ne 7, 3) := by decide +kernel
theorem dX3_closeGroup_7 : decode cX3_closeGroup 7 = .ok (.iconst 0, 1) := by decide +kernel
theorem dX3_closeGroup_8 : decode cX3_closeGroup 8 = .ok (.goto 12, 3) := by decide +kernel
theorem dX3_closeGroup_11 : decode cX3_closeGroup 11 = .ok (.aload_n 0, 1) := by decide +kernel
theorem dX3_closeGroup_12 : decode cX3_closeGroup 12 = .ok (.getfield 19, 3) := by decide +kernel
theorem dX3_closeGroup_15 : decode cX3_closeGroup 15 = .ok (.aload_n 0, 1) := by decide +kernel
theorem dX3_closeGroup_16 : decode cX3_closeGroup 16 = .ok (.getfield 54, 3) := by decide +kernel
theorem dX3_closeGroup_19 : decode cX3_closeGroup 19 = .ok (.iaload, 1) := by decide +kernel
theorem dX3_closeGroup_20 : decode cX3_closeGroup 20 = .ok (.istore_n 3, 1) := by decide +kernel
theorem dX3_closeGroup_21 : decode cX3_closeGroup 21 = .ok (.iload_n 3, 1) := by decide +kernel
theorem dX3_closeGroup_22 : decode cX3_closeGroup 22 = .ok (.aload_n 0, 1) := by decide +kernel
theorem dX3_closeGroup_23 : decode cX3_closeGroup 23 = .ok (.getfield 51, 3) := by decide +kernel
theorem dX3_closeGroup_26 : decode cX3_closeGroup 26 = .ok (.if_icmp .eq 13, 3) := by decide +kernel
theorem dX3_closeGroup_29 : decode cX3_closeGroup 29 = .ok (.aload_n 0, 1) := by decide +kernel
theorem dX3_closeGroup_30 : decode cX3_closeGroup 30 = .ok (.getfield 54, 3) := by decide +kernel
theorem dX3_closeGroup_33 : decode cX3_closeGroup 33 = .ok (.sipush 6030, 3) := by decide +kernel
theorem dX3_closeGroup_36 : decode cX3_closeGroup 36 = .ok (.if_icmp .lt 4, 3) := by decide +kernel
theorem dX3_closeGroup_39 : decode cX3_closeGroup 39 = .ok (.return_, 1) := by decide +kernel
theorem dX3_closeGroup_40 : decode cX3_closeGroup 40 = .ok (.iload_n 3, 1) := by decide +kernel
theorem dX3_closeGroup_41 : decode cX3_closeGroup 41 = .ok (.istore 4, 2) := by decide +kernel
theorem dX3_closeGroup_43 : decode cX3_closeGroup 43 = .ok (.iload 4, 2) := by decide +kernel
theorem dX3_closeGroup_45 : decode cX3_closeGroup 45 = .ok (.aload_n 0, 1) := by decide +kernel
theorem dX3_closeGroup_46 : decode cX3_closeGroup 46 = .ok (.getfield 51, 3) := by decide +kernel
theorem dX3_closeGroup_49 : decode cX3_closeGroup 49 = .ok (.if_icmp .ge 41, 3) := by decide +kernel
theorem dX3_closeGroup_52 : decode cX3_closeGroup 52 = .ok (.iload 4, 2) := by decide +kernel
theorem dX3_closeGroup_54 : decode cX3_closeGroup 54 = .ok (.sipush 6030, 3) := by decide +kernel
theorem dX3_closeGroup_57 : decode cX3_closeGroup 57 = .ok (.if_icmp .ge 33, 3) := by decide +kernel
theorem dX3_closeGroup_60 : decode cX3_closeGroup 60 = .ok (.aload_n 0, 1) := by decide +kernel
theorem dX3_closeGroup_61 : decode cX3_closeGroup 61 = .ok (.aload_n 0, 1) := by decide +kernel
theorem dX3_closeGroup_62 : decode cX3_closeGroup 62 = .ok (.getfield 9, 3) := by decide +kernel
theorem dX3_closeGroup_65 : decode cX3_closeGroup 65 = .ok (.iload 4, 2) := by decide +kernel
theorem dX3_closeGroup_67 : decode cX3_closeGroup 67 = .ok (.iaload, 1) := by decide +kernel
theorem dX3_closeGroup_68 : decode cX3_closeGroup 68 = .ok (.bipush 30, 2) := by decide +kernel
theorem dX3_closeGroup_70 : decode cX3_closeGroup 70 = .ok (.idiv, 1) := by decide +kernel
theorem dX3_closeGroup_71 : decode cX3_closeGroup 71 = .ok (.aload_n 0, 1) := by decide +kernel
theorem dX3_closeGroup_72 : decode cX3_closeGroup 72 = .ok (.getfield 9, 3) := by decide +kernel
theorem dX3_closeGroup_75 : decode cX3_closeGroup 75 = .ok (.iload 4, 2) := by decide +kernel
theorem dX3_closeGroup_77 : decode cX3_closeGroup 77 = .ok (.iaload, 1) := by decide +kernel
theorem dX3_closeGroup_78 : decode cX3_closeGroup 78 = .ok (.bipush 30, 2) := by decide +kernel
theorem dX3_closeGroup_80 : decode cX3_closeGroup 80 = .ok (.irem, 1) := by decide +kernel
theorem dX3_closeGroup_81 : decode cX3_closeGroup 81 = .ok (.invokevirtual 82, 3) := by decide +kernel
theorem dX3_closeGroup_84 : decode cX3_closeGroup 84 = .ok (.iinc 4 1, 3) := by decide +kernel
theorem dX3_closeGroup_87 : decode cX3_closeGroup 87 = .ok (.goto (-44), 3) := by decide +kernel
theorem dX3_closeGroup_90 : decode cX3_closeGroup 90 = .ok (.aload_n 0, 1) := by decide +kernel
theorem dX3_closeGroup_91 : decode cX3_closeGroup 91 = .ok (.getfield 19, 3) := by decide +kernel
theorem dX3_closeGroup_94 : decode cX3_closeGroup 94 = .ok (.aload_n 0, 1) := by decide +kernel
theorem dX3_closeGroup_95 : decode cX3_closeGroup 95 = .ok (.getfield 54, 3) := by decide +kernel
theorem dX3_closeGroup_98 : decode cX3_closeGroup 98 = .ok (.iload_n 3, 1) := by decide +kernel
theorem dX3_closeGroup_99 : decode cX3_closeGroup 99 = .ok (.iastore, 1) := by decide +kernel
theorem dX3_closeGroup_100 : decode cX3_closeGroup 100 = .ok (.aload_n 0, 1) := by decide +kernel
theorem dX3_closeGroup_101 : decode cX3_closeGroup 101 = .ok (.getfield 22, 3) := by decide +kernel
theorem dX3_closeGroup_104 : decode cX3_closeGroup 104 = .ok (.aload_n 0, 1) := by decide +kernel
theorem dX3_closeGroup_105 : decode cX3_closeGroup 105 = .ok (.getfield 54, 3) := by decide +kernel
theorem dX3_closeGroup_108 : decode cX3_closeGroup 108 = .ok (.iload_n 1, 1) := by decide +kernel
theorem dX3_closeGroup_109 : decode cX3_closeGroup 109 = .ok (.iastore, 1) := by decide +kernel
theorem dX3_closeGroup_110 : decode cX3_closeGroup 110 = .ok (.aload_n 0, 1) := by decide +kernel
theorem dX3_closeGroup_111 : decode cX3_closeGroup 111 = .ok (.getfield 25, 3) := by decide +kernel
theorem dX3_closeGroup_114 : decode cX3_closeGroup 114 = .ok (.aload_n 0, 1) := by decide +kernel
theorem dX3_closeGroup_115 : decode cX3_closeGroup 115 = .ok (.getfield 54, 3) := by decide +kernel
theorem dX3_closeGroup_118 : decode cX3_closeGroup 118 = .ok (.iload_n 2, 1) := by decide +kernel
theorem dX3_closeGroup_119 : decode cX3_closeGroup 119 = .ok (.iastore, 1) := by decide +kernel
theorem dX3_closeGroup_120 : decode cX3_closeGroup 120 = .ok (.aload_n 0, 1) := by decide +kernel
theorem dX3_closeGroup_121 : decode cX3_closeGroup 121 = .ok (.dup, 1) := by decide +kernel
theorem dX3_closeGroup_122 : decode cX3_closeGroup 122 = .ok (.getfield 54, 3) := by decide +kernel
theorem dX3_closeGroup_125 : decode cX3_closeGroup 125 = .ok (.iconst 1, 1) := by decide +kernel
theorem dX3_closeGroup_126 : decode cX3_closeGroup 126 = .ok (.iadd, 1) := by decide +kernel
theorem dX3_closeGroup_127 : decode cX3_closeGroup 127 = .ok (.putfield 54, 3) := by decide +kernel
theorem dX3_closeGroup_130 : decode cX3_closeGroup 130 = .ok (.aload_n 0, 1) := by decide +kernel
theorem dX3_closeGroup_131 : decode cX3_closeGroup 131 = .ok (.getfield 19, 3) := by decide +kernel
theorem dX3_closeGroup_134 : decode cX3_closeGroup 134 = .ok (.aload_n 0, 1) := by decide +kernel
theorem dX3_closeGroup_135 : decode cX3_closeGroup 135 = .ok (.getfield 54, 3) := by decide +kernel
theorem dX3_closeGroup_138 : decode cX3_closeGroup 138 = .ok (.aload_n 0, 1) := by decide +kernel
theorem dX3_closeGroup_139 : decode cX3_closeGroup 139 = .ok (.getfield 51, 3) := by decide +kernel
theorem dX3_closeGroup_142 : decode cX3_closeGroup 142 = .ok (.iastore, 1) := by decide +kernel
theorem dX3_closeGroup_143 : decode cX3_closeGroup 143 = .ok (.return_, 1) := by decide +kernel
theorem dX3_spread_0 : decode cX3_spread 0 = .ok (.iload_n 1, 1) := by decide +kernel
theorem dX3_spread_1 : decode cX3_spread 1 = .ok (.ifCond .lt 21, 3) := by decide +kernel
theorem dX3_spread_4 : decode cX3_spread 4 = .ok (.iload_n 1, 1) := by decide +kernel
theorem dX3_spread_5 : decode cX3_spread 5 = .ok (.aload_n 0, 1) := by decide +kernel
theorem dX3_spread_6 : decode cX3_spread 6 = .ok (.getfield 37, 3) := by decide +kernel
theorem dX3_spread_9 : decode cX3_spread 9 = .ok (.getfield 45, 3) := by decide +kernel
theorem dX3_spread_12 : decode cX3_spread 12 = .ok (.if_icmp .ge 10, 3) := by decide +kernel
theorem dX3_spread_15 : decode cX3_spread 15 = .ok (.iload_n 1, 1) := by decide +kernel
theorem dX3_spread_16 : decode cX3_spread 16 = .ok (.sipush 200, 3) := by decide +kernel
theorem dX3_spread_19 : decode cX3_spread 19 = .ok (.if_icmp .lt 4, 3) := by decide +kernel
theorem dX3_spread_22 : decode cX3_spread 22 = .ok (.return_, 1) := by decide +kernel
theorem dX3_spread_23 : decode cX3_spread 23 = .ok (.aload_n 0, 1) := by decide +kernel
theorem dX3_spread_24 : decode cX3_spread 24 = .ok (.getfield 37, 3) := by decide +kernel
theorem dX3_spread_27 : decode cX3_spread 27 = .ok (.getfield 85, 3) := by decide +kernel
theorem dX3_spread_30 : decode cX3_spread 30 = .ok (.iload_n 1, 1) := by decide +kernel
theorem dX3_spread_31 : decode cX3_spread 31 = .ok (.iaload, 1) := by decide +kernel
theorem dX3_spread_32 : decode cX3_spread 32 = .ok (.lookupswitch 124 #[(32, 44), (40, 55), (41, 81), (124, 64)], 44) := by decide +kernel
theorem dX3_spread_76 : decode cX3_spread 76 = .ok (.aload_n 0, 1) := by decide +kernel
theorem dX3_spread_77 : decode cX3_spread 77 = .ok (.iload_n 1, 1) := by decide +kernel
theorem dX3_spread_78 : decode cX3_spread 78 = .ok (.iconst 1, 1) := by decide +kernel
theorem dX3_spread_79 : decode cX3_spread 79 = .ok (.iadd, 1) := by decide +kernel
theorem dX3_spread_80 : decode cX3_spread 80 = .ok (.iload_n 2, 1) := by decide +kernel
theorem dX3_spread_81 : decode cX3_spread 81 = .ok (.invokevirtual 58, 3) := by decide +kernel
theorem dX3_spread_84 : decode cX3_spread 84 = .ok (.goto 72, 3) := by decide +kernel
theorem dX3_spread_87 : decode cX3_spread 87 = .ok (.aload_n 0, 1) := by decide +kernel
theorem dX3_spread_88 : decode cX3_spread 88 = .ok (.iload_n 1, 1) := by decide +kernel
theorem dX3_spread_89 : decode cX3_spread 89 = .ok (.iload_n 2, 1) := by decide +kernel
theorem dX3_spread_90 : decode cX3_spread 90 = .ok (.invokevirtual 87, 3) := by decide +kernel
theorem dX3_spread_93 : decode cX3_spread 93 = .ok (.goto 63, 3) := by decide +kernel
theorem dX3_spread_96 : decode cX3_spread 96 = .ok (.aload_n 0, 1) := by decide +kernel
theorem dX3_spread_97 : decode cX3_spread 97 = .ok (.aload_n 0, 1) := by decide +kernel
theorem dX3_spread_98 : decode cX3_spread 98 = .ok (.getfield 37, 3) := by decide +kernel
theorem dX3_spread_101 : decode cX3_spread 101 = .ok (.getfield 90, 3) := by decide +kernel
theorem dX3_spread_104 : decode cX3_spread 104 = .ok (.iload_n 1, 1) := by decide +kernel
theorem dX3_spread_105 : decode cX3_spread 105 = .ok (.iaload, 1) := by decide +kernel
theorem dX3_spread_106 : decode cX3_spread 106 = .ok (.iload_n 2, 1) := by decide +kernel
theorem dX3_spread_107 : decode cX3_spread 107 = .ok (.invokevirtual 58, 3) := by decide +kernel
theorem dX3_spread_110 : decode cX3_spread 110 = .ok (.goto 46, 3) := by decide +kernel
theorem dX3_spread_113 : decode cX3_spread 113 = .ok (.aload_n 0, 1) := by decide +kernel
theorem dX3_spread_114 : decode cX3_spread 114 = .ok (.aload_n 0, 1) := by decide +kernel
theorem dX3_spread_115 : decode cX3_spread 115 = .ok (.getfield 37, 3) := by decide +kernel
theorem dX3_spread_118 : decode cX3_spread 118 = .ok (.getfield 93, 3) := by decide +kernel
theorem dX3_spread_121 : decode cX3_spread 121 = .ok (.iload_n 1, 1) := by decide +kernel
theorem dX3_spread_122 : decode cX3_spread 122 = .ok (.iaload, 1) := by decide +kernel
theorem dX3_spread_123 : decode cX3_spread 123 = .ok (.iload_n 2, 1) := by decide +kernel
theorem dX3_spread_124 : decode cX3_spread 124 = .ok (.invokevirtual 58, 3) := by decide +kernel
theorem dX3_spread_127 : decode cX3_spread 127 = .ok (.aload_n 0, 1) := by decide +kernel
theorem dX3_spread_128 : decode cX3_spread 128 = .ok (.getfield 37, 3) := by decide +kernel
theorem dX3_spread_131 : decode cX3_spread 131 = .ok (.getfield 96, 3) := by decide +kernel
theorem dX3_spread_134 : decode cX3_spread 134 = .ok (.iload_n 1, 1) := by decide +kernel
theorem dX3_spread_135 : decode cX3_spread 135 = .ok (.baload, 1) := by decide +kernel
theorem dX3_spread_136 : decode cX3_spread 136 = .ok (.ifCond .eq 20, 3) := by decide +kernel
theorem dX3_spread_139 : decode cX3_spread 139 = .ok (.aload_n 0, 1) := by decide +kernel
theorem dX3_spread_140 : decode cX3_spread 140 = .ok (.aload_n 0, 1) := by decide +kernel
theorem dX3_spread_141 : decode cX3_spread 141 = .ok (.getfield 37, 3) := by decide +kernel
theorem dX3_spread_144 : decode cX3_spread 144 = .ok (.getfield 90, 3) := by decide +kernel
theorem dX3_spread_147 : decode cX3_spread 147 = .ok (.iload_n 1, 1) := by decide +kernel
theorem dX3_spread_148 : decode cX3_spread 148 = .ok (.iaload, 1) := by decide +kernel
theorem dX3_spread_149 : decode cX3_spread 149 = .ok (.iload_n 2, 1) := by decide +kernel
theorem dX3_spread_150 : decode cX3_spread 150 = .ok (.invokevirtual 58, 3) := by decide +kernel
theorem dX3_spread_153 : decode cX3_spread 153 = .ok (.goto 3, 3) := by decide +kernel
theorem dX3_spread_156 : decode cX3_spread 156 = .ok (.return_, 1) := by decide +kernel
theorem dX3_enterBracket_0 : decode cX3_enterBracket 0 = .ok (.aload_n 0, 1) := by decide +kernel
theorem dX3_enterBracket_1 : decode cX3_enterBracket 1 = .ok (.getfield 37, 3) := by decide +kernel
theorem dX3_enterBracket_4 : decode cX3_enterBracket 4 = .ok (.getfield 90, 3) := by decide +kernel
theorem dX3_enterBracket_7 : decode cX3_enterBracket 7 = .ok (.iload_n 1, 1) := by decide +kernel
theorem dX3_enterBracket_8 : decode cX3_enterBracket 8 = .ok (.iaload, 1) := by decide +kernel
theorem dX3_enterBracket_9 : decode cX3_enterBracket 9 = .ok (.istore_n 3, 1) := by decide +kernel
theorem dX3_enterBracket_10 : decode cX3_enterBracket 10 = .ok (.iload_n 1, 1) := by decide +kernel
theorem dX3_enterBracket_11 : decode cX3_enterBracket 11 = .ok (.istore 4, 2) := by decide +kernel
theorem dX3_enterBracket_13 : decode cX3_enterBracket 13 = .ok (.iconst 0, 1) := by decide +kernel
theorem dX3_enterBracket_14 : decode cX3_enterBracket 14 = .ok (.istore 5, 2) := by decide +kernel
theorem dX3_enterBracket_16 : decode cX3_enterBracket 16 = .ok (.iload 5, 2) := by decide +kernel
theorem dX3_enterBracket_18 : decode cX3_enterBracket 18 = .ok (.sipush 200, 3) := by decide +kernel
theorem dX3_enterBracket_21 : decode cX3_enterBracket 21 = .ok (.if_icmp .ge 49, 3) := by decide +kernel
theorem dX3_enterBracket_24 : decode cX3_enterBracket 24 = .ok (.iload 4, 2) := by decide +kernel
theorem dX3_enterBracket_26 : decode cX3_enterBracket 26 = .ok (.ifCond .lt 44, 3) := by decide +kernel
theorem dX3_enterBracket_29 : decode cX3_enterBracket 29 = .ok (.iload 4, 2) := by decide +kernel
theorem dX3_enterBracket_31 : decode cX3_enterBracket 31 = .ok (.iload_n 3, 1) := by decide +kernel
theorem dX3_enterBracket_32 : decode cX3_enterBracket 32 = .ok (.if_icmp .ge 38, 3) := by decide +kernel
theorem dX3_enterBracket_35 : decode cX3_enterBracket 35 = .ok (.iload 4, 2) := by decide +kernel
theorem dX3_enterBracket_37 : decode cX3_enterBracket 37 = .ok (.sipush 200, 3) := by decide +kernel
theorem dX3_enterBracket_40 : decode cX3_enterBracket 40 = .ok (.if_icmp .ge 30, 3) := by decide +kernel
theorem dX3_enterBracket_43 : decode cX3_enterBracket 43 = .ok (.aload_n 0, 1) := by decide +kernel
theorem dX3_enterBracket_44 : decode cX3_enterBracket 44 = .ok (.iload 4, 2) := by decide +kernel
theorem dX3_enterBracket_46 : decode cX3_enterBracket 46 = .ok (.iconst 1, 1) := by decide +kernel
theorem dX3_enterBracket_47 : decode cX3_enterBracket 47 = .ok (.iadd, 1) := by decide +kernel
theorem dX3_enterBracket_48 : decode cX3_enterBracket 48 = .ok (.iload_n 2, 1) := by decide +kernel
theorem dX3_enterBracket_49 : decode cX3_enterBracket 49 = .ok (.invokevirtual 58, 3) := by decide +kernel
theorem dX3_enterBracket_52 : decode cX3_enterBracket 52 = .ok (.aload_n 0, 1) := by decide +kernel
theorem dX3_enterBracket_53 : decode cX3_enterBracket 53 = .ok (.getfield 37, 3) := by decide +kernel
theorem dX3_enterBracket_56 : decode cX3_enterBracket 56 = .ok (.getfield 99, 3) := by decide +kernel
theorem dX3_enterBracket_59 : decode cX3_enterBracket 59 = .ok (.iload 4, 2) := by decide +kernel
theorem dX3_enterBracket_61 : decode cX3_enterBracket 61 = .ok (.iaload, 1) := by decide +kernel
theorem dX3_enterBracket_62 : decode cX3_enterBracket 62 = .ok (.istore 4, 2) := by decide +kernel
theorem dX3_enterBracket_64 : decode cX3_enterBracket 64 = .ok (.iinc 5 1, 3) := by decide +kernel
theorem dX3_enterBracket_67 : decode cX3_enterBracket 67 = .ok (.goto (-51), 3) := by decide +kernel
theorem dX3_enterBracket_70 : decode cX3_enterBracket 70 = .ok (.iload_n 3, 1) := by decide +kernel
theorem dX3_enterBracket_71 : decode cX3_enterBracket 71 = .ok (.ifCond .lt 36, 3) := by decide +kernel
theorem dX3_enterBracket_74 : decode cX3_enterBracket 74 = .ok (.iload_n 3, 1) := by decide +kernel
theorem dX3_enterBracket_75 : decode cX3_enterBracket 75 = .ok (.sipush 200, 3) := by decide +kernel
theorem dX3_enterBracket_78 : decode cX3_enterBracket 78 = .ok (.if_icmp .ge 29, 3) := by decide +kernel
theorem dX3_enterBracket_81 : decode cX3_enterBracket 81 = .ok (.aload_n 0, 1) := by decide +kernel
theorem dX3_enterBracket_82 : decode cX3_enterBracket 82 = .ok (.getfield 37, 3) := by decide +kernel
theorem dX3_enterBracket_85 : decode cX3_enterBracket 85 = .ok (.getfield 96, 3) := by decide +kernel
theorem dX3_enterBracket_88 : decode cX3_enterBracket 88 = .ok (.iload_n 3, 1) := by decide +kernel
theorem dX3_enterBracket_89 : decode cX3_enterBracket 89 = .ok (.baload, 1) := by decide +kernel
theorem dX3_enterBracket_90 : decode cX3_enterBracket 90 = .ok (.ifCond .eq 17, 3) := by decide +kernel
theorem dX3_enterBracket_93 : decode cX3_enterBracket 93 = .ok (.aload_n 0, 1) := by decide +kernel
theorem dX3_enterBracket_94 : decode cX3_enterBracket 94 = .ok (.aload_n 0, 1) := by decide +kernel
theorem dX3_enterBracket_95 : decode cX3_enterBracket 95 = .ok (.getfield 37, 3) := by decide +kernel
theorem dX3_enterBracket_98 : decode cX3_enterBracket 98 = .ok (.getfield 93, 3) := by decide +kernel
theorem dX3_enterBracket_101 : decode cX3_enterBracket 101 = .ok (.iload_n 3, 1) := by decide +kernel
theorem dX3_enterBracket_102 : decode cX3_enterBracket 102 = .ok (.iaload, 1) := by decide +kernel
theorem dX3_enterBracket_103 : decode cX3_enterBracket 103 = .ok (.iload_n 2, 1) := by decide +kernel
theorem dX3_enterBracket_104 : decode cX3_enterBracket 104 = .ok (.invokevirtual 58, 3) := by decide +kernel
theorem dX3_enterBracket_107 : decode cX3_enterBracket 107 = .ok (.return_, 1) := by decide +kernel
theorem dX3_writeBreak_0 : decode cX3_writeBreak 0 = .ok (.aload_n 0, 1) := by decide +kernel
theorem dX3_writeBreak_1 : decode cX3_writeBreak 1 = .ok (.getfield 33, 3) := by decide +kernel
theorem dX3_writeBreak_4 : decode cX3_writeBreak 4 = .ok (.iload_n 2, 1) := by decide +kernel
theorem dX3_writeBreak_5 : decode cX3_writeBreak 5 = .ok (.invokevirtual 102, 3) := by decide +kernel
theorem dX3_writeBreak_8 : decode cX3_writeBreak 8 = .ok (.pop, 1) := by decide +kernel
theorem dX3_writeBreak_9 : decode cX3_writeBreak 9 = .ok (.iload_n 1, 1) := by decide +kernel
theorem dX3_writeBreak_10 : decode cX3_writeBreak 10 = .ok (.istore_n 3, 1) := by decide +kernel
theorem dX3_writeBreak_11 : decode cX3_writeBreak 11 = .ok (.iconst 0, 1) := by decide +kernel
theorem dX3_writeBreak_12 : decode cX3_writeBreak 12 = .ok (.istore 4, 2) := by decide +kernel
theorem dX3_writeBreak_14 : decode cX3_writeBreak 14 = .ok (.iload 4, 2) := by decide +kernel
theorem dX3_writeBreak_16 : decode cX3_writeBreak 16 = .ok (.sipush 6030, 3) := by decide +kernel
theorem dX3_writeBreak_19 : decode cX3_writeBreak 19 = .ok (.if_icmp .ge 41, 3) := by decide +kernel
theorem dX3_writeBreak_22 : decode cX3_writeBreak 22 = .ok (.iload_n 3, 1) := by decide +kernel
theorem dX3_writeBreak_23 : decode cX3_writeBreak 23 = .ok (.ifCond .le 37, 3) := by decide +kernel
theorem dX3_writeBreak_26 : decode cX3_writeBreak 26 = .ok (.iload_n 3, 1) := by decide +kernel
theorem dX3_writeBreak_27 : decode cX3_writeBreak 27 = .ok (.sipush 6030, 3) := by decide +kernel
theorem dX3_writeBreak_30 : decode cX3_writeBreak 30 = .ok (.if_icmp .ge 30, 3) := by decide +kernel
theorem dX3_writeBreak_33 : decode cX3_writeBreak 33 = .ok (.aload_n 0, 1) := by decide +kernel
theorem dX3_writeBreak_34 : decode cX3_writeBreak 34 = .ok (.getfield 33, 3) := by decide +kernel
theorem dX3_writeBreak_37 : decode cX3_writeBreak 37 = .ok (.aload_n 0, 1) := by decide +kernel
theorem dX3_writeBreak_38 : decode cX3_writeBreak 38 = .ok (.getfield 25, 3) := by decide +kernel
theorem dX3_writeBreak_41 : decode cX3_writeBreak 41 = .ok (.iload_n 3, 1) := by decide +kernel
theorem dX3_writeBreak_42 : decode cX3_writeBreak 42 = .ok (.iaload, 1) := by decide +kernel
theorem dX3_writeBreak_43 : decode cX3_writeBreak 43 = .ok (.invokevirtual 102, 3) := by decide +kernel
theorem dX3_writeBreak_46 : decode cX3_writeBreak 46 = .ok (.pop, 1) := by decide +kernel
theorem dX3_writeBreak_47 : decode cX3_writeBreak 47 = .ok (.aload_n 0, 1) := by decide +kernel
theorem dX3_writeBreak_48 : decode cX3_writeBreak 48 = .ok (.getfield 22, 3) := by decide +kernel
theorem dX3_writeBreak_51 : decode cX3_writeBreak 51 = .ok (.iload_n 3, 1) := by decide +kernel
theorem dX3_writeBreak_52 : decode cX3_writeBreak 52 = .ok (.iaload, 1) := by decide +kernel
theorem dX3_writeBreak_53 : decode cX3_writeBreak 53 = .ok (.istore_n 3, 1) := by decide +kernel
theorem dX3_writeBreak_54 : decode cX3_writeBreak 54 = .ok (.iinc 4 1, 3) := by decide +kernel
theorem dX3_writeBreak_57 : decode cX3_writeBreak 57 = .ok (.goto (-43), 3) := by decide +kernel
theorem dX3_writeBreak_60 : decode cX3_writeBreak 60 = .ok (.aload_n 0, 1) := by decide +kernel
theorem dX3_writeBreak_61 : decode cX3_writeBreak 61 = .ok (.getfield 33, 3) := by decide +kernel
theorem dX3_writeBreak_64 : decode cX3_writeBreak 64 = .ok (.invokevirtual 106, 3) := by decide +kernel
theorem dX3_writeBreak_67 : decode cX3_writeBreak 67 = .ok (.return_, 1) := by decide +kernel
theorem dX4_init_0 : decode cX4_init 0 = .ok (.aload_n 0, 1) := by decide +kernel
theorem dX4_init_1 : decode cX4_init 1 = .ok (.invokespecial 3, 3) := by decide +kernel
theorem dX4_init_4 : decode cX4_init 4 = .ok (.aload_n 0, 1) := by decide +kernel
theorem dX4_init_5 : decode cX4_init 5 = .ok (.sipush 240, 3) := by decide +kernel
theorem dX4_init_8 : decode cX4_init 8 = .ok (.newarray .int, 2) := by decide +kernel
theorem dX4_init_10 : decode cX4_init 10 = .ok (.putfield 9, 3) := by decide +kernel
theorem dX4_init_13 : decode cX4_init 13 = .ok (.aload_n 0, 1) := by decide +kernel
theorem dX4_init_14 : decode cX4_init 14 = .ok (.sipush 240, 3) := by decide +kernel
theorem dX4_init_17 : decode cX4_init 17 = .ok (.newarray .int, 2) := by decide +kernel
theorem dX4_init_19 : decode cX4_init 19 = .ok (.putfield 15, 3) := by decide +kernel
theorem dX4_init_22 : decode cX4_init 22 = .ok (.aload_n 0, 1) := by decide +kernel
theorem dX4_init_23 : decode cX4_init 23 = .ok (.getfield 9, 3) := by decide +kernel
theorem dX4_init_26 : decode cX4_init 26 = .ok (.iconst (-1), 1) := by decide +kernel
theorem dX4_init_27 : decode cX4_init 27 = .ok (.invokestatic 18, 3) := by decide +kernel
theorem dX4_init_30 : decode cX4_init 30 = .ok (.aload_n 0, 1) := by decide +kernel
theorem dX4_init_31 : decode cX4_init 31 = .ok (.iconst 1, 1) := by decide +kernel
theorem dX4_init_32 : decode cX4_init 32 = .ok (.putfield 24, 3) := by decide +kernel
theorem dX4_init_35 : decode cX4_init 35 = .ok (.return_, 1) := by decide +kernel
theorem dX4_clear_0 : decode cX4_clear 0 = .ok (.aload_n 0, 1) := by decide +kernel
theorem dX4_clear_1 : decode cX4_clear 1 = .ok (.getfield 9, 3) := by decide +kernel
theorem dX4_clear_4 : decode cX4_clear 4 = .ok (.iconst (-1), 1) := by decide +kernel
theorem dX4_clear_5 : decode cX4_clear 5 = .ok (.invokestatic 18, 3) := by decide +kernel
theorem dX4_clear_8 : decode cX4_clear 8 = .ok (.aload_n 0, 1) := by decide +kernel
theorem dX4_clear_9 : decode cX4_clear 9 = .ok (.getfield 15, 3) := by decide +kernel
theorem dX4_clear_12 : decode cX4_clear 12 = .ok (.iconst 0, 1) := by decide +kernel
theorem dX4_clear_13 : decode cX4_clear 13 = .ok (.invokestatic 18, 3) := by decide +kernel
theorem dX4_clear_16 : decode cX4_clear 16 = .ok (.aload_n 0, 1) := by decide +kernel
theorem dX4_clear_17 : decode cX4_clear 17 = .ok (.iload_n 1, 1) := by decide +kernel
theorem dX4_clear_18 : decode cX4_clear 18 = .ok (.putfield 24, 3) := by decide +kernel
theorem dX4_clear_21 : decode cX4_clear 21 = .ok (.return_, 1) := by decide +kernel
theorem dX4_hasState_0 : decode cX4_hasState 0 = .ok (.iload_n 1, 1) := by decide +kernel
theorem dX4_hasState_1 : decode cX4_hasState 1 = .ok (.ifCond .lt 21, 3) := by decide +kernel
theorem dX4_hasState_4 : decode cX4_hasState 4 = .ok (.iload_n 1, 1) := by decide +kernel
theorem dX4_hasState_5 : decode cX4_hasState 5 = .ok (.aload_n 0, 1) := by decide +kernel
theorem dX4_hasState_6 : decode cX4_hasState 6 = .ok (.getfield 24, 3) := by decide +kernel
theorem dX4_hasState_9 : decode cX4_hasState 9 = .ok (.if_icmp .ge 13, 3) := by decide +kernel
theorem dX4_hasState_12 : decode cX4_hasState 12 = .ok (.iload_n 1, 1) := by decide +kernel
theorem dX4_hasState_13 : decode cX4_hasState 13 = .ok (.bipush 30, 2) := by decide +kernel
theorem dX4_hasState_15 : decode cX4_hasState 15 = .ok (.if_icmp .ge 7, 3) := by decide +kernel
theorem dX4_hasState_18 : decode cX4_hasState 18 = .ok (.iconst 1, 1) := by decide +kernel
theorem dX4_hasState_19 : decode cX4_hasState 19 = .ok (.goto 4, 3) := by decide +kernel
theorem dX4_hasState_22 : decode cX4_hasState 22 = .ok (.iconst 0, 1) := by decide +kernel
theorem dX4_hasState_23 : decode cX4_hasState 23 = .ok (.ireturn, 1) := by decide +kernel
theorem dX4_setStep_0 : decode cX4_setStep 0 = .ok (.aload_n 0, 1) := by decide +kernel
theorem dX4_setStep_1 : decode cX4_setStep 1 = .ok (.iload_n 1, 1) := by decide +kernel
theorem dX4_setStep_2 : decode cX4_setStep 2 = .ok (.invokevirtual 28, 3) := by decide +kernel
theorem dX4_setStep_5 : decode cX4_setStep 5 = .ok (.ifCond .eq 22, 3) := by decide +kernel
theorem dX4_setStep_8 : decode cX4_setStep 8 = .ok (.iload_n 2, 1) := by decide +kernel
theorem dX4_setStep_9 : decode cX4_setStep 9 = .ok (.invokestatic 32, 3) := by decide +kernel
theorem dX4_setStep_12 : decode cX4_setStep 12 = .ok (.ifCond .eq 15, 3) := by decide +kernel
theorem dX4_setStep_15 : decode cX4_setStep 15 = .ok (.aload_n 0, 1) := by decide +kernel
theorem dX4_setStep_16 : decode cX4_setStep 16 = .ok (.getfield 9, 3) := by decide +kernel
theorem dX4_setStep_19 : decode cX4_setStep 19 = .ok (.iload_n 1, 1) := by decide +kernel
theorem dX4_setStep_20 : decode cX4_setStep 20 = .ok (.bipush 8, 2) := by decide +kernel
theorem dX4_setStep_22 : decode cX4_setStep 22 = .ok (.imul, 1) := by decide +kernel
theorem dX4_setStep_23 : decode cX4_setStep 23 = .ok (.iload_n 2, 1) := by decide +kernel
theorem dX4_setStep_24 : decode cX4_setStep 24 = .ok (.iadd, 1) := by decide +kernel
theorem dX4_setStep_25 : decode cX4_setStep 25 = .ok (.iload_n 3, 1) := by decide +kernel
theorem dX4_setStep_26 : decode cX4_setStep 26 = .ok (.iastore, 1) := by decide +kernel
theorem dX4_setStep_27 : decode cX4_setStep 27 = .ok (.return_, 1) := by decide +kernel
theorem dX4_after_0 : decode cX4_after 0 = .ok (.aload_n 0, 1) := by decide +kernel
theorem dX4_after_1 : decode cX4_after 1 = .ok (.iload_n 1, 1) := by decide +kernel
theorem dX4_after_2 : decode cX4_after 2 = .ok (.invokevirtual 28, 3) := by decide +kernel
theorem dX4_after_5 : decode cX4_after 5 = .ok (.ifCond .eq 24, 3) := by decide +kernel
theorem dX4_after_8 : decode cX4_after 8 = .ok (.iload_n 2, 1) := by decide +kernel
theorem dX4_after_9 : decode cX4_after 9 = .ok (.invokestatic 32, 3) := by decide +kernel
theorem dX4_after_12 : decode cX4_after 12 = .ok (.ifCond .eq 17, 3) := by decide +kernel
theorem dX4_after_15 : decode cX4_after 15 = .ok (.aload_n 0, 1) := by decide +kernel
theorem dX4_after_16 : decode cX4_after 16 = .ok (.getfield 9, 3) := by decide +kernel
theorem dX4_after_19 : decode cX4_after 19 = .ok (.iload_n 1, 1) := by decide +kernel
theorem dX4_after_20 : decode cX4_after 20 = .ok (.bipush 8, 2) := by decide +kernel
theorem dX4_after_22 : decode cX4_after 22 = .ok (.imul, 1) := by decide +kernel
theorem dX4_after_23 : decode cX4_after 23 = .ok (.iload_n 2, 1) := by decide +kernel
theorem dX4_after_24 : decode cX4_after 24 = .ok (.iadd, 1) := by decide +kernel
theorem dX4_after_25 : decode cX4_after 25 = .ok (.iaload, 1) := by decide +kernel
theorem dX4_after_26 : decode cX4_after 26 = .ok (.goto 4, 3) := by decide +kernel
theorem dX4_after_29 : decode cX4_after 29 = .ok (.iconst (-1), 1) := by decide +kernel
theorem dX4_after_30 : decode cX4_after 30 = .ok (.ireturn, 1) := by decide +kernel
theorem dX4_timesOver_0 : decode cX4_timesOver 0 = .ok (.aload_n 0, 1) := by decide +kernel
theorem dX4_timesOver_1 : decode cX4_timesOver 1 = .ok (.iload_n 1, 1) := by decide +kernel
theorem dX4_timesOver_2 : decode cX4_timesOver 2 = .ok (.invokevirtual 28, 3) := by decide +kernel
theorem dX4_timesOver_5 : decode cX4_timesOver 5 = .ok (.ifCond .eq 24, 3) := by decide +kernel
theorem dX4_timesOver_8 : decode cX4_timesOver 8 = .ok (.iload_n 2, 1) := by decide +kernel
theorem dX4_timesOver_9 : decode cX4_timesOver 9 = .ok (.invokestatic 32, 3) := by decide +kernel
theorem dX4_timesOver_12 : decode cX4_timesOver 12 = .ok (.ifCond .eq 17, 3) := by decide +kernel
theorem dX4_timesOver_15 : decode cX4_timesOver 15 = .ok (.aload_n 0, 1) := by decide +kernel
theorem dX4_timesOver_16 : decode cX4_timesOver 16 = .ok (.getfield 15, 3) := by decide +kernel
theorem dX4_timesOver_19 : decode cX4_timesOver 19 = .ok (.iload_n 1, 1) := by decide +kernel
theorem dX4_timesOver_20 : decode cX4_timesOver 20 = .ok (.bipush 8, 2) := by decide +kernel
theorem dX4_timesOver_22 : decode cX4_timesOver 22 = .ok (.imul, 1) := by decide +kernel
theorem dX4_timesOver_23 : decode cX4_timesOver 23 = .ok (.iload_n 2, 1) := by decide +kernel
theorem dX4_timesOver_24 : decode cX4_timesOver 24 = .ok (.iadd, 1) := by decide +kernel
theorem dX4_timesOver_25 : decode cX4_timesOver 25 = .ok (.iaload, 1) := by decide +kernel
theorem dX4_timesOver_26 : decode cX4_timesOver 26 = .ok (.goto 4, 3) := by decide +kernel
theorem dX4_timesOver_29 : decode cX4_timesOver 29 = .ok (.iconst 0, 1) := by decide +kernel
theorem dX4_timesOver_30 : decode cX4_timesOver 30 = .ok (.ireturn, 1) := by decide +kernel
theorem dX4_countOver_0 : decode cX4_countOver 0 = .ok (.iconst 0, 1) := by decide +kernel
theorem dX4_countOver_1 : decode cX4_countOver 1 = .ok (.istore_n 3, 1) := by decide +kernel
theorem dX4_countOver_2 : decode cX4_countOver 2 = .ok (.iload_n 3, 1) := by decide +kernel
theorem dX4_countOver_3 : decode cX4_countOver 3 = .ok (.aload_n 1, 1) := by decide +kernel
theorem dX4_countOver_4 : decode cX4_countOver 4 = .ok (.getfield 35, 3) := by decide +kernel
theorem dX4_countOver_7 : decode cX4_countOver 7 = .ok (.if_icmp .ge 27, 3) := by decide +kernel
theorem dX4_countOver_10 : decode cX4_countOver 10 = .ok (.iload_n 3, 1) := by decide +kernel
theorem dX4_countOver_11 : decode cX4_countOver 11 = .ok (.bipush 60, 2) := by decide +kernel
theorem dX4_countOver_13 : decode cX4_countOver 13 = .ok (.if_icmp .ge 21, 3) := by decide +kernel
theorem dX4_countOver_16 : decode cX4_countOver 16 = .ok (.aload_n 0, 1) := by decide +kernel
theorem dX4_countOver_17 : decode cX4_countOver 17 = .ok (.aload_n 1, 1) := by decide +kernel
theorem dX4_countOver_18 : decode cX4_countOver 18 = .ok (.iload_n 3, 1) := by decide +kernel
theorem dX4_countOver_19 : decode cX4_countOver 19 = .ok (.aload_n 2, 1) := by decide +kernel
theorem dX4_countOver_20 : decode cX4_countOver 20 = .ok (.getfield 40, 3) := by decide +kernel
theorem dX4_countOver_23 : decode cX4_countOver 23 = .ok (.iload_n 3, 1) := by decide +kernel
theorem dX4_countOver_24 : decode cX4_countOver 24 = .ok (.iaload, 1) := by decide +kernel
theorem dX4_countOver_25 : decode cX4_countOver 25 = .ok (.invokevirtual 45, 3) := by decide +kernel
theorem dX4_countOver_28 : decode cX4_countOver 28 = .ok (.iinc 3 1, 3) := by decide +kernel
theorem dX4_countOver_31 : decode cX4_countOver 31 = .ok (.goto (-29), 3) := by decide +kernel
theorem dX4_countOver_34 : decode cX4_countOver 34 = .ok (.return_, 1) := by decide +kernel
theorem dX4_countRow_0 : decode cX4_countRow 0 = .ok (.iconst 0, 1) := by decide +kernel
theorem dX4_countRow_1 : decode cX4_countRow 1 = .ok (.istore 4, 2) := by decide +kernel
theorem dX4_countRow_3 : decode cX4_countRow 3 = .ok (.iconst 0, 1) := by decide +kernel
theorem dX4_countRow_4 : decode cX4_countRow 4 = .ok (.istore 5, 2) := by decide +kernel
theorem dX4_countRow_6 : decode cX4_countRow 6 = .ok (.iload 5, 2) := by decide +kernel
theorem dX4_countRow_8 : decode cX4_countRow 8 = .ok (.iload_n 3, 1) := by decide +kernel
theorem dX4_countRow_9 : decode cX4_countRow 9 = .ok (.if_icmp .ge 63, 3) := by decide +kernel
theorem dX4_countRow_12 : decode cX4_countRow 12 = .ok (.iload 5, 2) := by decide +kernel
theorem dX4_countRow_14 : decode cX4_countRow 14 = .ok (.bipush 12, 2) := by decide +kernel
theorem dX4_countRow_16 : decode cX4_countRow 16 = .ok (.if_icmp .ge 56, 3) := by decide +kernel
theorem dX4_countRow_19 : decode cX4_countRow 19 = .ok (.aload_n 1, 1) := by decide +kernel
theorem dX4_countRow_20 : decode cX4_countRow 20 = .ok (.iload_n 2, 1) := by decide +kernel
theorem dX4_countRow_21 : decode cX4_countRow 21 = .ok (.iload 5, 2) := by decide +kernel
theorem dX4_countRow_23 : decode cX4_countRow 23 = .ok (.invokevirtual 49, 3) := by decide +kernel
theorem dX4_countRow_26 : decode cX4_countRow 26 = .ok (.istore 6, 2) := by decide +kernel
theorem dX4_countRow_28 : decode cX4_countRow 28 = .ok (.aload_n 0, 1) := by decide +kernel
theorem dX4_countRow_29 : decode cX4_countRow 29 = .ok (.iload 4, 2) := by decide +kernel
theorem dX4_countRow_31 : decode cX4_countRow 31 = .ok (.iload 6, 2) := by decide +kernel
theorem dX4_countRow_33 : decode cX4_countRow 33 = .ok (.invokevirtual 53, 3) := by decide +kernel
theorem dX4_countRow_36 : decode cX4_countRow 36 = .ok (.istore 7, 2) := by decide +kernel
theorem dX4_countRow_38 : decode cX4_countRow 38 = .ok (.iload 7, 2) := by decide +kernel
theorem dX4_countRow_40 : decode cX4_countRow 40 = .ok (.iconst (-1), 1) := by decide +kernel
theorem dX4_countRow_41 : decode cX4_countRow 41 = .ok (.if_icmp .ne 4, 3) := by decide +kernel
theorem dX4_countRow_44 : decode cX4_countRow 44 = .ok (.return_, 1) := by decide +kernel
theorem dX4_countRow_45 : decode cX4_countRow 45 = .ok (.aload_n 0, 1) := by decide +kernel
theorem dX4_countRow_46 : decode cX4_countRow 46 = .ok (.getfield 15, 3) := by decide +kernel
theorem dX4_countRow_49 : decode cX4_countRow 49 = .ok (.iload 4, 2) := by decide +kernel
theorem dX4_countRow_51 : decode cX4_countRow 51 = .ok (.bipush 8, 2) := by decide +kernel
theorem dX4_countRow_53 : decode cX4_countRow 53 = .ok (.imul, 1) := by decide +kernel
theorem dX4_countRow_54 : decode cX4_countRow 54 = .ok (.iload 6, 2) := by decide +kernel
theorem dX4_countRow_56 : decode cX4_countRow 56 = .ok (.iadd, 1) := by decide +kernel
theorem dX4_countRow_57 : decode cX4_countRow 57 = .ok (.dup2, 1) := by decide +kernel
theorem dX4_countRow_58 : decode cX4_countRow 58 = .ok (.iaload, 1) := by decide +kernel
theorem dX4_countRow_59 : decode cX4_countRow 59 = .ok (.iconst 1, 1) := by decide +kernel
theorem dX4_countRow_60 : decode cX4_countRow 60 = .ok (.iadd, 1) := by decide +kernel
theorem dX4_countRow_61 : decode cX4_countRow 61 = .ok (.iastore, 1) := by decide +kernel
theorem dX4_countRow_62 : decode cX4_countRow 62 = .ok (.iload 7, 2) := by decide +kernel
theorem dX4_countRow_64 : decode cX4_countRow 64 = .ok (.istore 4, 2) := by decide +kernel
theorem dX4_countRow_66 : decode cX4_countRow 66 = .ok (.iinc 5 1, 3) := by decide +kernel
theorem dX4_countRow_69 : decode cX4_countRow 69 = .ok (.goto (-63), 3) := by decide +kernel
theorem dX4_countRow_72 : decode cX4_countRow 72 = .ok (.return_, 1) := by decide +kernel
theorem dX4_countSteps_0 : decode cX4_countSteps 0 = .ok (.iconst 0, 1) := by decide +kernel
theorem dX4_countSteps_1 : decode cX4_countSteps 1 = .ok (.istore_n 1, 1) := by decide +kernel
theorem dX4_countSteps_2 : decode cX4_countSteps 2 = .ok (.iconst 0, 1) := by decide +kernel
theorem dX4_countSteps_3 : decode cX4_countSteps 3 = .ok (.istore_n 2, 1) := by decide +kernel
theorem dX4_countSteps_4 : decode cX4_countSteps 4 = .ok (.iload_n 2, 1) := by decide +kernel
theorem dX4_countSteps_5 : decode cX4_countSteps 5 = .ok (.sipush 240, 3) := by decide +kernel
theorem dX4_countSteps_8 : decode cX4_countSteps 8 = .ok (.if_icmp .ge 27, 3) := by decide +kernel
theorem dX4_countSteps_11 : decode cX4_countSteps 11 = .ok (.iload_n 1, 1) := by decide +kernel
theorem dX4_countSteps_12 : decode cX4_countSteps 12 = .ok (.aload_n 0, 1) := by decide +kernel
theorem dX4_countSteps_13 : decode cX4_countSteps 13 = .ok (.getfield 9, 3) := by decide +kernel
theorem dX4_countSteps_16 : decode cX4_countSteps 16 = .ok (.iload_n 2, 1) := by decide +kernel
theorem dX4_countSteps_17 : decode cX4_countSteps 17 = .ok (.iaload, 1) := by decide +kernel
theorem dX4_countSteps_18 : decode cX4_countSteps 18 = .ok (.iconst (-1), 1) := by decide +kernel
theorem dX4_countSteps_19 : decode cX4_countSteps 19 = .ok (.if_icmp .eq 7, 3) := by decide +kernel
theorem dX4_countSteps_22 : decode cX4_countSteps 22 = .ok (.iconst 1, 1) := by decide +kernel
theorem dX4_countSteps_23 : decode cX4_countSteps 23 = .ok (.goto 4, 3) := by decide +kernel
theorem dX4_countSteps_26 : decode cX4_countSteps 26 = .ok (.iconst 0, 1) := by decide +kernel
theorem dX4_countSteps_27 : decode cX4_countSteps 27 = .ok (.iadd, 1) := by decide +kernel
theorem dX4_countSteps_28 : decode cX4_countSteps 28 = .ok (.istore_n 1, 1) := by decide +kernel
theorem dX4_countSteps_29 : decode cX4_countSteps 29 = .ok (.iinc 2 1, 3) := by decide +kernel
theorem dX4_countSteps_32 : decode cX4_countSteps 32 = .ok (.goto (-28), 3) := by decide +kernel
theorem dX4_countSteps_35 : decode cX4_countSteps 35 = .ok (.iload_n 1, 1) := by decide +kernel
theorem dX4_countSteps_36 : decode cX4_countSteps 36 = .ok (.ireturn, 1) := by decide +kernel
theorem dX4_stepsBelow_0 : decode cX4_stepsBelow 0 = .ok (.iconst 0, 1) := by decide +kernel
theorem dX4_stepsBelow_1 : decode cX4_stepsBelow 1 = .ok (.istore_n 2, 1) := by decide +kernel
theorem dX4_stepsBelow_2 : decode cX4_stepsBelow 2 = .ok (.iconst 0, 1) := by decide +kernel
theorem dX4_stepsBelow_3 : decode cX4_stepsBelow 3 = .ok (.istore_n 3, 1) := by decide +kernel
theorem dX4_stepsBelow_4 : decode cX4_stepsBelow 4 = .ok (.iload_n 3, 1) := by decide +kernel
theorem dX4_stepsBelow_5 : decode cX4_stepsBelow 5 = .ok (.sipush 240, 3) := by decide +kernel
theorem dX4_stepsBelow_8 : decode cX4_stepsBelow 8 = .ok (.if_icmp .ge 37, 3) := by decide +kernel
theorem dX4_stepsBelow_11 : decode cX4_stepsBelow 11 = .ok (.iload_n 2, 1) := by decide +kernel
theorem dX4_stepsBelow_12 : decode cX4_stepsBelow 12 = .ok (.aload_n 0, 1) := by decide +kernel
theorem dX4_stepsBelow_13 : decode cX4_stepsBelow 13 = .ok (.getfield 9, 3) := by decide +kernel
theorem dX4_stepsBelow_16 : decode cX4_stepsBelow 16 = .ok (.iload_n 3, 1) := by decide +kernel
theorem dX4_stepsBelow_17 : decode cX4_stepsBelow 17 = .ok (.iaload, 1) := by decide +kernel
theorem dX4_stepsBelow_18 : decode cX4_stepsBelow 18 = .ok (.iconst (-1), 1) := by decide +kernel
theorem dX4_stepsBelow_19 : decode cX4_stepsBelow 19 = .ok (.if_icmp .eq 17, 3) := by decide +kernel
theorem dX4_stepsBelow_22 : decode cX4_stepsBelow 22 = .ok (.aload_n 0, 1) := by decide +kernel
theorem dX4_stepsBelow_23 : decode cX4_stepsBelow 23 = .ok (.getfield 15, 3) := by decide +kernel
theorem dX4_stepsBelow_26 : decode cX4_stepsBelow 26 = .ok (.iload_n 3, 1) := by decide +kernel
theorem dX4_stepsBelow_27 : decode cX4_stepsBelow 27 = .ok (.iaload, 1) := by decide +kernel
theorem dX4_stepsBelow_28 : decode cX4_stepsBelow 28 = .ok (.iload_n 1, 1) := by decide +kernel
theorem dX4_stepsBelow_29 : decode cX4_stepsBelow 29 = .ok (.if_icmp .ge 7, 3) := by decide +kernel
theorem dX4_stepsBelow_32 : decode cX4_stepsBelow 32 = .ok (.iconst 1, 1) := by decide +kernel
theorem dX4_stepsBelow_33 : decode cX4_stepsBelow 33 = .ok (.goto 4, 3) := by decide +kernel
theorem dX4_stepsBelow_36 : decode cX4_stepsBelow 36 = .ok (.iconst 0, 1) := by decide +kernel
theorem dX4_stepsBelow_37 : decode cX4_stepsBelow 37 = .ok (.iadd, 1) := by decide +kernel
theorem dX4_stepsBelow_38 : decode cX4_stepsBelow 38 = .ok (.istore_n 2, 1) := by decide +kernel
theorem dX4_stepsBelow_39 : decode cX4_stepsBelow 39 = .ok (.iinc 3 1, 3) := by decide +kernel
theorem dX4_stepsBelow_42 : decode cX4_stepsBelow 42 = .ok (.goto (-38), 3) := by decide +kernel
theorem dX4_stepsBelow_45 : decode cX4_stepsBelow 45 = .ok (.iload_n 2, 1) := by decide +kernel
theorem dX4_stepsBelow_46 : decode cX4_stepsBelow 46 = .ok (.ireturn, 1) := by decide +kernel
theorem dX5_init_0 : decode cX5_init 0 = .ok (.aload_n 0, 1) := by decide +kernel
theorem dX5_init_1 : decode cX5_init 1 = .ok (.invokespecial 3, 3) := by decide +kernel
theorem dX5_init_4 : decode cX5_init 4 = .ok (.aload_n 0, 1) := by decide +kernel
theorem dX5_init_5 : decode cX5_init 5 = .ok (.iload_n 1, 1) := by decide +kernel
theorem dX5_init_6 : decode cX5_init 6 = .ok (.iconst 0, 1) := by decide +kernel
theorem dX5_init_7 : decode cX5_init 7 = .ok (.invokestatic 9, 3) := by decide +kernel
theorem dX5_init_10 : decode cX5_init 10 = .ok (.newarray .int, 2) := by decide +kernel
theorem dX5_init_12 : decode cX5_init 12 = .ok (.putfield 15, 3) := by decide +kernel
theorem dX5_init_15 : decode cX5_init 15 = .ok (.return_, 1) := by decide +kernel
theorem dX5_append_0 : decode cX5_append 0 = .ok (.aload_n 0, 1) := by decide +kernel
theorem dX5_append_1 : decode cX5_append 1 = .ok (.getfield 21, 3) := by decide +kernel
theorem dX5_append_4 : decode cX5_append 4 = .ok (.ifCond .lt 15, 3) := by decide +kernel
theorem dX5_append_7 : decode cX5_append 7 = .ok (.aload_n 0, 1) := by decide +kernel
theorem dX5_append_8 : decode cX5_append 8 = .ok (.getfield 21, 3) := by decide +kernel
theorem dX5_append_11 : decode cX5_append 11 = .ok (.aload_n 0, 1) := by decide +kernel
theorem dX5_append_12 : decode cX5_append 12 = .ok (.getfield 15, 3) := by decide +kernel
theorem dX5_append_15 : decode cX5_append 15 = .ok (.arraylength, 1) := by decide +kernel
theorem dX5_append_16 : decode cX5_append 16 = .ok (.if_icmp .lt 5, 3) := by decide +kernel
theorem dX5_append_19 : decode cX5_append 19 = .ok (.iconst 0, 1) := by decide +kernel
theorem dX5_append_20 : decode cX5_append 20 = .ok (.ireturn, 1) := by decide +kernel
theorem dX5_append_21 : decode cX5_append 21 = .ok (.aload_n 0, 1) := by decide +kernel
theorem dX5_append_22 : decode cX5_append 22 = .ok (.getfield 15, 3) := by decide +kernel
theorem dX5_append_25 : decode cX5_append 25 = .ok (.aload_n 0, 1) := by decide +kernel
theorem dX5_append_26 : decode cX5_append 26 = .ok (.getfield 21, 3) := by decide +kernel
theorem dX5_append_29 : decode cX5_append 29 = .ok (.iload_n 1, 1) := by decide +kernel
theorem dX5_append_30 : decode cX5_append 30 = .ok (.iastore, 1) := by decide +kernel
theorem dX5_append_31 : decode cX5_append 31 = .ok (.aload_n 0, 1) := by decide +kernel
theorem dX5_append_32 : decode cX5_append 32 = .ok (.dup, 1) := by decide +kernel
theorem dX5_append_33 : decode cX5_append 33 = .ok (.getfield 21, 3) := by decide +kernel
theorem dX5_append_36 : decode cX5_append 36 = .ok (.iconst 1, 1) := by decide +kernel
theorem dX5_append_37 : decode cX5_append 37 = .ok (.iadd, 1) := by decide +kernel
theorem dX5_append_38 : decode cX5_append 38 = .ok (.putfield 21, 3) := by decide +kernel
theorem dX5_append_41 : decode cX5_append 41 = .ok (.iconst 1, 1) := by decide +kernel
theorem dX5_append_42 : decode cX5_append 42 = .ok (.ireturn, 1) := by decide +kernel
theorem dX5_at_0 : decode cX5_at 0 = .ok (.iload_n 1, 1) := by decide +kernel
theorem dX5_at_1 : decode cX5_at 1 = .ok (.ifCond .lt 29, 3) := by decide +kernel
theorem dX5_at_4 : decode cX5_at 4 = .ok (.iload_n 1, 1) := by decide +kernel
theorem dX5_at_5 : decode cX5_at 5 = .ok (.aload_n 0, 1) := by decide +kernel
theorem dX5_at_6 : decode cX5_at 6 = .ok (.getfield 21, 3) := by decide +kernel
theorem dX5_at_9 : decode cX5_at 9 = .ok (.if_icmp .ge 21, 3) := by decide +kernel
theorem dX5_at_12 : decode cX5_at 12 = .ok (.iload_n 1, 1) := by decide +kernel
theorem dX5_at_13 : decode cX5_at 13 = .ok (.aload_n 0, 1) := by decide +kernel
theorem dX5_at_14 : decode cX5_at 14 = .ok (.getfield 15, 3) := by decide +kernel
theorem dX5_at_17 : decode cX5_at 17 = .ok (.arraylength, 1) := by decide +kernel
theorem dX5_at_18 : decode cX5_at 18 = .ok (.if_icmp .ge 12, 3) := by decide +kernel
theorem dX5_at_21 : decode cX5_at 21 = .ok (.aload_n 0, 1) := by decide +kernel
theorem dX5_at_22 : decode cX5_at 22 = .ok (.getfield 15, 3) := by decide +kernel
theorem dX5_at_25 : decode cX5_at 25 = .ok (.iload_n 1, 1) := by decide +kernel
theorem dX5_at_26 : decode cX5_at 26 = .ok (.iaload, 1) := by decide +kernel
theorem dX5_at_27 : decode cX5_at 27 = .ok (.goto 4, 3) := by decide +kernel
theorem dX5_at_30 : decode cX5_at 30 = .ok (.iconst (-1), 1) := by decide +kernel
theorem dX5_at_31 : decode cX5_at 31 = .ok (.ireturn, 1) := by decide +kernel
theorem dX5_turnRound_0 : decode cX5_turnRound 0 = .ok (.iconst 0, 1) := by decide +kernel
theorem dX5_turnRound_1 : decode cX5_turnRound 1 = .ok (.istore_n 1, 1) := by decide +kernel
theorem dX5_turnRound_2 : decode cX5_turnRound 2 = .ok (.aload_n 0, 1) := by decide +kernel
theorem dX5_turnRound_3 : decode cX5_turnRound 3 = .ok (.getfield 21, 3) := by decide +kernel
theorem dX5_turnRound_6 : decode cX5_turnRound 6 = .ok (.iconst 1, 1) := by decide +kernel
theorem dX5_turnRound_7 : decode cX5_turnRound 7 = .ok (.isub, 1) := by decide +kernel
theorem dX5_turnRound_8 : decode cX5_turnRound 8 = .ok (.istore_n 2, 1) := by decide +kernel
theorem dX5_turnRound_9 : decode cX5_turnRound 9 = .ok (.iload_n 1, 1) := by decide +kernel
theorem dX5_turnRound_10 : decode cX5_turnRound 10 = .ok (.iload_n 2, 1) := by decide +kernel
theorem dX5_turnRound_11 : decode cX5_turnRound 11 = .ok (.if_icmp .ge 47, 3) := by decide +kernel
theorem dX5_turnRound_14 : decode cX5_turnRound 14 = .ok (.iload_n 2, 1) := by decide +kernel
theorem dX5_turnRound_15 : decode cX5_turnRound 15 = .ok (.aload_n 0, 1) := by decide +kernel
theorem dX5_turnRound_16 : decode cX5_turnRound 16 = .ok (.getfield 15, 3) := by decide +kernel
theorem dX5_turnRound_19 : decode cX5_turnRound 19 = .ok (.arraylength, 1) := by decide +kernel
theorem dX5_turnRound_20 : decode cX5_turnRound 20 = .ok (.if_icmp .ge 38, 3) := by decide +kernel
theorem dX5_turnRound_23 : decode cX5_turnRound 23 = .ok (.aload_n 0, 1) := by decide +kernel
theorem dX5_turnRound_24 : decode cX5_turnRound 24 = .ok (.getfield 15, 3) := by decide +kernel
theorem dX5_turnRound_27 : decode cX5_turnRound 27 = .ok (.iload_n 1, 1) := by decide +kernel
theorem dX5_turnRound_28 : decode cX5_turnRound 28 = .ok (.iaload, 1) := by decide +kernel
theorem dX5_turnRound_29 : decode cX5_turnRound 29 = .ok (.istore_n 3, 1) := by decide +kernel
theorem dX5_turnRound_30 : decode cX5_turnRound 30 = .ok (.aload_n 0, 1) := by decide +kernel
theorem dX5_turnRound_31 : decode cX5_turnRound 31 = .ok (.getfield 15, 3) := by decide +kernel
theorem dX5_turnRound_34 : decode cX5_turnRound 34 = .ok (.iload_n 1, 1) := by decide +kernel
theorem dX5_turnRound_35 : decode cX5_turnRound 35 = .ok (.aload_n 0, 1) := by decide +kernel
theorem dX5_turnRound_36 : decode cX5_turnRound 36 = .ok (.getfield 15, 3) := by decide +kernel
theorem dX5_turnRound_39 : decode cX5_turnRound 39 = .ok (.iload_n 2, 1) := by decide +kernel
theorem dX5_turnRound_40 : decode cX5_turnRound 40 = .ok (.iaload, 1) := by decide +kernel
theorem dX5_turnRound_41 : decode cX5_turnRound 41 = .ok (.iastore, 1) := by decide +kernel
theorem dX5_turnRound_42 : decode cX5_turnRound 42 = .ok (.aload_n 0, 1) := by decide +kernel
theorem dX5_turnRound_43 : decode cX5_turnRound 43 = .ok (.getfield 15, 3) := by decide +kernel
theorem dX5_turnRound_46 : decode cX5_turnRound 46 = .ok (.iload_n 2, 1) := by decide +kernel
theorem dX5_turnRound_47 : decode cX5_turnRound 47 = .ok (.iload_n 3, 1) := by decide +kernel
theorem dX5_turnRound_48 : decode cX5_turnRound 48 = .ok (.iastore, 1) := by decide +kernel
theorem dX5_turnRound_49 : decode cX5_turnRound 49 = .ok (.iinc 1 1, 3) := by decide +kernel
theorem dX5_turnRound_52 : decode cX5_turnRound 52 = .ok (.iinc 2 (-1), 3) := by decide +kernel
theorem dX5_turnRound_55 : decode cX5_turnRound 55 = .ok (.goto (-46), 3) := by decide +kernel
theorem dX5_turnRound_58 : decode cX5_turnRound 58 = .ok (.return_, 1) := by decide +kernel
theorem dX6_init_0 : decode cX6_init 0 = .ok (.aload_n 0, 1) := by decide +kernel
theorem dX6_init_1 : decode cX6_init 1 = .ok (.invokespecial 3, 3) := by decide +kernel
theorem dX6_init_4 : decode cX6_init 4 = .ok (.aload_n 0, 1) := by decide +kernel
theorem dX6_init_5 : decode cX6_init 5 = .ok (.sipush 721, 3) := by decide +kernel
theorem dX6_init_8 : decode cX6_init 8 = .ok (.newarray .int, 2) := by decide +kernel
theorem dX6_init_10 : decode cX6_init 10 = .ok (.putfield 9, 3) := by decide +kernel
theorem dX6_init_13 : decode cX6_init 13 = .ok (.aload_n 0, 1) := by decide +kernel
theorem dX6_init_14 : decode cX6_init 14 = .ok (.bipush 30, 2) := by decide +kernel
theorem dX6_init_16 : decode cX6_init 16 = .ok (.newarray .int, 2) := by decide +kernel
theorem dX6_init_18 : decode cX6_init 18 = .ok (.putfield 15, 3) := by decide +kernel
theorem dX6_init_21 : decode cX6_init 21 = .ok (.aload_n 0, 1) := by decide +kernel
theorem dX6_init_22 : decode cX6_init 22 = .ok (.sipush 721, 3) := by decide +kernel
theorem dX6_init_25 : decode cX6_init 25 = .ok (.newarray .int, 2) := by decide +kernel
theorem dX6_init_27 : decode cX6_init 27 = .ok (.putfield 18, 3) := by decide +kernel
theorem dX6_init_30 : decode cX6_init 30 = .ok (.aload_n 0, 1) := by decide +kernel
theorem dX6_init_31 : decode cX6_init 31 = .ok (.sipush 721, 3) := by decide +kernel
theorem dX6_init_34 : decode cX6_init 34 = .ok (.newarray .int, 2) := by decide +kernel
theorem dX6_init_36 : decode cX6_init 36 = .ok (.putfield 21, 3) := by decide +kernel
theorem dX6_init_39 : decode cX6_init 39 = .ok (.aload_n 0, 1) := by decide +kernel
theorem dX6_init_40 : decode cX6_init 40 = .ok (.sipush 721, 3) := by decide +kernel
theorem dX6_init_43 : decode cX6_init 43 = .ok (.newarray .int, 2) := by decide +kernel
theorem dX6_init_45 : decode cX6_init 45 = .ok (.putfield 24, 3) := by decide +kernel
theorem dX6_init_48 : decode cX6_init 48 = .ok (.aload_n 0, 1) := by decide +kernel
theorem dX6_init_49 : decode cX6_init 49 = .ok (.sipush 721, 3) := by decide +kernel
theorem dX6_init_52 : decode cX6_init 52 = .ok (.newarray .int, 2) := by decide +kernel
theorem dX6_init_54 : decode cX6_init 54 = .ok (.putfield 27, 3) := by decide +kernel
theorem dX6_init_57 : decode cX6_init 57 = .ok (.aload_n 0, 1) := by decide +kernel
theorem dX6_init_58 : decode cX6_init 58 = .ok (.sipush 5768, 3) := by decide +kernel
theorem dX6_init_61 : decode cX6_init 61 = .ok (.newarray .int, 2) := by decide +kernel
theorem dX6_init_63 : decode cX6_init 63 = .ok (.putfield 30, 3) := by decide +kernel
theorem dX6_init_66 : decode cX6_init 66 = .ok (.aload_n 0, 1) := by decide +kernel
theorem dX6_init_67 : decode cX6_init 67 = .ok (.aload_n 1, 1) := by decide +kernel
theorem dX6_init_68 : decode cX6_init 68 = .ok (.putfield 33, 3) := by decide +kernel
theorem dX6_init_71 : decode cX6_init 71 = .ok (.aload_n 0, 1) := by decide +kernel
theorem dX6_init_72 : decode cX6_init 72 = .ok (.aload_n 2, 1) := by decide +kernel
theorem dX6_init_73 : decode cX6_init 73 = .ok (.putfield 37, 3) := by decide +kernel
theorem dX6_init_76 : decode cX6_init 76 = .ok (.return_, 1) := by decide +kernel
theorem dX6_meltAll_0 : decode cX6_meltAll 0 = .ok (.aload_n 0, 1) := by decide +kernel
theorem dX6_meltAll_1 : decode cX6_meltAll 1 = .ok (.getfield 33, 3) := by decide +kernel
theorem dX6_meltAll_4 : decode cX6_meltAll 4 = .ok (.invokevirtual 41, 3) := by decide +kernel
theorem dX6_meltAll_7 : decode cX6_meltAll 7 = .ok (.iconst 0, 1) := by decide +kernel
theorem dX6_meltAll_8 : decode cX6_meltAll 8 = .ok (.istore_n 1, 1) := by decide +kernel
theorem dX6_meltAll_9 : decode cX6_meltAll 9 = .ok (.iload_n 1, 1) := by decide +kernel
theorem dX6_meltAll_10 : decode cX6_meltAll 10 = .ok (.aload_n 0, 1) := by decide +kernel
theorem dX6_meltAll_11 : decode cX6_meltAll 11 = .ok (.getfield 37, 3) := by decide +kernel
theorem dX6_meltAll_14 : decode cX6_meltAll 14 = .ok (.getfield 46, 3) := by decide +kernel
theorem dX6_meltAll_17 : decode cX6_meltAll 17 = .ok (.if_icmp .ge 30, 3) := by decide +kernel
theorem dX6_meltAll_20 : decode cX6_meltAll 20 = .ok (.iload_n 1, 1) := by decide +kernel
theorem dX6_meltAll_21 : decode cX6_meltAll 21 = .ok (.sipush 721, 3) := by decide +kernel
theorem dX6_meltAll_24 : decode cX6_meltAll 24 = .ok (.if_icmp .ge 23, 3) := by decide +kernel
theorem dX6_meltAll_27 : decode cX6_meltAll 27 = .ok (.aload_n 0, 1) := by decide +kernel
theorem dX6_meltAll_28 : decode cX6_meltAll 28 = .ok (.getfield 9, 3) := by decide +kernel
theorem dX6_meltAll_31 : decode cX6_meltAll 31 = .ok (.iload_n 1, 1) := by decide +kernel
theorem dX6_meltAll_32 : decode cX6_meltAll 32 = .ok (.iload_n 1, 1) := by decide +kernel
theorem dX6_meltAll_33 : decode cX6_meltAll 33 = .ok (.iastore, 1) := by decide +kernel
theorem dX6_meltAll_34 : decode cX6_meltAll 34 = .ok (.aload_n 0, 1) := by decide +kernel
theorem dX6_meltAll_35 : decode cX6_meltAll 35 = .ok (.getfield 18, 3) := by decide +kernel
theorem dX6_meltAll_38 : decode cX6_meltAll 38 = .ok (.iload_n 1, 1) := by decide +kernel
theorem dX6_meltAll_39 : decode cX6_meltAll 39 = .ok (.iconst (-1), 1) := by decide +kernel
theorem dX6_meltAll_40 : decode cX6_meltAll 40 = .ok (.iastore, 1) := by decide +kernel
theorem dX6_meltAll_41 : decode cX6_meltAll 41 = .ok (.iinc 1 1, 3) := by decide +kernel
theorem dX6_meltAll_44 : decode cX6_meltAll 44 = .ok (.goto (-35), 3) := by decide +kernel
theorem dX6_meltAll_47 : decode cX6_meltAll 47 = .ok (.aload_n 0, 1) := by decide +kernel
theorem dX6_meltAll_48 : decode cX6_meltAll 48 = .ok (.getfield 15, 3) := by decide +kernel
theorem dX6_meltAll_51 : decode cX6_meltAll 51 = .ok (.iconst 0, 1) := by decide +kernel
theorem dX6_meltAll_52 : decode cX6_meltAll 52 = .ok (.iconst 0, 1) := by decide +kernel
theorem dX6_meltAll_53 : decode cX6_meltAll 53 = .ok (.iastore, 1) := by decide +kernel
theorem dX6_meltAll_54 : decode cX6_meltAll 54 = .ok (.aload_n 0, 1) := by decide +kernel
theorem dX6_meltAll_55 : decode cX6_meltAll 55 = .ok (.iconst 1, 1) := by decide +kernel
theorem dX6_meltAll_56 : decode cX6_meltAll 56 = .ok (.putfield 52, 3) := by decide +kernel
theorem dX6_meltAll_59 : decode cX6_meltAll 59 = .ok (.iconst 1, 1) := by decide +kernel
theorem dX6_meltAll_60 : decode cX6_meltAll 60 = .ok (.istore_n 1, 1) := by decide +kernel
theorem dX6_meltAll_61 : decode cX6_meltAll 61 = .ok (.iload_n 1, 1) := by decide +kernel
theorem dX6_meltAll_62 : decode cX6_meltAll 62 = .ok (.aload_n 0, 1) := by decide +kernel
theorem dX6_meltAll_63 : decode cX6_meltAll 63 = .ok (.getfield 37, 3) := by decide +kernel
theorem dX6_meltAll_66 : decode cX6_meltAll 66 = .ok (.getfield 46, 3) := by decide +kernel
theorem dX6_meltAll_69 : decode cX6_meltAll 69 = .ok (.if_icmp .ge 68, 3) := by decide +kernel
theorem dX6_meltAll_72 : decode cX6_meltAll 72 = .ok (.iload_n 1, 1) := by decide +kernel
theorem dX6_meltAll_73 : decode cX6_meltAll 73 = .ok (.sipush 721, 3) := by decide +kernel
theorem dX6_meltAll_76 : decode cX6_meltAll 76 = .ok (.if_icmp .ge 61, 3) := by decide +kernel
theorem dX6_meltAll_79 : decode cX6_meltAll 79 = .ok (.aload_n 0, 1) := by decide +kernel
theorem dX6_meltAll_80 : decode cX6_meltAll 80 = .ok (.getfield 9, 3) := by decide +kernel
theorem dX6_meltAll_83 : decode cX6_meltAll 83 = .ok (.iload_n 1, 1) := by decide +kernel
theorem dX6_meltAll_84 : decode cX6_meltAll 84 = .ok (.iaload, 1) := by decide +kernel
theorem dX6_meltAll_85 : decode cX6_meltAll 85 = .ok (.iload_n 1, 1) := by decide +kernel
theorem dX6_meltAll_86 : decode cX6_meltAll 86 = .ok (.if_icmp .ne 45, 3) := by decide +kernel
theorem dX6_meltAll_89 : decode cX6_meltAll 89 = .ok (.aload_n 0, 1) := by decide +kernel
theorem dX6_meltAll_90 : decode cX6_meltAll 90 = .ok (.iload_n 1, 1) := by decide +kernel
theorem dX6_meltAll_91 : decode cX6_meltAll 91 = .ok (.invokevirtual 55, 3) := by decide +kernel
theorem dX6_meltAll_94 : decode cX6_meltAll 94 = .ok (.ifCond .eq 6, 3) := by decide +kernel
theorem dX6_meltAll_97 : decode cX6_meltAll 97 = .ok (.goto 34, 3) := by decide +kernel
theorem dX6_meltAll_100 : decode cX6_meltAll 100 = .ok (.aload_n 0, 1) := by decide +kernel
theorem dX6_meltAll_101 : decode cX6_meltAll 101 = .ok (.getfield 52, 3) := by decide +kernel
theorem dX6_meltAll_104 : decode cX6_meltAll 104 = .ok (.bipush 30, 2) := by decide +kernel
theorem dX6_meltAll_106 : decode cX6_meltAll 106 = .ok (.if_icmp .lt 5, 3) := by decide +kernel
theorem dX6_meltAll_109 : decode cX6_meltAll 109 = .ok (.iconst 0, 1) := by decide +kernel
theorem dX6_meltAll_110 : decode cX6_meltAll 110 = .ok (.ireturn, 1) := by decide +kernel
theorem dX6_meltAll_111 : decode cX6_meltAll 111 = .ok (.aload_n 0, 1) := by decide +kernel
theorem dX6_meltAll_112 : decode cX6_meltAll 112 = .ok (.getfield 15, 3) := by decide +kernel
theorem dX6_meltAll_115 : decode cX6_meltAll 115 = .ok (.aload_n 0, 1) := by decide +kernel
theorem dX6_meltAll_116 : decode cX6_meltAll 116 = .ok (.getfield 52, 3) := by decide +kernel
theorem dX6_meltAll_119 : decode cX6_meltAll 119 = .ok (.iload_n 1, 1) := by decide +kernel
theorem dX6_meltAll_120 : decode cX6_meltAll 120 = .ok (.iastore, 1) := by decide +kernel
theorem dX6_meltAll_121 : decode cX6_meltAll 121 = .ok (.aload_n 0, 1) := by decide +kernel
theorem dX6_meltAll_122 : decode cX6_meltAll 122 = .ok (.dup, 1) := by decide +kernel
theorem dX6_meltAll_123 : decode cX6_meltAll 123 = .ok (.getfield 52, 3) := by decide +kernel
theorem dX6_meltAll_126 : decode cX6_meltAll 126 = .ok (.iconst 1, 1) := by decide +kernel
theorem dX6_meltAll_127 : decode cX6_meltAll 127 = .ok (.iadd, 1) := by decide +kernel
theorem dX6_meltAll_128 : decode cX6_meltAll 128 = .ok (.putfield 52, 3) := by decide +kernel
theorem dX6_meltAll_131 : decode cX6_meltAll 131 = .ok (.iinc 1 1, 3) := by decide +kernel
theorem dX6_meltAll_134 : decode cX6_meltAll 134 = .ok (.goto (-73), 3) := by decide +kernel
theorem dX6_meltAll_137 : decode cX6_meltAll 137 = .ok (.iconst 1, 1) := by decide +kernel
theorem dX6_meltAll_138 : decode cX6_meltAll 138 = .ok (.ireturn, 1) := by decide +kernel
theorem dX6_writeInto_0 : decode cX6_writeInto 0 = .ok (.iconst 0, 1) := by decide +kernel
theorem dX6_writeInto_1 : decode cX6_writeInto 1 = .ok (.istore_n 2, 1) := by decide +kernel
theorem dX6_writeInto_2 : decode cX6_writeInto 2 = .ok (.iload_n 2, 1) := by decide +kernel
theorem dX6_writeInto_3 : decode cX6_writeInto 3 = .ok (.aload_n 0, 1) := by decide +kernel
theorem dX6_writeInto_4 : decode cX6_writeInto 4 = .ok (.getfield 52, 3) := by decide +kernel
theorem dX6_writeInto_7 : decode cX6_writeInto 7 = .ok (.if_icmp .ge 40, 3) := by decide +kernel
theorem dX6_writeInto_10 : decode cX6_writeInto 10 = .ok (.iload_n 2, 1) := by decide +kernel
theorem dX6_writeInto_11 : decode cX6_writeInto 11 = .ok (.bipush 30, 2) := by decide +kernel
theorem dX6_writeInto_13 : decode cX6_writeInto 13 = .ok (.if_icmp .ge 34, 3) := by decide +kernel
theorem dX6_writeInto_16 : decode cX6_writeInto 16 = .ok (.aload_n 0, 1) := by decide +kernel
theorem dX6_writeInto_17 : decode cX6_writeInto 17 = .ok (.getfield 15, 3) := by decide +kernel
theorem dX6_writeInto_20 : decode cX6_writeInto 20 = .ok (.iload_n 2, 1) := by decide +kernel
theorem dX6_writeInto_21 : decode cX6_writeInto 21 = .ok (.iaload, 1) := by decide +kernel
theorem dX6_writeInto_22 : decode cX6_writeInto 22 = .ok (.istore_n 3, 1) := by decide +kernel
theorem dX6_writeInto_23 : decode cX6_writeInto 23 = .ok (.iload_n 3, 1) := by decide +kernel
theorem dX6_writeInto_24 : decode cX6_writeInto 24 = .ok (.ifCond .lt 17, 3) := by decide +kernel
theorem dX6_writeInto_27 : decode cX6_writeInto 27 = .ok (.iload_n 3, 1) := by decide +kernel
theorem dX6_writeInto_28 : decode cX6_writeInto 28 = .ok (.sipush 721, 3) := by decide +kernel
theorem dX6_writeInto_31 : decode cX6_writeInto 31 = .ok (.if_icmp .ge 10, 3) := by decide +kernel
theorem dX6_writeInto_34 : decode cX6_writeInto 34 = .ok (.aload_n 0, 1) := by decide +kernel
theorem dX6_writeInto_35 : decode cX6_writeInto 35 = .ok (.getfield 18, 3) := by decide +kernel
theorem dX6_writeInto_38 : decode cX6_writeInto 38 = .ok (.iload_n 3, 1) := by decide +kernel
theorem dX6_writeInto_39 : decode cX6_writeInto 39 = .ok (.iload_n 2, 1) := by decide +kernel
theorem dX6_writeInto_40 : decode cX6_writeInto 40 = .ok (.iastore, 1) := by decide +kernel
theorem dX6_writeInto_41 : decode cX6_writeInto 41 = .ok (.iinc 2 1, 3) := by decide +kernel
theorem dX6_writeInto_44 : decode cX6_writeInto 44 = .ok (.goto (-42), 3) := by decide +kernel
theorem dX6_writeInto_47 : decode cX6_writeInto 47 = .ok (.aload_n 1, 1) := by decide +kernel
theorem dX6_writeInto_48 : decode cX6_writeInto 48 = .ok (.aload_n 0, 1) := by decide +kernel
theorem dX6_writeInto_49 : decode cX6_writeInto 49 = .ok (.getfield 52, 3) := by decide +kernel
theorem dX6_writeInto_52 : decode cX6_writeInto 52 = .ok (.invokevirtual 59, 3) := by decide +kernel
theorem dX6_writeInto_55 : decode cX6_writeInto 55 = .ok (.iconst 0, 1) := by decide +kernel
theorem dX6_writeInto_56 : decode cX6_writeInto 56 = .ok (.istore_n 2, 1) := by decide +kernel
theorem dX6_writeInto_57 : decode cX6_writeInto 57 = .ok (.iload_n 2, 1) := by decide +kernel
theorem dX6_writeInto_58 : decode cX6_writeInto 58 = .ok (.aload_n 0, 1) := by decide +kernel
theorem dX6_writeInto_59 : decode cX6_writeInto 59 = .ok (.getfield 52, 3) := by decide +kernel
theorem dX6_writeInto_62 : decode cX6_writeInto 62 = .ok (.if_icmp .ge 75, 3) := by decide +kernel
theorem dX6_writeInto_65 : decode cX6_writeInto 65 = .ok (.iload_n 2, 1) := by decide +kernel
theorem dX6_writeInto_66 : decode cX6_writeInto 66 = .ok (.bipush 30, 2) := by decide +kernel
theorem dX6_writeInto_68 : decode cX6_writeInto 68 = .ok (.if_icmp .ge 69, 3) := by decide +kernel
theorem dX6_writeInto_71 : decode cX6_writeInto 71 = .ok (.iconst 0, 1) := by decide +kernel
theorem dX6_writeInto_72 : decode cX6_writeInto 72 = .ok (.istore_n 3, 1) := by decide +kernel
theorem dX6_writeInto_73 : decode cX6_writeInto 73 = .ok (.iload_n 3, 1) := by decide +kernel
theorem dX6_writeInto_74 : decode cX6_writeInto 74 = .ok (.bipush 8, 2) := by decide +kernel
theorem dX6_writeInto_76 : decode cX6_writeInto 76 = .ok (.if_icmp .ge 55, 3) := by decide +kernel
theorem dX6_writeInto_79 : decode cX6_writeInto 79 = .ok (.aload_n 0, 1) := by decide +kernel
theorem dX6_writeInto_80 : decode cX6_writeInto 80 = .ok (.aload_n 0, 1) := by decide +kernel
theorem dX6_writeInto_81 : decode cX6_writeInto 81 = .ok (.getfield 37, 3) := by decide +kernel
theorem dX6_writeInto_84 : decode cX6_writeInto 84 = .ok (.aload_n 0, 1) := by decide +kernel
theorem dX6_writeInto_85 : decode cX6_writeInto 85 = .ok (.getfield 15, 3) := by decide +kernel
theorem dX6_writeInto_88 : decode cX6_writeInto 88 = .ok (.iload_n 2, 1) := by decide +kernel
theorem dX6_writeInto_89 : decode cX6_writeInto 89 = .ok (.iaload, 1) := by decide +kernel
theorem dX6_writeInto_90 : decode cX6_writeInto 90 = .ok (.iload_n 3, 1) := by decide +kernel
theorem dX6_writeInto_91 : decode cX6_writeInto 91 = .ok (.invokevirtual 65, 3) := by decide +kernel
theorem dX6_writeInto_94 : decode cX6_writeInto 94 = .ok (.invokevirtual 69, 3) := by decide +kernel
theorem dX6_writeInto_97 : decode cX6_writeInto 97 = .ok (.istore 4, 2) := by decide +kernel
theorem dX6_writeInto_99 : decode cX6_writeInto 99 = .ok (.iload 4, 2) := by decide +kernel
theorem dX6_writeInto_101 : decode cX6_writeInto 101 = .ok (.ifCond .lt 24, 3) := by decide +kernel
theorem dX6_writeInto_104 : decode cX6_writeInto 104 = .ok (.iload 4, 2) := by decide +kernel
theorem dX6_writeInto_106 : decode cX6_writeInto 106 = .ok (.sipush 721, 3) := by decide +kernel
theorem dX6_writeInto_109 : decode cX6_writeInto 109 = .ok (.if_icmp .ge 16, 3) := by decide +kernel
theorem dX6_writeInto_112 : decode cX6_writeInto 112 = .ok (.aload_n 1, 1) := by decide +kernel
theorem dX6_writeInto_113 : decode cX6_writeInto 113 = .ok (.iload_n 2, 1) := by decide +kernel
theorem dX6_writeInto_114 : decode cX6_writeInto 114 = .ok (.iload_n 3, 1) := by decide +kernel
theorem dX6_writeInto_115 : decode cX6_writeInto 115 = .ok (.aload_n 0, 1) := by decide +kernel
theorem dX6_writeInto_116 : decode cX6_writeInto 116 = .ok (.getfield 18, 3) := by decide +kernel
theorem dX6_writeInto_119 : decode cX6_writeInto 119 = .ok (.iload 4, 2) := by decide +kernel
theorem dX6_writeInto_121 : decode cX6_writeInto 121 = .ok (.iaload, 1) := by decide +kernel
theorem dX6_writeInto_122 : decode cX6_writeInto 122 = .ok (.invokevirtual 73, 3) := by decide +kernel
theorem dX6_writeInto_125 : decode cX6_writeInto 125 = .ok (.iinc 3 1, 3) := by decide +kernel
theorem dX6_writeInto_128 : decode cX6_writeInto 128 = .ok (.goto (-55), 3) := by decide +kernel
theorem dX6_writeInto_131 : decode cX6_writeInto 131 = .ok (.iinc 2 1, 3) := by decide +kernel
theorem dX6_writeInto_134 : decode cX6_writeInto 134 = .ok (.goto (-77), 3) := by decide +kernel
theorem dX6_writeInto_137 : decode cX6_writeInto 137 = .ok (.return_, 1) := by decide +kernel
theorem dX6_meltsWithKept_0 : decode cX6_meltsWithKept 0 = .ok (.iconst 0, 1) := by decide +kernel
theorem dX6_meltsWithKept_1 : decode cX6_meltsWithKept 1 = .ok (.istore_n 2, 1) := by decide +kernel
theorem dX6_meltsWithKept_2 : decode cX6_meltsWithKept 2 = .ok (.iload_n 2, 1) := by decide +kernel
theorem dX6_meltsWithKept_3 : decode cX6_meltsWithKept 3 = .ok (.aload_n 0, 1) := by decide +kernel
theorem dX6_meltsWithKept_4 : decode cX6_meltsWithKept 4 = .ok (.getfield 52, 3) := by decide +kernel
theorem dX6_meltsWithKept_7 : decode cX6_meltsWithKept 7 = .ok (.if_icmp .ge 43, 3) := by decide +kernel
theorem dX6_meltsWithKept_10 : decode cX6_meltsWithKept 10 = .ok (.iload_n 2, 1) := by decide +kernel
theorem dX6_meltsWithKept_11 : decode cX6_meltsWithKept 11 = .ok (.bipush 30, 2) := by decide +kernel
theorem dX6_meltsWithKept_13 : decode cX6_meltsWithKept 13 = .ok (.if_icmp .ge 37, 3) := by decide +kernel
theorem dX6_meltsWithKept_16 : decode cX6_meltsWithKept 16 = .ok (.aload_n 0, 1) := by decide +kernel
theorem dX6_meltsWithKept_17 : decode cX6_meltsWithKept 17 = .ok (.aload_n 0, 1) := by decide +kernel
theorem dX6_meltsWithKept_18 : decode cX6_meltsWithKept 18 = .ok (.getfield 15, 3) := by decide +kernel
theorem dX6_meltsWithKept_21 : decode cX6_meltsWithKept 21 = .ok (.iload_n 2, 1) := by decide +kernel
theorem dX6_meltsWithKept_22 : decode cX6_meltsWithKept 22 = .ok (.iaload, 1) := by decide +kernel
theorem dX6_meltsWithKept_23 : decode cX6_meltsWithKept 23 = .ok (.iload_n 1, 1) := by decide +kernel
theorem dX6_meltsWithKept_24 : decode cX6_meltsWithKept 24 = .ok (.invokevirtual 77, 3) := by decide +kernel
theorem dX6_meltsWithKept_27 : decode cX6_meltsWithKept 27 = .ok (.aload_n 0, 1) := by decide +kernel
theorem dX6_meltsWithKept_28 : decode cX6_meltsWithKept 28 = .ok (.invokevirtual 81, 3) := by decide +kernel
theorem dX6_meltsWithKept_31 : decode cX6_meltsWithKept 31 = .ok (.ifCond .ne 9, 3) := by decide +kernel
theorem dX6_meltsWithKept_34 : decode cX6_meltsWithKept 34 = .ok (.aload_n 0, 1) := by decide +kernel
theorem dX6_meltsWithKept_35 : decode cX6_meltsWithKept 35 = .ok (.invokevirtual 85, 3) := by decide +kernel
theorem dX6_meltsWithKept_38 : decode cX6_meltsWithKept 38 = .ok (.iconst 1, 1) := by decide +kernel
theorem dX6_meltsWithKept_39 : decode cX6_meltsWithKept 39 = .ok (.ireturn, 1) := by decide +kernel
theorem dX6_meltsWithKept_40 : decode cX6_meltsWithKept 40 = .ok (.aload_n 0, 1) := by decide +kernel
theorem dX6_meltsWithKept_41 : decode cX6_meltsWithKept 41 = .ok (.invokevirtual 88, 3) := by decide +kernel
theorem dX6_meltsWithKept_44 : decode cX6_meltsWithKept 44 = .ok (.iinc 2 1, 3) := by decide +kernel
theorem dX6_meltsWithKept_47 : decode cX6_meltsWithKept 47 = .ok (.goto (-45), 3) := by decide +kernel
theorem dX6_meltsWithKept_50 : decode cX6_meltsWithKept 50 = .ok (.iconst 0, 1) := by decide +kernel
theorem dX6_meltsWithKept_51 : decode cX6_meltsWithKept 51 = .ok (.ireturn, 1) := by decide +kernel
theorem dX6_melt_0 : decode cX6_melt 0 = .ok (.aload_n 0, 1) := by decide +kernel
theorem dX6_melt_1 : decode cX6_melt 1 = .ok (.iconst 0, 1) := by decide +kernel
theorem dX6_melt_2 : decode cX6_melt 2 = .ok (.putfield 91, 3) := by decide +kernel
theorem dX6_melt_5 : decode cX6_melt 5 = .ok (.aload_n 0, 1) := by decide +kernel
theorem dX6_melt_6 : decode cX6_melt 6 = .ok (.iconst 0, 1) := by decide +kernel
theorem dX6_melt_7 : decode cX6_melt 7 = .ok (.putfield 94, 3) := by decide +kernel
theorem dX6_melt_10 : decode cX6_melt 10 = .ok (.aload_n 0, 1) := by decide +kernel
theorem dX6_melt_11 : decode cX6_melt 11 = .ok (.iconst 0, 1) := by decide +kernel
theorem dX6_melt_12 : decode cX6_melt 12 = .ok (.putfield 97, 3) := by decide +kernel
theorem dX6_melt_15 : decode cX6_melt 15 = .ok (.aload_n 0, 1) := by decide +kernel
theorem dX6_melt_16 : decode cX6_melt 16 = .ok (.iload_n 1, 1) := by decide +kernel
theorem dX6_melt_17 : decode cX6_melt 17 = .ok (.iload_n 2, 1) := by decide +kernel
theorem dX6_melt_18 : decode cX6_melt 18 = .ok (.invokevirtual 100, 3) := by decide +kernel
theorem dX6_melt_21 : decode cX6_melt 21 = .ok (.iconst 0, 1) := by decide +kernel
theorem dX6_melt_22 : decode cX6_melt 22 = .ok (.istore_n 3, 1) := by decide +kernel
theorem dX6_melt_23 : decode cX6_melt 23 = .ok (.iload_n 3, 1) := by decide +kernel
theorem dX6_melt_24 : decode cX6_melt 24 = .ok (.sipush 721, 3) := by decide +kernel
theorem dX6_melt_27 : decode cX6_melt 27 = .ok (.if_icmp .ge 93, 3) := by decide +kernel
theorem dX6_melt_30 : decode cX6_melt 30 = .ok (.aload_n 0, 1) := by decide +kernel
theorem dX6_melt_31 : decode cX6_melt 31 = .ok (.getfield 97, 3) := by decide +kernel
theorem dX6_melt_34 : decode cX6_melt 34 = .ok (.ifCond .le 86, 3) := by decide +kernel
theorem dX6_melt_37 : decode cX6_melt 37 = .ok (.aload_n 0, 1) := by decide +kernel
theorem dX6_melt_38 : decode cX6_melt 38 = .ok (.dup, 1) := by decide +kernel
theorem dX6_melt_39 : decode cX6_melt 39 = .ok (.getfield 97, 3) := by decide +kernel
theorem dX6_melt_42 : decode cX6_melt 42 = .ok (.iconst 1, 1) := by decide +kernel
theorem dX6_melt_43 : decode cX6_melt 43 = .ok (.isub, 1) := by decide +kernel
theorem dX6_melt_44 : decode cX6_melt 44 = .ok (.putfield 97, 3) := by decide +kernel
theorem dX6_melt_47 : decode cX6_melt 47 = .ok (.aload_n 0, 1) := by decide +kernel
theorem dX6_melt_48 : decode cX6_melt 48 = .ok (.aload_n 0, 1) := by decide +kernel
theorem dX6_melt_49 : decode cX6_melt 49 = .ok (.getfield 21, 3) := by decide +kernel
theorem dX6_melt_52 : decode cX6_melt 52 = .ok (.aload_n 0, 1) := by decide +kernel
theorem dX6_melt_53 : decode cX6_melt 53 = .ok (.getfield 97, 3) := by decide +kernel
theorem dX6_melt_56 : decode cX6_melt 56 = .ok (.iaload, 1) := by decide +kernel
theorem dX6_melt_57 : decode cX6_melt 57 = .ok (.invokevirtual 69, 3) := by decide +kernel
theorem dX6_melt_60 : decode cX6_melt 60 = .ok (.istore 4, 2) := by decide +kernel
theorem dX6_melt_62 : decode cX6_melt 62 = .ok (.aload_n 0, 1) := by decide +kernel
theorem dX6_melt_63 : decode cX6_melt 63 = .ok (.aload_n 0, 1) := by decide +kernel
theorem dX6_melt_64 : decode cX6_melt 64 = .ok (.getfield 24, 3) := by decide +kernel
theorem dX6_melt_67 : decode cX6_melt 67 = .ok (.aload_n 0, 1) := by decide +kernel
theorem dX6_melt_68 : decode cX6_melt 68 = .ok (.getfield 97, 3) := by decide +kernel
theorem dX6_melt_71 : decode cX6_melt 71 = .ok (.iaload, 1) := by decide +kernel
theorem dX6_melt_72 : decode cX6_melt 72 = .ok (.invokevirtual 69, 3) := by decide +kernel
theorem dX6_melt_75 : decode cX6_melt 75 = .ok (.istore 5, 2) := by decide +kernel
theorem dX6_melt_77 : decode cX6_melt 77 = .ok (.iload 4, 2) := by decide +kernel
theorem dX6_melt_79 : decode cX6_melt 79 = .ok (.iload 5, 2) := by decide +kernel
theorem dX6_melt_81 : decode cX6_melt 81 = .ok (.if_icmp .eq 33, 3) := by decide +kernel
theorem dX6_melt_84 : decode cX6_melt 84 = .ok (.iload 4, 2) := by decide +kernel
theorem dX6_melt_86 : decode cX6_melt 86 = .ok (.iconst (-1), 1) := by decide +kernel
theorem dX6_melt_87 : decode cX6_melt 87 = .ok (.if_icmp .eq 27, 3) := by decide +kernel
theorem dX6_melt_90 : decode cX6_melt 90 = .ok (.iload 5, 2) := by decide +kernel
theorem dX6_melt_92 : decode cX6_melt 92 = .ok (.iconst (-1), 1) := by decide +kernel
theorem dX6_melt_93 : decode cX6_melt 93 = .ok (.if_icmp .eq 21, 3) := by decide +kernel
theorem dX6_melt_96 : decode cX6_melt 96 = .ok (.aload_n 0, 1) := by decide +kernel
theorem dX6_melt_97 : decode cX6_melt 97 = .ok (.iload 4, 2) := by decide +kernel
theorem dX6_melt_99 : decode cX6_melt 99 = .ok (.iload 5, 2) := by decide +kernel
theorem dX6_melt_101 : decode cX6_melt 101 = .ok (.invokestatic 103, 3) := by decide +kernel
theorem dX6_melt_104 : decode cX6_melt 104 = .ok (.iload 4, 2) := by decide +kernel
theorem dX6_melt_106 : decode cX6_melt 106 = .ok (.iload 5, 2) := by decide +kernel
theorem dX6_melt_108 : decode cX6_melt 108 = .ok (.invokestatic 108, 3) := by decide +kernel
theorem dX6_melt_111 : decode cX6_melt 111 = .ok (.invokevirtual 111, 3) := by decide +kernel
theorem dX6_melt_114 : decode cX6_melt 114 = .ok (.iinc 3 1, 3) := by decide +kernel
theorem dX6_melt_117 : decode cX6_melt 117 = .ok (.goto (-94), 3) := by decide +kernel
theorem dX6_melt_120 : decode cX6_melt 120 = .ok (.return_, 1) := by decide +kernel
theorem dX6_addPair_0 : decode cX6_addPair 0 = .ok (.aload_n 0, 1) := by decide +kernel
theorem dX6_addPair_1 : decode cX6_addPair 1 = .ok (.getfield 97, 3) := by decide +kernel
theorem dX6_addPair_4 : decode cX6_addPair 4 = .ok (.ifCond .lt 43, 3) := by decide +kernel
theorem dX6_addPair_7 : decode cX6_addPair 7 = .ok (.aload_n 0, 1) := by decide +kernel
theorem dX6_addPair_8 : decode cX6_addPair 8 = .ok (.getfield 97, 3) := by decide +kernel
theorem dX6_addPair_11 : decode cX6_addPair 11 = .ok (.sipush 721, 3) := by decide +kernel
theorem dX6_addPair_14 : decode cX6_addPair 14 = .ok (.if_icmp .ge 33, 3) := by decide +kernel
theorem dX6_addPair_17 : decode cX6_addPair 17 = .ok (.aload_n 0, 1) := by decide +kernel
theorem dX6_addPair_18 : decode cX6_addPair 18 = .ok (.getfield 21, 3) := by decide +kernel
theorem dX6_addPair_21 : decode cX6_addPair 21 = .ok (.aload_n 0, 1) := by decide +kernel
theorem dX6_addPair_22 : decode cX6_addPair 22 = .ok (.getfield 97, 3) := by decide +kernel
theorem dX6_addPair_25 : decode cX6_addPair 25 = .ok (.iload_n 1, 1) := by decide +kernel
theorem dX6_addPair_26 : decode cX6_addPair 26 = .ok (.iastore, 1) := by decide +kernel
theorem dX6_addPair_27 : decode cX6_addPair 27 = .ok (.aload_n 0, 1) := by decide +kernel
theorem dX6_addPair_28 : decode cX6_addPair 28 = .ok (.getfield 24, 3) := by decide +kernel
theorem dX6_addPair_31 : decode cX6_addPair 31 = .ok (.aload_n 0, 1) := by decide +kernel
theorem dX6_addPair_32 : decode cX6_addPair 32 = .ok (.getfield 97, 3) := by decide +kernel
theorem dX6_addPair_35 : decode cX6_addPair 35 = .ok (.iload_n 2, 1) := by decide +kernel
theorem dX6_addPair_36 : decode cX6_addPair 36 = .ok (.iastore, 1) := by decide +kernel
theorem dX6_addPair_37 : decode cX6_addPair 37 = .ok (.aload_n 0, 1) := by decide +kernel
theorem dX6_addPair_38 : decode cX6_addPair 38 = .ok (.dup, 1) := by decide +kernel
theorem dX6_addPair_39 : decode cX6_addPair 39 = .ok (.getfield 97, 3) := by decide +kernel
theorem dX6_addPair_42 : decode cX6_addPair 42 = .ok (.iconst 1, 1) := by decide +kernel
theorem dX6_addPair_43 : decode cX6_addPair 43 = .ok (.iadd, 1) := by decide +kernel
theorem dX6_addPair_44 : decode cX6_addPair 44 = .ok (.putfield 97, 3) := by decide +kernel
theorem dX6_addPair_47 : decode cX6_addPair 47 = .ok (.return_, 1) := by decide +kernel
theorem dX6_join_0 : decode cX6_join 0 = .ok (.iload_n 1, 1) := by decide +kernel
theorem dX6_join_1 : decode cX6_join 1 = .ok (.ifCond .lt 20, 3) := by decide +kernel
theorem dX6_join_4 : decode cX6_join 4 = .ok (.iload_n 2, 1) := by decide +kernel
theorem dX6_join_5 : decode cX6_join 5 = .ok (.sipush 721, 3) := by decide +kernel
theorem dX6_join_8 : decode cX6_join 8 = .ok (.if_icmp .ge 13, 3) := by decide +kernel
theorem dX6_join_11 : decode cX6_join 11 = .ok (.aload_n 0, 1) := by decide +kernel
theorem dX6_join_12 : decode cX6_join 12 = .ok (.getfield 91, 3) := by decide +kernel
theorem dX6_join_15 : decode cX6_join 15 = .ok (.sipush 721, 3) := by decide +kernel
theorem dX6_join_18 : decode cX6_join 18 = .ok (.if_icmp .lt 4, 3) := by decide +kernel
theorem dX6_join_21 : decode cX6_join 21 = .ok (.return_, 1) := by decide +kernel
theorem dX6_join_22 : decode cX6_join 22 = .ok (.aload_n 0, 1) := by decide +kernel
theorem dX6_join_23 : decode cX6_join 23 = .ok (.getfield 9, 3) := by decide +kernel
theorem dX6_join_26 : decode cX6_join 26 = .ok (.iload_n 2, 1) := by decide +kernel
theorem dX6_join_27 : decode cX6_join 27 = .ok (.iload_n 1, 1) := by decide +kernel
theorem dX6_join_28 : decode cX6_join 28 = .ok (.iastore, 1) := by decide +kernel
theorem dX6_join_29 : decode cX6_join 29 = .ok (.aload_n 0, 1) := by decide +kernel
theorem dX6_join_30 : decode cX6_join 30 = .ok (.getfield 27, 3) := by decide +kernel
theorem dX6_join_33 : decode cX6_join 33 = .ok (.aload_n 0, 1) := by decide +kernel
theorem dX6_join_34 : decode cX6_join 34 = .ok (.getfield 91, 3) := by decide +kernel
theorem dX6_join_37 : decode cX6_join 37 = .ok (.iload_n 2, 1) := by decide +kernel
theorem dX6_join_38 : decode cX6_join 38 = .ok (.iastore, 1) := by decide +kernel
theorem dX6_join_39 : decode cX6_join 39 = .ok (.aload_n 0, 1) := by decide +kernel
theorem dX6_join_40 : decode cX6_join 40 = .ok (.dup, 1) := by decide +kernel
theorem dX6_join_41 : decode cX6_join 41 = .ok (.getfield 91, 3) := by decide +kernel
theorem dX6_join_44 : decode cX6_join 44 = .ok (.iconst 1, 1) := by decide +kernel
theorem dX6_join_45 : decode cX6_join 45 = .ok (.iadd, 1) := by decide +kernel
theorem dX6_join_46 : decode cX6_join 46 = .ok (.putfield 91, 3) := by decide +kernel
theorem dX6_join_49 : decode cX6_join 49 = .ok (.iconst 0, 1) := by decide +kernel
theorem dX6_join_50 : decode cX6_join 50 = .ok (.istore_n 3, 1) := by decide +kernel
theorem dX6_join_51 : decode cX6_join 51 = .ok (.iload_n 3, 1) := by decide +kernel
theorem dX6_join_52 : decode cX6_join 52 = .ok (.bipush 8, 2) := by decide +kernel
theorem dX6_join_54 : decode cX6_join 54 = .ok (.if_icmp .ge 118, 3) := by decide +kernel
theorem dX6_join_57 : decode cX6_join 57 = .ok (.aload_n 0, 1) := by decide +kernel
theorem dX6_join_58 : decode cX6_join 58 = .ok (.getfield 37, 3) := by decide +kernel
theorem dX6_join_61 : decode cX6_join 61 = .ok (.getfield 114, 3) := by decide +kernel
theorem dX6_join_64 : decode cX6_join 64 = .ok (.iload_n 2, 1) := by decide +kernel
theorem dX6_join_65 : decode cX6_join 65 = .ok (.bipush 8, 2) := by decide +kernel
theorem dX6_join_67 : decode cX6_join 67 = .ok (.imul, 1) := by decide +kernel
theorem dX6_join_68 : decode cX6_join 68 = .ok (.iload_n 3, 1) := by decide +kernel
theorem dX6_join_69 : decode cX6_join 69 = .ok (.iadd, 1) := by decide +kernel
theorem dX6_join_70 : decode cX6_join 70 = .ok (.iaload, 1) := by decide +kernel
theorem dX6_join_71 : decode cX6_join 71 = .ok (.istore 4, 2) := by decide +kernel
theorem dX6_join_73 : decode cX6_join 73 = .ok (.iload_n 1, 1) := by decide +kernel
theorem dX6_join_74 : decode cX6_join 74 = .ok (.bipush 8, 2) := by decide +kernel
theorem dX6_join_76 : decode cX6_join 76 = .ok (.imul, 1) := by decide +kernel
theorem dX6_join_77 : decode cX6_join 77 = .ok (.iload_n 3, 1) := by decide +kernel
theorem dX6_join_78 : decode cX6_join 78 = .ok (.iadd, 1) := by decide +kernel
theorem dX6_join_79 : decode cX6_join 79 = .ok (.istore 5, 2) := by decide +kernel
theorem dX6_join_81 : decode cX6_join 81 = .ok (.iload 4, 2) := by decide +kernel
theorem dX6_join_83 : decode cX6_join 83 = .ok (.iconst (-1), 1) := by decide +kernel
theorem dX6_join_84 : decode cX6_join 84 = .ok (.if_icmp .ne 6, 3) := by decide +kernel
theorem dX6_join_87 : decode cX6_join 87 = .ok (.goto 79, 3) := by decide +kernel
theorem dX6_join_90 : decode cX6_join 90 = .ok (.aload_n 0, 1) := by decide +kernel
theorem dX6_join_91 : decode cX6_join 91 = .ok (.getfield 37, 3) := by decide +kernel
theorem dX6_join_94 : decode cX6_join 94 = .ok (.getfield 114, 3) := by decide +kernel
theorem dX6_join_97 : decode cX6_join 97 = .ok (.iload 5, 2) := by decide +kernel
theorem dX6_join_99 : decode cX6_join 99 = .ok (.iaload, 1) := by decide +kernel
theorem dX6_join_100 : decode cX6_join 100 = .ok (.iconst (-1), 1) := by decide +kernel
theorem dX6_join_101 : decode cX6_join 101 = .ok (.if_icmp .eq 22, 3) := by decide +kernel
theorem dX6_join_104 : decode cX6_join 104 = .ok (.aload_n 0, 1) := by decide +kernel
theorem dX6_join_105 : decode cX6_join 105 = .ok (.iload 4, 2) := by decide +kernel
theorem dX6_join_107 : decode cX6_join 107 = .ok (.aload_n 0, 1) := by decide +kernel
theorem dX6_join_108 : decode cX6_join 108 = .ok (.getfield 37, 3) := by decide +kernel
theorem dX6_join_111 : decode cX6_join 111 = .ok (.getfield 114, 3) := by decide +kernel
theorem dX6_join_114 : decode cX6_join 114 = .ok (.iload 5, 2) := by decide +kernel
theorem dX6_join_116 : decode cX6_join 116 = .ok (.iaload, 1) := by decide +kernel
theorem dX6_join_117 : decode cX6_join 117 = .ok (.invokevirtual 100, 3) := by decide +kernel
theorem dX6_join_120 : decode cX6_join 120 = .ok (.goto 46, 3) := by decide +kernel
theorem dX6_join_123 : decode cX6_join 123 = .ok (.aload_n 0, 1) := by decide +kernel
theorem dX6_join_124 : decode cX6_join 124 = .ok (.getfield 94, 3) := by decide +kernel
theorem dX6_join_127 : decode cX6_join 127 = .ok (.sipush 5768, 3) := by decide +kernel
theorem dX6_join_130 : decode cX6_join 130 = .ok (.if_icmp .ge 36, 3) := by decide +kernel
theorem dX6_join_133 : decode cX6_join 133 = .ok (.aload_n 0, 1) := by decide +kernel
theorem dX6_join_134 : decode cX6_join 134 = .ok (.getfield 37, 3) := by decide +kernel
theorem dX6_join_137 : decode cX6_join 137 = .ok (.getfield 114, 3) := by decide +kernel
theorem dX6_join_140 : decode cX6_join 140 = .ok (.iload 5, 2) := by decide +kernel
theorem dX6_join_142 : decode cX6_join 142 = .ok (.iload 4, 2) := by decide +kernel
theorem dX6_join_144 : decode cX6_join 144 = .ok (.iastore, 1) := by decide +kernel
theorem dX6_join_145 : decode cX6_join 145 = .ok (.aload_n 0, 1) := by decide +kernel
theorem dX6_join_146 : decode cX6_join 146 = .ok (.getfield 30, 3) := by decide +kernel
theorem dX6_join_149 : decode cX6_join 149 = .ok (.aload_n 0, 1) := by decide +kernel
theorem dX6_join_150 : decode cX6_join 150 = .ok (.getfield 94, 3) := by decide +kernel
theorem dX6_join_153 : decode cX6_join 153 = .ok (.iload 5, 2) := by decide +kernel
theorem dX6_join_155 : decode cX6_join 155 = .ok (.iastore, 1) := by decide +kernel
theorem dX6_join_156 : decode cX6_join 156 = .ok (.aload_n 0, 1) := by decide +kernel
theorem dX6_join_157 : decode cX6_join 157 = .ok (.dup, 1) := by decide +kernel
theorem dX6_join_158 : decode cX6_join 158 = .ok (.getfield 94, 3) := by decide +kernel
theorem dX6_join_161 : decode cX6_join 161 = .ok (.iconst 1, 1) := by decide +kernel
theorem dX6_join_162 : decode cX6_join 162 = .ok (.iadd, 1) := by decide +kernel
theorem dX6_join_163 : decode cX6_join 163 = .ok (.putfield 94, 3) := by decide +kernel
theorem dX6_join_166 : decode cX6_join 166 = .ok (.iinc 3 1, 3) := by decide +kernel
theorem dX6_join_169 : decode cX6_join 169 = .ok (.goto (-118), 3) := by decide +kernel
theorem dX6_join_172 : decode cX6_join 172 = .ok (.return_, 1) := by decide +kernel
theorem dX6_takeBack_0 : decode cX6_takeBack 0 = .ok (.iconst 0, 1) := by decide +kernel
theorem dX6_takeBack_1 : decode cX6_takeBack 1 = .ok (.istore_n 1, 1) := by decide +kernel
theorem dX6_takeBack_2 : decode cX6_takeBack 2 = .ok (.iload_n 1, 1) := by decide +kernel
theorem dX6_takeBack_3 : decode cX6_takeBack 3 = .ok (.aload_n 0, 1) := by decide +kernel
theorem dX6_takeBack_4 : decode cX6_takeBack 4 = .ok (.getfield 94, 3) := by decide +kernel
theorem dX6_takeBack_7 : decode cX6_takeBack 7 = .ok (.if_icmp .ge 37, 3) := by decide +kernel
theorem dX6_takeBack_10 : decode cX6_takeBack 10 = .ok (.aload_n 0, 1) := by decide +kernel
theorem dX6_takeBack_11 : decode cX6_takeBack 11 = .ok (.getfield 30, 3) := by decide +kernel
theorem dX6_takeBack_14 : decode cX6_takeBack 14 = .ok (.iload_n 1, 1) := by decide +kernel
theorem dX6_takeBack_15 : decode cX6_takeBack 15 = .ok (.iaload, 1) := by decide +kernel
theorem dX6_takeBack_16 : decode cX6_takeBack 16 = .ok (.istore_n 2, 1) := by decide +kernel
theorem dX6_takeBack_17 : decode cX6_takeBack 17 = .ok (.iload_n 2, 1) := by decide +kernel
theorem dX6_takeBack_18 : decode cX6_takeBack 18 = .ok (.ifCond .lt 20, 3) := by decide +kernel
theorem dX6_takeBack_21 : decode cX6_takeBack 21 = .ok (.iload_n 2, 1) := by decide +kernel
theorem dX6_takeBack_22 : decode cX6_takeBack 22 = .ok (.sipush 5768, 3) := by decide +kernel
theorem dX6_takeBack_25 : decode cX6_takeBack 25 = .ok (.if_icmp .ge 13, 3) := by decide +kernel
theorem dX6_takeBack_28 : decode cX6_takeBack 28 = .ok (.aload_n 0, 1) := by decide +kernel
theorem dX6_takeBack_29 : decode cX6_takeBack 29 = .ok (.getfield 37, 3) := by decide +kernel
theorem dX6_takeBack_32 : decode cX6_takeBack 32 = .ok (.getfield 114, 3) := by decide +kernel
theorem dX6_takeBack_35 : decode cX6_takeBack 35 = .ok (.iload_n 2, 1) := by decide +kernel
theorem dX6_takeBack_36 : decode cX6_takeBack 36 = .ok (.iconst (-1), 1) := by decide +kernel
theorem dX6_takeBack_37 : decode cX6_takeBack 37 = .ok (.iastore, 1) := by decide +kernel
theorem dX6_takeBack_38 : decode cX6_takeBack 38 = .ok (.iinc 1 1, 3) := by decide +kernel
theorem dX6_takeBack_41 : decode cX6_takeBack 41 = .ok (.goto (-39), 3) := by decide +kernel
theorem dX6_takeBack_44 : decode cX6_takeBack 44 = .ok (.iconst 0, 1) := by decide +kernel
theorem dX6_takeBack_45 : decode cX6_takeBack 45 = .ok (.istore_n 1, 1) := by decide +kernel
theorem dX6_takeBack_46 : decode cX6_takeBack 46 = .ok (.iload_n 1, 1) := by decide +kernel
theorem dX6_takeBack_47 : decode cX6_takeBack 47 = .ok (.aload_n 0, 1) := by decide +kernel
theorem dX6_takeBack_48 : decode cX6_takeBack 48 = .ok (.getfield 91, 3) := by decide +kernel
theorem dX6_takeBack_51 : decode cX6_takeBack 51 = .ok (.if_icmp .ge 34, 3) := by decide +kernel
theorem dX6_takeBack_54 : decode cX6_takeBack 54 = .ok (.aload_n 0, 1) := by decide +kernel
theorem dX6_takeBack_55 : decode cX6_takeBack 55 = .ok (.getfield 27, 3) := by decide +kernel
theorem dX6_takeBack_58 : decode cX6_takeBack 58 = .ok (.iload_n 1, 1) := by decide +kernel
theorem dX6_takeBack_59 : decode cX6_takeBack 59 = .ok (.iaload, 1) := by decide +kernel
theorem dX6_takeBack_60 : decode cX6_takeBack 60 = .ok (.istore_n 2, 1) := by decide +kernel
theorem dX6_takeBack_61 : decode cX6_takeBack 61 = .ok (.iload_n 2, 1) := by decide +kernel
theorem dX6_takeBack_62 : decode cX6_takeBack 62 = .ok (.ifCond .lt 17, 3) := by decide +kernel
theorem dX6_takeBack_65 : decode cX6_takeBack 65 = .ok (.iload_n 2, 1) := by decide +kernel
theorem dX6_takeBack_66 : decode cX6_takeBack 66 = .ok (.sipush 721, 3) := by decide +kernel
theorem dX6_takeBack_69 : decode cX6_takeBack 69 = .ok (.if_icmp .ge 10, 3) := by decide +kernel
theorem dX6_takeBack_72 : decode cX6_takeBack 72 = .ok (.aload_n 0, 1) := by decide +kernel
theorem dX6_takeBack_73 : decode cX6_takeBack 73 = .ok (.getfield 9, 3) := by decide +kernel
theorem dX6_takeBack_76 : decode cX6_takeBack 76 = .ok (.iload_n 2, 1) := by decide +kernel
theorem dX6_takeBack_77 : decode cX6_takeBack 77 = .ok (.iload_n 2, 1) := by decide +kernel
theorem dX6_takeBack_78 : decode cX6_takeBack 78 = .ok (.iastore, 1) := by decide +kernel
theorem dX6_takeBack_79 : decode cX6_takeBack 79 = .ok (.iinc 1 1, 3) := by decide +kernel
theorem dX6_takeBack_82 : decode cX6_takeBack 82 = .ok (.goto (-36), 3) := by decide +kernel
theorem dX6_takeBack_85 : decode cX6_takeBack 85 = .ok (.return_, 1) := by decide +kernel
theorem dX6_shortenWays_0 : decode cX6_shortenWays 0 = .ok (.iconst 0, 1) := by decide +kernel
theorem dX6_shortenWays_1 : decode cX6_shortenWays 1 = .ok (.istore_n 1, 1) := by decide +kernel
theorem dX6_shortenWays_2 : decode cX6_shortenWays 2 = .ok (.iload_n 1, 1) := by decide +kernel
theorem dX6_shortenWays_3 : decode cX6_shortenWays 3 = .ok (.aload_n 0, 1) := by decide +kernel
theorem dX6_shortenWays_4 : decode cX6_shortenWays 4 = .ok (.getfield 37, 3) := by decide +kernel
theorem dX6_shortenWays_7 : decode cX6_shortenWays 7 = .ok (.getfield 46, 3) := by decide +kernel
theorem dX6_shortenWays_10 : decode cX6_shortenWays 10 = .ok (.if_icmp .ge 27, 3) := by decide +kernel
theorem dX6_shortenWays_13 : decode cX6_shortenWays 13 = .ok (.iload_n 1, 1) := by decide +kernel
theorem dX6_shortenWays_14 : decode cX6_shortenWays 14 = .ok (.sipush 721, 3) := by decide +kernel
theorem dX6_shortenWays_17 : decode cX6_shortenWays 17 = .ok (.if_icmp .ge 20, 3) := by decide +kernel
theorem dX6_shortenWays_20 : decode cX6_shortenWays 20 = .ok (.aload_n 0, 1) := by decide +kernel
theorem dX6_shortenWays_21 : decode cX6_shortenWays 21 = .ok (.getfield 9, 3) := by decide +kernel
theorem dX6_shortenWays_24 : decode cX6_shortenWays 24 = .ok (.iload_n 1, 1) := by decide +kernel
theorem dX6_shortenWays_25 : decode cX6_shortenWays 25 = .ok (.aload_n 0, 1) := by decide +kernel
theorem dX6_shortenWays_26 : decode cX6_shortenWays 26 = .ok (.iload_n 1, 1) := by decide +kernel
theorem dX6_shortenWays_27 : decode cX6_shortenWays 27 = .ok (.invokevirtual 69, 3) := by decide +kernel
theorem dX6_shortenWays_30 : decode cX6_shortenWays 30 = .ok (.iastore, 1) := by decide +kernel
theorem dX6_shortenWays_31 : decode cX6_shortenWays 31 = .ok (.iinc 1 1, 3) := by decide +kernel
theorem dX6_shortenWays_34 : decode cX6_shortenWays 34 = .ok (.goto (-32), 3) := by decide +kernel
theorem dX6_shortenWays_37 : decode cX6_shortenWays 37 = .ok (.return_, 1) := by decide +kernel
theorem dX6_standing_0 : decode cX6_standing 0 = .ok (.iload_n 1, 1) := by decide +kernel
theorem dX6_standing_1 : decode cX6_standing 1 = .ok (.istore_n 2, 1) := by decide +kernel
theorem dX6_standing_2 : decode cX6_standing 2 = .ok (.iconst 0, 1) := by decide +kernel
theorem dX6_standing_3 : decode cX6_standing 3 = .ok (.istore_n 3, 1) := by decide +kernel
theorem dX6_standing_4 : decode cX6_standing 4 = .ok (.iload_n 3, 1) := by decide +kernel
theorem dX6_standing_5 : decode cX6_standing 5 = .ok (.sipush 721, 3) := by decide +kernel
theorem dX6_standing_8 : decode cX6_standing 8 = .ok (.if_icmp .ge 40, 3) := by decide +kernel
theorem dX6_standing_11 : decode cX6_standing 11 = .ok (.iload_n 2, 1) := by decide +kernel
theorem dX6_standing_12 : decode cX6_standing 12 = .ok (.ifCond .lt 36, 3) := by decide +kernel
theorem dX6_standing_15 : decode cX6_standing 15 = .ok (.iload_n 2, 1) := by decide +kernel
theorem dX6_standing_16 : decode cX6_standing 16 = .ok (.sipush 721, 3) := by decide +kernel
theorem dX6_standing_19 : decode cX6_standing 19 = .ok (.if_icmp .ge 29, 3) := by decide +kernel
theorem dX6_standing_22 : decode cX6_standing 22 = .ok (.aload_n 0, 1) := by decide +kernel
theorem dX6_standing_23 : decode cX6_standing 23 = .ok (.getfield 9, 3) := by decide +kernel
theorem dX6_standing_26 : decode cX6_standing 26 = .ok (.iload_n 2, 1) := by decide +kernel
theorem dX6_standing_27 : decode cX6_standing 27 = .ok (.iaload, 1) := by decide +kernel
theorem dX6_standing_28 : decode cX6_standing 28 = .ok (.iload_n 2, 1) := by decide +kernel
theorem dX6_standing_29 : decode cX6_standing 29 = .ok (.if_icmp .ne 6, 3) := by decide +kernel
theorem dX6_standing_32 : decode cX6_standing 32 = .ok (.goto 16, 3) := by decide +kernel
theorem dX6_standing_35 : decode cX6_standing 35 = .ok (.aload_n 0, 1) := by decide +kernel
theorem dX6_standing_36 : decode cX6_standing 36 = .ok (.getfield 9, 3) := by decide +kernel
theorem dX6_standing_39 : decode cX6_standing 39 = .ok (.iload_n 2, 1) := by decide +kernel
theorem dX6_standing_40 : decode cX6_standing 40 = .ok (.iaload, 1) := by decide +kernel
theorem dX6_standing_41 : decode cX6_standing 41 = .ok (.istore_n 2, 1) := by decide +kernel
theorem dX6_standing_42 : decode cX6_standing 42 = .ok (.iinc 3 1, 3) := by decide +kernel
theorem dX6_standing_45 : decode cX6_standing 45 = .ok (.goto (-41), 3) := by decide +kernel
theorem dX6_standing_48 : decode cX6_standing 48 = .ok (.iload_n 2, 1) := by decide +kernel
theorem dX6_standing_49 : decode cX6_standing 49 = .ok (.ifCond .lt 14, 3) := by decide +kernel
theorem dX6_standing_52 : decode cX6_standing 52 = .ok (.iload_n 2, 1) := by decide +kernel
theorem dX6_standing_53 : decode cX6_standing 53 = .ok (.sipush 721, 3) := by decide +kernel
theorem dX6_standing_56 : decode cX6_standing 56 = .ok (.if_icmp .ge 7, 3) := by decide +kernel
theorem dX6_standing_59 : decode cX6_standing 59 = .ok (.iload_n 2, 1) := by decide +kernel
theorem dX6_standing_60 : decode cX6_standing 60 = .ok (.goto 4, 3) := by decide +kernel
theorem dX6_standing_63 : decode cX6_standing 63 = .ok (.iconst (-1), 1) := by decide +kernel
theorem dX6_standing_64 : decode cX6_standing 64 = .ok (.ireturn, 1) := by decide +kernel
theorem dX6_takesBindingRow_0 : decode cX6_takesBindingRow 0 = .ok (.iconst 0, 1) := by decide +kernel
theorem dX6_takesBindingRow_1 : decode cX6_takesBindingRow 1 = .ok (.istore_n 1, 1) := by decide +kernel
theorem dX6_takesBindingRow_2 : decode cX6_takesBindingRow 2 = .ok (.iload_n 1, 1) := by decide +kernel
theorem dX6_takesBindingRow_3 : decode cX6_takesBindingRow 3 = .ok (.aload_n 0, 1) := by decide +kernel
theorem dX6_takesBindingRow_4 : decode cX6_takesBindingRow 4 = .ok (.getfield 33, 3) := by decide +kernel
theorem dX6_takesBindingRow_7 : decode cX6_takesBindingRow 7 = .ok (.getfield 117, 3) := by decide +kernel
theorem dX6_takesBindingRow_10 : decode cX6_takesBindingRow 10 = .ok (.if_icmp .ge 33, 3) := by decide +kernel
theorem dX6_takesBindingRow_13 : decode cX6_takesBindingRow 13 = .ok (.iload_n 1, 1) := by decide +kernel
theorem dX6_takesBindingRow_14 : decode cX6_takesBindingRow 14 = .ok (.bipush 60, 2) := by decide +kernel
theorem dX6_takesBindingRow_16 : decode cX6_takesBindingRow 16 = .ok (.if_icmp .ge 27, 3) := by decide +kernel
theorem dX6_takesBindingRow_19 : decode cX6_takesBindingRow 19 = .ok (.aload_n 0, 1) := by decide +kernel
theorem dX6_takesBindingRow_20 : decode cX6_takesBindingRow 20 = .ok (.aload_n 0, 1) := by decide +kernel
theorem dX6_takesBindingRow_21 : decode cX6_takesBindingRow 21 = .ok (.getfield 33, 3) := by decide +kernel
theorem dX6_takesBindingRow_24 : decode cX6_takesBindingRow 24 = .ok (.getfield 120, 3) := by decide +kernel
theorem dX6_takesBindingRow_27 : decode cX6_takesBindingRow 27 = .ok (.iload_n 1, 1) := by decide +kernel
theorem dX6_takesBindingRow_28 : decode cX6_takesBindingRow 28 = .ok (.iaload, 1) := by decide +kernel
theorem dX6_takesBindingRow_29 : decode cX6_takesBindingRow 29 = .ok (.invokevirtual 123, 3) := by decide +kernel
theorem dX6_takesBindingRow_32 : decode cX6_takesBindingRow 32 = .ok (.ifCond .eq 5, 3) := by decide +kernel
theorem dX6_takesBindingRow_35 : decode cX6_takesBindingRow 35 = .ok (.iconst 1, 1) := by decide +kernel
theorem dX6_takesBindingRow_36 : decode cX6_takesBindingRow 36 = .ok (.ireturn, 1) := by decide +kernel
theorem dX6_takesBindingRow_37 : decode cX6_takesBindingRow 37 = .ok (.iinc 1 1, 3) := by decide +kernel
theorem dX6_takesBindingRow_40 : decode cX6_takesBindingRow 40 = .ok (.goto (-38), 3) := by decide +kernel
theorem dX6_takesBindingRow_43 : decode cX6_takesBindingRow 43 = .ok (.iconst 0, 1) := by decide +kernel
theorem dX6_takesBindingRow_44 : decode cX6_takesBindingRow 44 = .ok (.ireturn, 1) := by decide +kernel
theorem dX6_takesRow_0 : decode cX6_takesRow 0 = .ok (.iconst 0, 1) := by decide +kernel
theorem dX6_takesRow_1 : decode cX6_takesRow 1 = .ok (.istore_n 2, 1) := by decide +kernel
theorem dX6_takesRow_2 : decode cX6_takesRow 2 = .ok (.aload_n 0, 1) := by decide +kernel
theorem dX6_takesRow_3 : decode cX6_takesRow 3 = .ok (.getfield 33, 3) := by decide +kernel
theorem dX6_takesRow_6 : decode cX6_takesRow 6 = .ok (.iload_n 1, 1) := by decide +kernel
theorem dX6_takesRow_7 : decode cX6_takesRow 7 = .ok (.invokevirtual 126, 3) := by decide +kernel
theorem dX6_takesRow_10 : decode cX6_takesRow 10 = .ok (.istore_n 3, 1) := by decide +kernel
theorem dX6_takesRow_11 : decode cX6_takesRow 11 = .ok (.iconst 0, 1) := by decide +kernel
theorem dX6_takesRow_12 : decode cX6_takesRow 12 = .ok (.istore 4, 2) := by decide +kernel
theorem dX6_takesRow_14 : decode cX6_takesRow 14 = .ok (.iload 4, 2) := by decide +kernel
theorem dX6_takesRow_16 : decode cX6_takesRow 16 = .ok (.iload_n 3, 1) := by decide +kernel
theorem dX6_takesRow_17 : decode cX6_takesRow 17 = .ok (.if_icmp .ge 39, 3) := by decide +kernel
theorem dX6_takesRow_20 : decode cX6_takesRow 20 = .ok (.aload_n 0, 1) := by decide +kernel
theorem dX6_takesRow_21 : decode cX6_takesRow 21 = .ok (.aload_n 0, 1) := by decide +kernel
theorem dX6_takesRow_22 : decode cX6_takesRow 22 = .ok (.getfield 37, 3) := by decide +kernel
theorem dX6_takesRow_25 : decode cX6_takesRow 25 = .ok (.iload_n 2, 1) := by decide +kernel
theorem dX6_takesRow_26 : decode cX6_takesRow 26 = .ok (.aload_n 0, 1) := by decide +kernel
theorem dX6_takesRow_27 : decode cX6_takesRow 27 = .ok (.getfield 33, 3) := by decide +kernel
theorem dX6_takesRow_30 : decode cX6_takesRow 30 = .ok (.iload_n 1, 1) := by decide +kernel
theorem dX6_takesRow_31 : decode cX6_takesRow 31 = .ok (.iload 4, 2) := by decide +kernel
theorem dX6_takesRow_33 : decode cX6_takesRow 33 = .ok (.invokevirtual 129, 3) := by decide +kernel
theorem dX6_takesRow_36 : decode cX6_takesRow 36 = .ok (.invokevirtual 65, 3) := by decide +kernel
theorem dX6_takesRow_39 : decode cX6_takesRow 39 = .ok (.invokevirtual 69, 3) := by decide +kernel
theorem dX6_takesRow_42 : decode cX6_takesRow 42 = .ok (.istore_n 2, 1) := by decide +kernel
theorem dX6_takesRow_43 : decode cX6_takesRow 43 = .ok (.iload_n 2, 1) := by decide +kernel
theorem dX6_takesRow_44 : decode cX6_takesRow 44 = .ok (.iconst (-1), 1) := by decide +kernel
theorem dX6_takesRow_45 : decode cX6_takesRow 45 = .ok (.if_icmp .ne 5, 3) := by decide +kernel
theorem dX6_takesRow_48 : decode cX6_takesRow 48 = .ok (.iconst 0, 1) := by decide +kernel
theorem dX6_takesRow_49 : decode cX6_takesRow 49 = .ok (.ireturn, 1) := by decide +kernel
theorem dX6_takesRow_50 : decode cX6_takesRow 50 = .ok (.iinc 4 1, 3) := by decide +kernel
theorem dX6_takesRow_53 : decode cX6_takesRow 53 = .ok (.goto (-39), 3) := by decide +kernel
theorem dX6_takesRow_56 : decode cX6_takesRow 56 = .ok (.iconst 1, 1) := by decide +kernel
theorem dX6_takesRow_57 : decode cX6_takesRow 57 = .ok (.ireturn, 1) := by decide +kernel
theorem dX7_init_0 : decode cX7_init 0 = .ok (.aload_n 0, 1) := by decide +kernel
theorem dX7_init_1 : decode cX7_init 1 = .ok (.invokespecial 3, 3) := by decide +kernel
theorem dX7_init_4 : decode cX7_init 4 = .ok (.aload_n 0, 1) := by decide +kernel
theorem dX7_init_5 : decode cX7_init 5 = .ok (.sipush 390, 3) := by decide +kernel
theorem dX7_init_8 : decode cX7_init 8 = .ok (.newarray .int, 2) := by decide +kernel
theorem dX7_init_10 : decode cX7_init 10 = .ok (.putfield 9, 3) := by decide +kernel
theorem dX7_init_13 : decode cX7_init 13 = .ok (.aload_n 0, 1) := by decide +kernel
theorem dX7_init_14 : decode cX7_init 14 = .ok (.new 15, 3) := by decide +kernel
theorem dX7_init_17 : decode cX7_init 17 = .ok (.dup, 1) := by decide +kernel
theorem dX7_init_18 : decode cX7_init 18 = .ok (.bipush 24, 2) := by decide +kernel
theorem dX7_init_20 : decode cX7_init 20 = .ok (.invokespecial 17, 3) := by decide +kernel
theorem dX7_init_23 : decode cX7_init 23 = .ok (.putfield 20, 3) := by decide +kernel
theorem dX7_init_26 : decode cX7_init 26 = .ok (.aload_n 0, 1) := by decide +kernel
theorem dX7_init_27 : decode cX7_init 27 = .ok (.aload_n 1, 1) := by decide +kernel
theorem dX7_init_28 : decode cX7_init 28 = .ok (.putfield 24, 3) := by decide +kernel
theorem dX7_init_31 : decode cX7_init 31 = .ok (.aload_n 0, 1) := by decide +kernel
theorem dX7_init_32 : decode cX7_init 32 = .ok (.aload_n 2, 1) := by decide +kernel
theorem dX7_init_33 : decode cX7_init 33 = .ok (.putfield 27, 3) := by decide +kernel
theorem dX7_init_36 : decode cX7_init 36 = .ok (.return_, 1) := by decide +kernel
theorem dX7_mendHand_0 : decode cX7_mendHand 0 = .ok (.aload_n 0, 1) := by decide +kernel
theorem dX7_mendHand_1 : decode cX7_mendHand 1 = .ok (.invokevirtual 31, 3) := by decide +kernel
theorem dX7_mendHand_4 : decode cX7_mendHand 4 = .ok (.aload_n 0, 1) := by decide +kernel
theorem dX7_mendHand_5 : decode cX7_mendHand 5 = .ok (.invokevirtual 34, 3) := by decide +kernel
theorem dX7_mendHand_8 : decode cX7_mendHand 8 = .ok (.aload_n 0, 1) := by decide +kernel
theorem dX7_mendHand_9 : decode cX7_mendHand 9 = .ok (.getfield 20, 3) := by decide +kernel
theorem dX7_mendHand_12 : decode cX7_mendHand 12 = .ok (.getfield 37, 3) := by decide +kernel
theorem dX7_mendHand_15 : decode cX7_mendHand 15 = .ok (.bipush 12, 2) := by decide +kernel
theorem dX7_mendHand_17 : decode cX7_mendHand 17 = .ok (.if_icmp .le 5, 3) := by decide +kernel
theorem dX7_mendHand_20 : decode cX7_mendHand 20 = .ok (.iconst (-1), 1) := by decide +kernel
theorem dX7_mendHand_21 : decode cX7_mendHand 21 = .ok (.ireturn, 1) := by decide +kernel
theorem dX7_mendHand_22 : decode cX7_mendHand 22 = .ok (.aload_n 0, 1) := by decide +kernel
theorem dX7_mendHand_23 : decode cX7_mendHand 23 = .ok (.iconst 0, 1) := by decide +kernel
theorem dX7_mendHand_24 : decode cX7_mendHand 24 = .ok (.iconst 0, 1) := by decide +kernel
theorem dX7_mendHand_25 : decode cX7_mendHand 25 = .ok (.invokevirtual 41, 3) := by decide +kernel
theorem dX7_mendHand_28 : decode cX7_mendHand 28 = .ok (.istore_n 1, 1) := by decide +kernel
theorem dX7_mendHand_29 : decode cX7_mendHand 29 = .ok (.aload_n 0, 1) := by decide +kernel
theorem dX7_mendHand_30 : decode cX7_mendHand 30 = .ok (.getfield 24, 3) := by decide +kernel
theorem dX7_mendHand_33 : decode cX7_mendHand 33 = .ok (.iconst 0, 1) := by decide +kernel
theorem dX7_mendHand_34 : decode cX7_mendHand 34 = .ok (.putfield 37, 3) := by decide +kernel
theorem dX7_mendHand_37 : decode cX7_mendHand 37 = .ok (.iconst 0, 1) := by decide +kernel
theorem dX7_mendHand_38 : decode cX7_mendHand 38 = .ok (.istore_n 2, 1) := by decide +kernel
theorem dX7_mendHand_39 : decode cX7_mendHand 39 = .ok (.iload_n 2, 1) := by decide +kernel
theorem dX7_mendHand_40 : decode cX7_mendHand 40 = .ok (.aload_n 0, 1) := by decide +kernel
theorem dX7_mendHand_41 : decode cX7_mendHand 41 = .ok (.getfield 20, 3) := by decide +kernel
theorem dX7_mendHand_44 : decode cX7_mendHand 44 = .ok (.getfield 37, 3) := by decide +kernel
theorem dX7_mendHand_47 : decode cX7_mendHand 47 = .ok (.if_icmp .ge 25, 3) := by decide +kernel
theorem dX7_mendHand_50 : decode cX7_mendHand 50 = .ok (.aload_n 0, 1) := by decide +kernel
theorem dX7_mendHand_51 : decode cX7_mendHand 51 = .ok (.getfield 24, 3) := by decide +kernel
theorem dX7_mendHand_54 : decode cX7_mendHand 54 = .ok (.aload_n 0, 1) := by decide +kernel
theorem dX7_mendHand_55 : decode cX7_mendHand 55 = .ok (.getfield 20, 3) := by decide +kernel
theorem dX7_mendHand_58 : decode cX7_mendHand 58 = .ok (.iload_n 2, 1) := by decide +kernel
theorem dX7_mendHand_59 : decode cX7_mendHand 59 = .ok (.invokevirtual 45, 3) := by decide +kernel
theorem dX7_mendHand_62 : decode cX7_mendHand 62 = .ok (.invokevirtual 49, 3) := by decide +kernel
theorem dX7_mendHand_65 : decode cX7_mendHand 65 = .ok (.pop, 1) := by decide +kernel
theorem dX7_mendHand_66 : decode cX7_mendHand 66 = .ok (.iinc 2 1, 3) := by decide +kernel
theorem dX7_mendHand_69 : decode cX7_mendHand 69 = .ok (.goto (-30), 3) := by decide +kernel
theorem dX7_mendHand_72 : decode cX7_mendHand 72 = .ok (.iload_n 1, 1) := by decide +kernel
theorem dX7_mendHand_73 : decode cX7_mendHand 73 = .ok (.ireturn, 1) := by decide +kernel
theorem dX7_costFrom_0 : decode cX7_costFrom 0 = .ok (.iload_n 1, 1) := by decide +kernel
theorem dX7_costFrom_1 : decode cX7_costFrom 1 = .ok (.ifCond .lt 19, 3) := by decide +kernel
theorem dX7_costFrom_4 : decode cX7_costFrom 4 = .ok (.iload_n 1, 1) := by decide +kernel
theorem dX7_costFrom_5 : decode cX7_costFrom 5 = .ok (.bipush 12, 2) := by decide +kernel
theorem dX7_costFrom_7 : decode cX7_costFrom 7 = .ok (.if_icmp .gt 13, 3) := by decide +kernel
theorem dX7_costFrom_10 : decode cX7_costFrom 10 = .ok (.iload_n 2, 1) := by decide +kernel
theorem dX7_costFrom_11 : decode cX7_costFrom 11 = .ok (.ifCond .lt 9, 3) := by decide +kernel
theorem dX7_costFrom_14 : decode cX7_costFrom 14 = .ok (.iload_n 2, 1) := by decide +kernel
theorem dX7_costFrom_15 : decode cX7_costFrom 15 = .ok (.bipush 30, 2) := by decide +kernel
theorem dX7_costFrom_17 : decode cX7_costFrom 17 = .ok (.if_icmp .lt 6, 3) := by decide +kernel
theorem dX7_costFrom_20 : decode cX7_costFrom 20 = .ok (.bipush 13, 2) := by decide +kernel
theorem dX7_costFrom_22 : decode cX7_costFrom 22 = .ok (.ireturn, 1) := by decide +kernel
theorem dX7_costFrom_23 : decode cX7_costFrom 23 = .ok (.aload_n 0, 1) := by decide +kernel
theorem dX7_costFrom_24 : decode cX7_costFrom 24 = .ok (.getfield 9, 3) := by decide +kernel
theorem dX7_costFrom_27 : decode cX7_costFrom 27 = .ok (.iload_n 1, 1) := by decide +kernel
theorem dX7_costFrom_28 : decode cX7_costFrom 28 = .ok (.bipush 30, 2) := by decide +kernel
theorem dX7_costFrom_30 : decode cX7_costFrom 30 = .ok (.imul, 1) := by decide +kernel
theorem dX7_costFrom_31 : decode cX7_costFrom 31 = .ok (.iload_n 2, 1) := by decide +kernel
theorem dX7_costFrom_32 : decode cX7_costFrom 32 = .ok (.iadd, 1) := by decide +kernel
theorem dX7_costFrom_33 : decode cX7_costFrom 33 = .ok (.iaload, 1) := by decide +kernel
theorem dX7_costFrom_34 : decode cX7_costFrom 34 = .ok (.ireturn, 1) := by decide +kernel
theorem dX7_reckonCosts_0 : decode cX7_reckonCosts 0 = .ok (.aload_n 0, 1) := by decide +kernel
theorem dX7_reckonCosts_1 : decode cX7_reckonCosts 1 = .ok (.getfield 9, 3) := by decide +kernel
theorem dX7_reckonCosts_4 : decode cX7_reckonCosts 4 = .ok (.iconst 0, 1) := by decide +kernel
theorem dX7_reckonCosts_5 : decode cX7_reckonCosts 5 = .ok (.invokestatic 53, 3) := by decide +kernel
theorem dX7_reckonCosts_8 : decode cX7_reckonCosts 8 = .ok (.aload_n 0, 1) := by decide +kernel
theorem dX7_reckonCosts_9 : decode cX7_reckonCosts 9 = .ok (.getfield 24, 3) := by decide +kernel
theorem dX7_reckonCosts_12 : decode cX7_reckonCosts 12 = .ok (.getfield 37, 3) := by decide +kernel
theorem dX7_reckonCosts_15 : decode cX7_reckonCosts 15 = .ok (.iconst 1, 1) := by decide +kernel
theorem dX7_reckonCosts_16 : decode cX7_reckonCosts 16 = .ok (.isub, 1) := by decide +kernel
theorem dX7_reckonCosts_17 : decode cX7_reckonCosts 17 = .ok (.istore_n 1, 1) := by decide +kernel
theorem dX7_reckonCosts_18 : decode cX7_reckonCosts 18 = .ok (.iload_n 1, 1) := by decide +kernel
theorem dX7_reckonCosts_19 : decode cX7_reckonCosts 19 = .ok (.ifCond .lt 102, 3) := by decide +kernel
theorem dX7_reckonCosts_22 : decode cX7_reckonCosts 22 = .ok (.iload_n 1, 1) := by decide +kernel
theorem dX7_reckonCosts_23 : decode cX7_reckonCosts 23 = .ok (.bipush 12, 2) := by decide +kernel
theorem dX7_reckonCosts_25 : decode cX7_reckonCosts 25 = .ok (.if_icmp .ge 96, 3) := by decide +kernel
theorem dX7_reckonCosts_28 : decode cX7_reckonCosts 28 = .ok (.iconst 0, 1) := by decide +kernel
theorem dX7_reckonCosts_29 : decode cX7_reckonCosts 29 = .ok (.istore_n 2, 1) := by decide +kernel
theorem dX7_reckonCosts_30 : decode cX7_reckonCosts 30 = .ok (.iload_n 2, 1) := by decide +kernel
theorem dX7_reckonCosts_31 : decode cX7_reckonCosts 31 = .ok (.aload_n 0, 1) := by decide +kernel
theorem dX7_reckonCosts_32 : decode cX7_reckonCosts 32 = .ok (.getfield 27, 3) := by decide +kernel
theorem dX7_reckonCosts_35 : decode cX7_reckonCosts 35 = .ok (.getfield 59, 3) := by decide +kernel
theorem dX7_reckonCosts_38 : decode cX7_reckonCosts 38 = .ok (.if_icmp .ge 51, 3) := by decide +kernel
theorem dX7_reckonCosts_41 : decode cX7_reckonCosts 41 = .ok (.iload_n 2, 1) := by decide +kernel
theorem dX7_reckonCosts_42 : decode cX7_reckonCosts 42 = .ok (.bipush 30, 2) := by decide +kernel
theorem dX7_reckonCosts_44 : decode cX7_reckonCosts 44 = .ok (.if_icmp .ge 45, 3) := by decide +kernel
theorem dX7_reckonCosts_47 : decode cX7_reckonCosts 47 = .ok (.iconst 1, 1) := by decide +kernel
theorem dX7_reckonCosts_48 : decode cX7_reckonCosts 48 = .ok (.aload_n 0, 1) := by decide +kernel
theorem dX7_reckonCosts_49 : decode cX7_reckonCosts 49 = .ok (.iload_n 1, 1) := by decide +kernel
theorem dX7_reckonCosts_50 : decode cX7_reckonCosts 50 = .ok (.iconst 1, 1) := by decide +kernel
theorem dX7_reckonCosts_51 : decode cX7_reckonCosts 51 = .ok (.iadd, 1) := by decide +kernel
theorem dX7_reckonCosts_52 : decode cX7_reckonCosts 52 = .ok (.iload_n 2, 1) := by decide +kernel
theorem dX7_reckonCosts_53 : decode cX7_reckonCosts 53 = .ok (.invokevirtual 41, 3) := by decide +kernel
theorem dX7_reckonCosts_56 : decode cX7_reckonCosts 56 = .ok (.iadd, 1) := by decide +kernel
theorem dX7_reckonCosts_57 : decode cX7_reckonCosts 57 = .ok (.istore_n 3, 1) := by decide +kernel
theorem dX7_reckonCosts_58 : decode cX7_reckonCosts 58 = .ok (.aload_n 0, 1) := by decide +kernel
theorem dX7_reckonCosts_59 : decode cX7_reckonCosts 59 = .ok (.iload_n 1, 1) := by decide +kernel
theorem dX7_reckonCosts_60 : decode cX7_reckonCosts 60 = .ok (.iload_n 2, 1) := by decide +kernel
theorem dX7_reckonCosts_61 : decode cX7_reckonCosts 61 = .ok (.invokevirtual 64, 3) := by decide +kernel
theorem dX7_reckonCosts_64 : decode cX7_reckonCosts 64 = .ok (.istore 4, 2) := by decide +kernel
theorem dX7_reckonCosts_66 : decode cX7_reckonCosts 66 = .ok (.aload_n 0, 1) := by decide +kernel
theorem dX7_reckonCosts_67 : decode cX7_reckonCosts 67 = .ok (.getfield 9, 3) := by decide +kernel
theorem dX7_reckonCosts_70 : decode cX7_reckonCosts 70 = .ok (.iload_n 1, 1) := by decide +kernel
theorem dX7_reckonCosts_71 : decode cX7_reckonCosts 71 = .ok (.bipush 30, 2) := by decide +kernel
theorem dX7_reckonCosts_73 : decode cX7_reckonCosts 73 = .ok (.imul, 1) := by decide +kernel
theorem dX7_reckonCosts_74 : decode cX7_reckonCosts 74 = .ok (.iload_n 2, 1) := by decide +kernel
theorem dX7_reckonCosts_75 : decode cX7_reckonCosts 75 = .ok (.iadd, 1) := by decide +kernel
theorem dX7_reckonCosts_76 : decode cX7_reckonCosts 76 = .ok (.iload_n 3, 1) := by decide +kernel
theorem dX7_reckonCosts_77 : decode cX7_reckonCosts 77 = .ok (.iload 4, 2) := by decide +kernel
theorem dX7_reckonCosts_79 : decode cX7_reckonCosts 79 = .ok (.invokestatic 67, 3) := by decide +kernel
theorem dX7_reckonCosts_82 : decode cX7_reckonCosts 82 = .ok (.iastore, 1) := by decide +kernel
theorem dX7_reckonCosts_83 : decode cX7_reckonCosts 83 = .ok (.iinc 2 1, 3) := by decide +kernel
theorem dX7_reckonCosts_86 : decode cX7_reckonCosts 86 = .ok (.goto (-56), 3) := by decide +kernel
theorem dX7_reckonCosts_89 : decode cX7_reckonCosts 89 = .ok (.iconst 1, 1) := by decide +kernel
theorem dX7_reckonCosts_90 : decode cX7_reckonCosts 90 = .ok (.istore_n 2, 1) := by decide +kernel
theorem dX7_reckonCosts_91 : decode cX7_reckonCosts 91 = .ok (.iconst 0, 1) := by decide +kernel
theorem dX7_reckonCosts_92 : decode cX7_reckonCosts 92 = .ok (.istore_n 3, 1) := by decide +kernel
theorem dX7_reckonCosts_93 : decode cX7_reckonCosts 93 = .ok (.iload_n 3, 1) := by decide +kernel
theorem dX7_reckonCosts_94 : decode cX7_reckonCosts 94 = .ok (.bipush 12, 2) := by decide +kernel
theorem dX7_reckonCosts_96 : decode cX7_reckonCosts 96 = .ok (.if_icmp .gt 19, 3) := by decide +kernel
theorem dX7_reckonCosts_99 : decode cX7_reckonCosts 99 = .ok (.iload_n 2, 1) := by decide +kernel
theorem dX7_reckonCosts_100 : decode cX7_reckonCosts 100 = .ok (.ifCond .eq 15, 3) := by decide +kernel
theorem dX7_reckonCosts_103 : decode cX7_reckonCosts 103 = .ok (.aload_n 0, 1) := by decide +kernel
theorem dX7_reckonCosts_104 : decode cX7_reckonCosts 104 = .ok (.iload_n 1, 1) := by decide +kernel
theorem dX7_reckonCosts_105 : decode cX7_reckonCosts 105 = .ok (.invokevirtual 72, 3) := by decide +kernel
theorem dX7_reckonCosts_108 : decode cX7_reckonCosts 108 = .ok (.istore_n 2, 1) := by decide +kernel
theorem dX7_reckonCosts_109 : decode cX7_reckonCosts 109 = .ok (.iinc 3 1, 3) := by decide +kernel
theorem dX7_reckonCosts_112 : decode cX7_reckonCosts 112 = .ok (.goto (-19), 3) := by decide +kernel
theorem dX7_reckonCosts_115 : decode cX7_reckonCosts 115 = .ok (.iinc 1 (-1), 3) := by decide +kernel
theorem dX7_reckonCosts_118 : decode cX7_reckonCosts 118 = .ok (.goto (-100), 3) := by decide +kernel
theorem dX7_reckonCosts_121 : decode cX7_reckonCosts 121 = .ok (.return_, 1) := by decide +kernel
theorem dX7_costKeeping_0 : decode cX7_costKeeping 0 = .ok (.aload_n 0, 1) := by decide +kernel
theorem dX7_costKeeping_1 : decode cX7_costKeeping 1 = .ok (.getfield 27, 3) := by decide +kernel
theorem dX7_costKeeping_4 : decode cX7_costKeeping 4 = .ok (.iload_n 2, 1) := by decide +kernel
theorem dX7_costKeeping_5 : decode cX7_costKeeping 5 = .ok (.aload_n 0, 1) := by decide +kernel
theorem dX7_costKeeping_6 : decode cX7_costKeeping 6 = .ok (.getfield 24, 3) := by decide +kernel
theorem dX7_costKeeping_9 : decode cX7_costKeeping 9 = .ok (.iload_n 1, 1) := by decide +kernel
theorem dX7_costKeeping_10 : decode cX7_costKeeping 10 = .ok (.invokevirtual 45, 3) := by decide +kernel
theorem dX7_costKeeping_13 : decode cX7_costKeeping 13 = .ok (.invokevirtual 75, 3) := by decide +kernel
theorem dX7_costKeeping_16 : decode cX7_costKeeping 16 = .ok (.istore_n 3, 1) := by decide +kernel
theorem dX7_costKeeping_17 : decode cX7_costKeeping 17 = .ok (.iload_n 3, 1) := by decide +kernel
theorem dX7_costKeeping_18 : decode cX7_costKeeping 18 = .ok (.iconst (-1), 1) := by decide +kernel
theorem dX7_costKeeping_19 : decode cX7_costKeeping 19 = .ok (.if_icmp .ne 8, 3) := by decide +kernel
theorem dX7_costKeeping_22 : decode cX7_costKeeping 22 = .ok (.bipush 13, 2) := by decide +kernel
theorem dX7_costKeeping_24 : decode cX7_costKeeping 24 = .ok (.goto 11, 3) := by decide +kernel
theorem dX7_costKeeping_27 : decode cX7_costKeeping 27 = .ok (.aload_n 0, 1) := by decide +kernel
theorem dX7_costKeeping_28 : decode cX7_costKeeping 28 = .ok (.iload_n 1, 1) := by decide +kernel
theorem dX7_costKeeping_29 : decode cX7_costKeeping 29 = .ok (.iconst 1, 1) := by decide +kernel
theorem dX7_costKeeping_30 : decode cX7_costKeeping 30 = .ok (.iadd, 1) := by decide +kernel
theorem dX7_costKeeping_31 : decode cX7_costKeeping 31 = .ok (.iload_n 3, 1) := by decide +kernel
theorem dX7_costKeeping_32 : decode cX7_costKeeping 32 = .ok (.invokevirtual 41, 3) := by decide +kernel
theorem dX7_costKeeping_35 : decode cX7_costKeeping 35 = .ok (.ireturn, 1) := by decide +kernel
theorem dX7_costPutting_0 : decode cX7_costPutting 0 = .ok (.aload_n 0, 1) := by decide +kernel
theorem dX7_costPutting_1 : decode cX7_costPutting 1 = .ok (.getfield 27, 3) := by decide +kernel
theorem dX7_costPutting_4 : decode cX7_costPutting 4 = .ok (.iload_n 2, 1) := by decide +kernel
theorem dX7_costPutting_5 : decode cX7_costPutting 5 = .ok (.iload_n 3, 1) := by decide +kernel
theorem dX7_costPutting_6 : decode cX7_costPutting 6 = .ok (.invokevirtual 75, 3) := by decide +kernel
theorem dX7_costPutting_9 : decode cX7_costPutting 9 = .ok (.istore 4, 2) := by decide +kernel
theorem dX7_costPutting_11 : decode cX7_costPutting 11 = .ok (.iload 4, 2) := by decide +kernel
theorem dX7_costPutting_13 : decode cX7_costPutting 13 = .ok (.iconst (-1), 1) := by decide +kernel
theorem dX7_costPutting_14 : decode cX7_costPutting 14 = .ok (.if_icmp .ne 8, 3) := by decide +kernel
theorem dX7_costPutting_17 : decode cX7_costPutting 17 = .ok (.bipush 13, 2) := by decide +kernel
theorem dX7_costPutting_19 : decode cX7_costPutting 19 = .ok (.goto 12, 3) := by decide +kernel
theorem dX7_costPutting_22 : decode cX7_costPutting 22 = .ok (.iconst 1, 1) := by decide +kernel
theorem dX7_costPutting_23 : decode cX7_costPutting 23 = .ok (.aload_n 0, 1) := by decide +kernel
theorem dX7_costPutting_24 : decode cX7_costPutting 24 = .ok (.iload_n 1, 1) := by decide +kernel
theorem dX7_costPutting_25 : decode cX7_costPutting 25 = .ok (.iload 4, 2) := by decide +kernel
theorem dX7_costPutting_27 : decode cX7_costPutting 27 = .ok (.invokevirtual 41, 3) := by decide +kernel
theorem dX7_costPutting_30 : decode cX7_costPutting 30 = .ok (.iadd, 1) := by decide +kernel
theorem dX7_costPutting_31 : decode cX7_costPutting 31 = .ok (.ireturn, 1) := by decide +kernel
theorem dX7_lowerByPutting_0 : decode cX7_lowerByPutting 0 = .ok (.iconst 0, 1) := by decide +kernel
theorem dX7_lowerByPutting_1 : decode cX7_lowerByPutting 1 = .ok (.istore_n 2, 1) := by decide +kernel
theorem dX7_lowerByPutting_2 : decode cX7_lowerByPutting 2 = .ok (.iconst 0, 1) := by decide +kernel
theorem dX7_lowerByPutting_3 : decode cX7_lowerByPutting 3 = .ok (.istore_n 3, 1) := by decide +kernel
theorem dX7_lowerByPutting_4 : decode cX7_lowerByPutting 4 = .ok (.iload_n 3, 1) := by decide +kernel
theorem dX7_lowerByPutting_5 : decode cX7_lowerByPutting 5 = .ok (.aload_n 0, 1) := by decide +kernel
theorem dX7_lowerByPutting_6 : decode cX7_lowerByPutting 6 = .ok (.getfield 27, 3) := by decide +kernel
theorem dX7_lowerByPutting_9 : decode cX7_lowerByPutting 9 = .ok (.getfield 59, 3) := by decide +kernel
theorem dX7_lowerByPutting_12 : decode cX7_lowerByPutting 12 = .ok (.if_icmp .ge 82, 3) := by decide +kernel
theorem dX7_lowerByPutting_15 : decode cX7_lowerByPutting 15 = .ok (.iload_n 3, 1) := by decide +kernel
theorem dX7_lowerByPutting_16 : decode cX7_lowerByPutting 16 = .ok (.bipush 30, 2) := by decide +kernel
theorem dX7_lowerByPutting_18 : decode cX7_lowerByPutting 18 = .ok (.if_icmp .ge 76, 3) := by decide +kernel
theorem dX7_lowerByPutting_21 : decode cX7_lowerByPutting 21 = .ok (.iconst 0, 1) := by decide +kernel
theorem dX7_lowerByPutting_22 : decode cX7_lowerByPutting 22 = .ok (.istore 4, 2) := by decide +kernel
theorem dX7_lowerByPutting_24 : decode cX7_lowerByPutting 24 = .ok (.iload 4, 2) := by decide +kernel
theorem dX7_lowerByPutting_26 : decode cX7_lowerByPutting 26 = .ok (.bipush 8, 2) := by decide +kernel
theorem dX7_lowerByPutting_28 : decode cX7_lowerByPutting 28 = .ok (.if_icmp .ge 60, 3) := by decide +kernel
theorem dX7_lowerByPutting_31 : decode cX7_lowerByPutting 31 = .ok (.aload_n 0, 1) := by decide +kernel
theorem dX7_lowerByPutting_32 : decode cX7_lowerByPutting 32 = .ok (.iload_n 1, 1) := by decide +kernel
theorem dX7_lowerByPutting_33 : decode cX7_lowerByPutting 33 = .ok (.iload_n 3, 1) := by decide +kernel
theorem dX7_lowerByPutting_34 : decode cX7_lowerByPutting 34 = .ok (.iload 4, 2) := by decide +kernel
theorem dX7_lowerByPutting_36 : decode cX7_lowerByPutting 36 = .ok (.invokevirtual 78, 3) := by decide +kernel
theorem dX7_lowerByPutting_39 : decode cX7_lowerByPutting 39 = .ok (.istore 5, 2) := by decide +kernel
theorem dX7_lowerByPutting_41 : decode cX7_lowerByPutting 41 = .ok (.iload_n 1, 1) := by decide +kernel
theorem dX7_lowerByPutting_42 : decode cX7_lowerByPutting 42 = .ok (.ifCond .lt 40, 3) := by decide +kernel
theorem dX7_lowerByPutting_45 : decode cX7_lowerByPutting 45 = .ok (.iload_n 1, 1) := by decide +kernel
theorem dX7_lowerByPutting_46 : decode cX7_lowerByPutting 46 = .ok (.bipush 12, 2) := by decide +kernel
theorem dX7_lowerByPutting_48 : decode cX7_lowerByPutting 48 = .ok (.if_icmp .ge 34, 3) := by decide +kernel
theorem dX7_lowerByPutting_51 : decode cX7_lowerByPutting 51 = .ok (.iload 5, 2) := by decide +kernel
theorem dX7_lowerByPutting_53 : decode cX7_lowerByPutting 53 = .ok (.aload_n 0, 1) := by decide +kernel
theorem dX7_lowerByPutting_54 : decode cX7_lowerByPutting 54 = .ok (.getfield 9, 3) := by decide +kernel
theorem dX7_lowerByPutting_57 : decode cX7_lowerByPutting 57 = .ok (.iload_n 1, 1) := by decide +kernel
theorem dX7_lowerByPutting_58 : decode cX7_lowerByPutting 58 = .ok (.bipush 30, 2) := by decide +kernel
theorem dX7_lowerByPutting_60 : decode cX7_lowerByPutting 60 = .ok (.imul, 1) := by decide +kernel
theorem dX7_lowerByPutting_61 : decode cX7_lowerByPutting 61 = .ok (.iload_n 3, 1) := by decide +kernel
theorem dX7_lowerByPutting_62 : decode cX7_lowerByPutting 62 = .ok (.iadd, 1) := by decide +kernel
theorem dX7_lowerByPutting_63 : decode cX7_lowerByPutting 63 = .ok (.iaload, 1) := by decide +kernel
theorem dX7_lowerByPutting_64 : decode cX7_lowerByPutting 64 = .ok (.if_icmp .ge 18, 3) := by decide +kernel
theorem dX7_lowerByPutting_67 : decode cX7_lowerByPutting 67 = .ok (.aload_n 0, 1) := by decide +kernel
theorem dX7_lowerByPutting_68 : decode cX7_lowerByPutting 68 = .ok (.getfield 9, 3) := by decide +kernel
theorem dX7_lowerByPutting_71 : decode cX7_lowerByPutting 71 = .ok (.iload_n 1, 1) := by decide +kernel
theorem dX7_lowerByPutting_72 : decode cX7_lowerByPutting 72 = .ok (.bipush 30, 2) := by decide +kernel
theorem dX7_lowerByPutting_74 : decode cX7_lowerByPutting 74 = .ok (.imul, 1) := by decide +kernel
theorem dX7_lowerByPutting_75 : decode cX7_lowerByPutting 75 = .ok (.iload_n 3, 1) := by decide +kernel
theorem dX7_lowerByPutting_76 : decode cX7_lowerByPutting 76 = .ok (.iadd, 1) := by decide +kernel
theorem dX7_lowerByPutting_77 : decode cX7_lowerByPutting 77 = .ok (.iload 5, 2) := by decide +kernel
theorem dX7_lowerByPutting_79 : decode cX7_lowerByPutting 79 = .ok (.iastore, 1) := by decide +kernel
theorem dX7_lowerByPutting_80 : decode cX7_lowerByPutting 80 = .ok (.iconst 1, 1) := by decide +kernel
theorem dX7_lowerByPutting_81 : decode cX7_lowerByPutting 81 = .ok (.istore_n 2, 1) := by decide +kernel
theorem dX7_lowerByPutting_82 : decode cX7_lowerByPutting 82 = .ok (.iinc 4 1, 3) := by decide +kernel
theorem dX7_lowerByPutting_85 : decode cX7_lowerByPutting 85 = .ok (.goto (-61), 3) := by decide +kernel
theorem dX7_lowerByPutting_88 : decode cX7_lowerByPutting 88 = .ok (.iinc 3 1, 3) := by decide +kernel
theorem dX7_lowerByPutting_91 : decode cX7_lowerByPutting 91 = .ok (.goto (-87), 3) := by decide +kernel
theorem dX7_lowerByPutting_94 : decode cX7_lowerByPutting 94 = .ok (.iload_n 2, 1) := by decide +kernel
theorem dX7_lowerByPutting_95 : decode cX7_lowerByPutting 95 = .ok (.ireturn, 1) := by decide +kernel
theorem dX7_goCheapestWay_0 : decode cX7_goCheapestWay 0 = .ok (.aload_n 0, 1) := by decide +kernel
theorem dX7_goCheapestWay_1 : decode cX7_goCheapestWay 1 = .ok (.iconst 0, 1) := by decide +kernel
theorem dX7_goCheapestWay_2 : decode cX7_goCheapestWay 2 = .ok (.putfield 82, 3) := by decide +kernel
theorem dX7_goCheapestWay_5 : decode cX7_goCheapestWay 5 = .ok (.aload_n 0, 1) := by decide +kernel
theorem dX7_goCheapestWay_6 : decode cX7_goCheapestWay 6 = .ok (.iconst 0, 1) := by decide +kernel
theorem dX7_goCheapestWay_7 : decode cX7_goCheapestWay 7 = .ok (.putfield 85, 3) := by decide +kernel
theorem dX7_goCheapestWay_10 : decode cX7_goCheapestWay 10 = .ok (.aload_n 0, 1) := by decide +kernel
theorem dX7_goCheapestWay_11 : decode cX7_goCheapestWay 11 = .ok (.getfield 20, 3) := by decide +kernel
theorem dX7_goCheapestWay_14 : decode cX7_goCheapestWay 14 = .ok (.iconst 0, 1) := by decide +kernel
theorem dX7_goCheapestWay_15 : decode cX7_goCheapestWay 15 = .ok (.putfield 37, 3) := by decide +kernel
theorem dX7_goCheapestWay_18 : decode cX7_goCheapestWay 18 = .ok (.iconst 0, 1) := by decide +kernel
theorem dX7_goCheapestWay_19 : decode cX7_goCheapestWay 19 = .ok (.istore_n 1, 1) := by decide +kernel
theorem dX7_goCheapestWay_20 : decode cX7_goCheapestWay 20 = .ok (.iload_n 1, 1) := by decide +kernel
theorem dX7_goCheapestWay_21 : decode cX7_goCheapestWay 21 = .ok (.bipush 24, 2) := by decide +kernel
theorem dX7_goCheapestWay_23 : decode cX7_goCheapestWay 23 = .ok (.if_icmp .gt 39, 3) := by decide +kernel
theorem dX7_goCheapestWay_26 : decode cX7_goCheapestWay 26 = .ok (.aload_n 0, 1) := by decide +kernel
theorem dX7_goCheapestWay_27 : decode cX7_goCheapestWay 27 = .ok (.getfield 82, 3) := by decide +kernel
theorem dX7_goCheapestWay_30 : decode cX7_goCheapestWay 30 = .ok (.aload_n 0, 1) := by decide +kernel
theorem dX7_goCheapestWay_31 : decode cX7_goCheapestWay 31 = .ok (.getfield 24, 3) := by decide +kernel
theorem dX7_goCheapestWay_34 : decode cX7_goCheapestWay 34 = .ok (.getfield 37, 3) := by decide +kernel
theorem dX7_goCheapestWay_37 : decode cX7_goCheapestWay 37 = .ok (.if_icmp .ge 25, 3) := by decide +kernel
theorem dX7_goCheapestWay_40 : decode cX7_goCheapestWay 40 = .ok (.aload_n 0, 1) := by decide +kernel
theorem dX7_goCheapestWay_41 : decode cX7_goCheapestWay 41 = .ok (.aload_n 0, 1) := by decide +kernel
theorem dX7_goCheapestWay_42 : decode cX7_goCheapestWay 42 = .ok (.aload_n 0, 1) := by decide +kernel
theorem dX7_goCheapestWay_43 : decode cX7_goCheapestWay 43 = .ok (.getfield 82, 3) := by decide +kernel
theorem dX7_goCheapestWay_46 : decode cX7_goCheapestWay 46 = .ok (.aload_n 0, 1) := by decide +kernel
theorem dX7_goCheapestWay_47 : decode cX7_goCheapestWay 47 = .ok (.getfield 85, 3) := by decide +kernel
theorem dX7_goCheapestWay_50 : decode cX7_goCheapestWay 50 = .ok (.invokevirtual 41, 3) := by decide +kernel
theorem dX7_goCheapestWay_53 : decode cX7_goCheapestWay 53 = .ok (.invokevirtual 88, 3) := by decide +kernel
theorem dX7_goCheapestWay_56 : decode cX7_goCheapestWay 56 = .ok (.iinc 1 1, 3) := by decide +kernel
theorem dX7_goCheapestWay_59 : decode cX7_goCheapestWay 59 = .ok (.goto (-39), 3) := by decide +kernel
theorem dX7_goCheapestWay_62 : decode cX7_goCheapestWay 62 = .ok (.return_, 1) := by decide +kernel
theorem dX7_goOneOn_0 : decode cX7_goOneOn 0 = .ok (.aload_n 0, 1) := by decide +kernel
theorem dX7_goOneOn_1 : decode cX7_goOneOn 1 = .ok (.aload_n 0, 1) := by decide +kernel
theorem dX7_goOneOn_2 : decode cX7_goOneOn 2 = .ok (.getfield 82, 3) := by decide +kernel
theorem dX7_goOneOn_5 : decode cX7_goOneOn 5 = .ok (.aload_n 0, 1) := by decide +kernel
theorem dX7_goOneOn_6 : decode cX7_goOneOn 6 = .ok (.getfield 85, 3) := by decide +kernel
theorem dX7_goOneOn_9 : decode cX7_goOneOn 9 = .ok (.invokevirtual 64, 3) := by decide +kernel
theorem dX7_goOneOn_12 : decode cX7_goOneOn 12 = .ok (.iload_n 1, 1) := by decide +kernel
theorem dX7_goOneOn_13 : decode cX7_goOneOn 13 = .ok (.if_icmp .ne 29, 3) := by decide +kernel
theorem dX7_goOneOn_16 : decode cX7_goOneOn 16 = .ok (.aload_n 0, 1) := by decide +kernel
theorem dX7_goOneOn_17 : decode cX7_goOneOn 17 = .ok (.aload_n 0, 1) := by decide +kernel
theorem dX7_goOneOn_18 : decode cX7_goOneOn 18 = .ok (.getfield 24, 3) := by decide +kernel
theorem dX7_goOneOn_21 : decode cX7_goOneOn 21 = .ok (.aload_n 0, 1) := by decide +kernel
theorem dX7_goOneOn_22 : decode cX7_goOneOn 22 = .ok (.getfield 82, 3) := by decide +kernel
theorem dX7_goOneOn_25 : decode cX7_goOneOn 25 = .ok (.invokevirtual 45, 3) := by decide +kernel
theorem dX7_goOneOn_28 : decode cX7_goOneOn 28 = .ok (.invokevirtual 91, 3) := by decide +kernel
theorem dX7_goOneOn_31 : decode cX7_goOneOn 31 = .ok (.aload_n 0, 1) := by decide +kernel
theorem dX7_goOneOn_32 : decode cX7_goOneOn 32 = .ok (.dup, 1) := by decide +kernel
theorem dX7_goOneOn_33 : decode cX7_goOneOn 33 = .ok (.getfield 82, 3) := by decide +kernel
theorem dX7_goOneOn_36 : decode cX7_goOneOn 36 = .ok (.iconst 1, 1) := by decide +kernel
theorem dX7_goOneOn_37 : decode cX7_goOneOn 37 = .ok (.iadd, 1) := by decide +kernel
theorem dX7_goOneOn_38 : decode cX7_goOneOn 38 = .ok (.putfield 82, 3) := by decide +kernel
theorem dX7_goOneOn_41 : decode cX7_goOneOn 41 = .ok (.return_, 1) := by decide +kernel
theorem dX7_goOneOn_42 : decode cX7_goOneOn 42 = .ok (.iconst 1, 1) := by decide +kernel
theorem dX7_goOneOn_43 : decode cX7_goOneOn 43 = .ok (.aload_n 0, 1) := by decide +kernel
theorem dX7_goOneOn_44 : decode cX7_goOneOn 44 = .ok (.aload_n 0, 1) := by decide +kernel
theorem dX7_goOneOn_45 : decode cX7_goOneOn 45 = .ok (.getfield 82, 3) := by decide +kernel
theorem dX7_goOneOn_48 : decode cX7_goOneOn 48 = .ok (.iconst 1, 1) := by decide +kernel
theorem dX7_goOneOn_49 : decode cX7_goOneOn 49 = .ok (.iadd, 1) := by decide +kernel
theorem dX7_goOneOn_50 : decode cX7_goOneOn 50 = .ok (.aload_n 0, 1) := by decide +kernel
theorem dX7_goOneOn_51 : decode cX7_goOneOn 51 = .ok (.getfield 85, 3) := by decide +kernel
theorem dX7_goOneOn_54 : decode cX7_goOneOn 54 = .ok (.invokevirtual 41, 3) := by decide +kernel
theorem dX7_goOneOn_57 : decode cX7_goOneOn 57 = .ok (.iadd, 1) := by decide +kernel
theorem dX7_goOneOn_58 : decode cX7_goOneOn 58 = .ok (.iload_n 1, 1) := by decide +kernel
theorem dX7_goOneOn_59 : decode cX7_goOneOn 59 = .ok (.if_icmp .ne 14, 3) := by decide +kernel
theorem dX7_goOneOn_62 : decode cX7_goOneOn 62 = .ok (.aload_n 0, 1) := by decide +kernel
theorem dX7_goOneOn_63 : decode cX7_goOneOn 63 = .ok (.dup, 1) := by decide +kernel
theorem dX7_goOneOn_64 : decode cX7_goOneOn 64 = .ok (.getfield 82, 3) := by decide +kernel
theorem dX7_goOneOn_67 : decode cX7_goOneOn 67 = .ok (.iconst 1, 1) := by decide +kernel
theorem dX7_goOneOn_68 : decode cX7_goOneOn 68 = .ok (.iadd, 1) := by decide +kernel
theorem dX7_goOneOn_69 : decode cX7_goOneOn 69 = .ok (.putfield 82, 3) := by decide +kernel
theorem dX7_goOneOn_72 : decode cX7_goOneOn 72 = .ok (.return_, 1) := by decide +kernel
theorem dX7_goOneOn_73 : decode cX7_goOneOn 73 = .ok (.iconst 0, 1) := by decide +kernel
theorem dX7_goOneOn_74 : decode cX7_goOneOn 74 = .ok (.istore_n 2, 1) := by decide +kernel
theorem dX7_goOneOn_75 : decode cX7_goOneOn 75 = .ok (.iload_n 2, 1) := by decide +kernel
theorem dX7_goOneOn_76 : decode cX7_goOneOn 76 = .ok (.bipush 8, 2) := by decide +kernel
theorem dX7_goOneOn_78 : decode cX7_goOneOn 78 = .ok (.if_icmp .ge 32, 3) := by decide +kernel
theorem dX7_goOneOn_81 : decode cX7_goOneOn 81 = .ok (.aload_n 0, 1) := by decide +kernel
theorem dX7_goOneOn_82 : decode cX7_goOneOn 82 = .ok (.aload_n 0, 1) := by decide +kernel
theorem dX7_goOneOn_83 : decode cX7_goOneOn 83 = .ok (.getfield 82, 3) := by decide +kernel
theorem dX7_goOneOn_86 : decode cX7_goOneOn 86 = .ok (.aload_n 0, 1) := by decide +kernel
theorem dX7_goOneOn_87 : decode cX7_goOneOn 87 = .ok (.getfield 85, 3) := by decide +kernel
theorem dX7_goOneOn_90 : decode cX7_goOneOn 90 = .ok (.iload_n 2, 1) := by decide +kernel
theorem dX7_goOneOn_91 : decode cX7_goOneOn 91 = .ok (.invokevirtual 78, 3) := by decide +kernel
theorem dX7_goOneOn_94 : decode cX7_goOneOn 94 = .ok (.iload_n 1, 1) := by decide +kernel
theorem dX7_goOneOn_95 : decode cX7_goOneOn 95 = .ok (.if_icmp .ne 9, 3) := by decide +kernel
theorem dX7_goOneOn_98 : decode cX7_goOneOn 98 = .ok (.aload_n 0, 1) := by decide +kernel
theorem dX7_goOneOn_99 : decode cX7_goOneOn 99 = .ok (.iload_n 2, 1) := by decide +kernel
theorem dX7_goOneOn_100 : decode cX7_goOneOn 100 = .ok (.invokevirtual 91, 3) := by decide +kernel
theorem dX7_goOneOn_103 : decode cX7_goOneOn 103 = .ok (.return_, 1) := by decide +kernel
theorem dX7_goOneOn_104 : decode cX7_goOneOn 104 = .ok (.iinc 2 1, 3) := by decide +kernel
theorem dX7_goOneOn_107 : decode cX7_goOneOn 107 = .ok (.goto (-32), 3) := by decide +kernel
theorem dX7_goOneOn_110 : decode cX7_goOneOn 110 = .ok (.return_, 1) := by decide +kernel
theorem dX7_make_0 : decode cX7_make 0 = .ok (.aload_n 0, 1) := by decide +kernel
theorem dX7_make_1 : decode cX7_make 1 = .ok (.getfield 20, 3) := by decide +kernel
theorem dX7_make_4 : decode cX7_make 4 = .ok (.iload_n 1, 1) := by decide +kernel
theorem dX7_make_5 : decode cX7_make 5 = .ok (.invokevirtual 49, 3) := by decide +kernel
theorem dX7_make_8 : decode cX7_make 8 = .ok (.pop, 1) := by decide +kernel
theorem dX7_make_9 : decode cX7_make 9 = .ok (.aload_n 0, 1) := by decide +kernel
theorem dX7_make_10 : decode cX7_make 10 = .ok (.aload_n 0, 1) := by decide +kernel
theorem dX7_make_11 : decode cX7_make 11 = .ok (.getfield 27, 3) := by decide +kernel
theorem dX7_make_14 : decode cX7_make 14 = .ok (.aload_n 0, 1) := by decide +kernel
theorem dX7_make_15 : decode cX7_make 15 = .ok (.getfield 85, 3) := by decide +kernel
theorem dX7_make_18 : decode cX7_make 18 = .ok (.iload_n 1, 1) := by decide +kernel
theorem dX7_make_19 : decode cX7_make 19 = .ok (.invokevirtual 75, 3) := by decide +kernel
theorem dX7_make_22 : decode cX7_make 22 = .ok (.putfield 85, 3) := by decide +kernel
theorem dX7_make_25 : decode cX7_make 25 = .ok (.return_, 1) := by decide +kernel
theorem dX8_init_0 : decode cX8_init 0 = .ok (.aload_n 0, 1) := by decide +kernel
theorem dX8_init_1 : decode cX8_init 1 = .ok (.invokespecial 3, 3) := by decide +kernel
theorem dX8_init_4 : decode cX8_init 4 = .ok (.aload_n 0, 1) := by decide +kernel
theorem dX8_init_5 : decode cX8_init 5 = .ok (.sipush 200, 3) := by decide +kernel
theorem dX8_init_8 : decode cX8_init 8 = .ok (.newarray .int, 2) := by decide +kernel
theorem dX8_init_10 : decode cX8_init 10 = .ok (.putfield 9, 3) := by decide +kernel
theorem dX8_init_13 : decode cX8_init 13 = .ok (.aload_n 0, 1) := by decide +kernel
theorem dX8_init_14 : decode cX8_init 14 = .ok (.sipush 200, 3) := by decide +kernel
theorem dX8_init_17 : decode cX8_init 17 = .ok (.newarray .int, 2) := by decide +kernel
theorem dX8_init_19 : decode cX8_init 19 = .ok (.putfield 15, 3) := by decide +kernel
theorem dX8_init_22 : decode cX8_init 22 = .ok (.aload_n 0, 1) := by decide +kernel
theorem dX8_init_23 : decode cX8_init 23 = .ok (.sipush 200, 3) := by decide +kernel
theorem dX8_init_26 : decode cX8_init 26 = .ok (.newarray .int, 2) := by decide +kernel
theorem dX8_init_28 : decode cX8_init 28 = .ok (.putfield 18, 3) := by decide +kernel
theorem dX8_init_31 : decode cX8_init 31 = .ok (.aload_n 0, 1) := by decide +kernel
theorem dX8_init_32 : decode cX8_init 32 = .ok (.sipush 200, 3) := by decide +kernel
theorem dX8_init_35 : decode cX8_init 35 = .ok (.newarray .int, 2) := by decide +kernel
theorem dX8_init_37 : decode cX8_init 37 = .ok (.putfield 21, 3) := by decide +kernel
theorem dX8_init_40 : decode cX8_init 40 = .ok (.aload_n 0, 1) := by decide +kernel
theorem dX8_init_41 : decode cX8_init 41 = .ok (.sipush 200, 3) := by decide +kernel
theorem dX8_init_44 : decode cX8_init 44 = .ok (.newarray .boolean, 2) := by decide +kernel
theorem dX8_init_46 : decode cX8_init 46 = .ok (.putfield 24, 3) := by decide +kernel
theorem dX8_init_49 : decode cX8_init 49 = .ok (.aload_n 0, 1) := by decide +kernel
theorem dX8_init_50 : decode cX8_init 50 = .ok (.bipush 10, 2) := by decide +kernel
theorem dX8_init_52 : decode cX8_init 52 = .ok (.newarray .int, 2) := by decide +kernel
theorem dX8_init_54 : decode cX8_init 54 = .ok (.putfield 28, 3) := by decide +kernel
theorem dX8_init_57 : decode cX8_init 57 = .ok (.aload_n 0, 1) := by decide +kernel
theorem dX8_init_58 : decode cX8_init 58 = .ok (.bipush 10, 2) := by decide +kernel
theorem dX8_init_60 : decode cX8_init 60 = .ok (.newarray .int, 2) := by decide +kernel
theorem dX8_init_62 : decode cX8_init 62 = .ok (.putfield 31, 3) := by decide +kernel
theorem dX8_init_65 : decode cX8_init 65 = .ok (.return_, 1) := by decide +kernel
theorem dX8_faultIn_0 : decode cX8_faultIn 0 = .ok (.iconst 0, 1) := by decide +kernel
theorem dX8_faultIn_1 : decode cX8_faultIn 1 = .ok (.istore_n 2, 1) := by decide +kernel
theorem dX8_faultIn_2 : decode cX8_faultIn 2 = .ok (.iconst 0, 1) := by decide +kernel
theorem dX8_faultIn_3 : decode cX8_faultIn 3 = .ok (.istore_n 3, 1) := by decide +kernel
theorem dX8_faultIn_4 : decode cX8_faultIn 4 = .ok (.iconst 0, 1) := by decide +kernel
theorem dX8_faultIn_5 : decode cX8_faultIn 5 = .ok (.istore 4, 2) := by decide +kernel
theorem dX8_faultIn_7 : decode cX8_faultIn 7 = .ok (.iload 4, 2) := by decide +kernel
theorem dX8_faultIn_9 : decode cX8_faultIn 9 = .ok (.iload_n 1, 1) := by decide +kernel
theorem dX8_faultIn_10 : decode cX8_faultIn 10 = .ok (.if_icmp .ge 84, 3) := by decide +kernel
theorem dX8_faultIn_13 : decode cX8_faultIn 13 = .ok (.iload 4, 2) := by decide +kernel
theorem dX8_faultIn_15 : decode cX8_faultIn 15 = .ok (.aload_n 0, 1) := by decide +kernel
theorem dX8_faultIn_16 : decode cX8_faultIn 16 = .ok (.arraylength, 1) := by decide +kernel
theorem dX8_faultIn_17 : decode cX8_faultIn 17 = .ok (.if_icmp .ge 77, 3) := by decide +kernel
theorem dX8_faultIn_20 : decode cX8_faultIn 20 = .ok (.aload_n 0, 1) := by decide +kernel
theorem dX8_faultIn_21 : decode cX8_faultIn 21 = .ok (.iload 4, 2) := by decide +kernel
theorem dX8_faultIn_23 : decode cX8_faultIn 23 = .ok (.iaload, 1) := by decide +kernel
theorem dX8_faultIn_24 : decode cX8_faultIn 24 = .ok (.istore 5, 2) := by decide +kernel
theorem dX8_faultIn_26 : decode cX8_faultIn 26 = .ok (.iload 5, 2) := by decide +kernel
theorem dX8_faultIn_28 : decode cX8_faultIn 28 = .ok (.bipush 32, 2) := by decide +kernel
theorem dX8_faultIn_30 : decode cX8_faultIn 30 = .ok (.if_icmp .ne 6, 3) := by decide +kernel
theorem dX8_faultIn_33 : decode cX8_faultIn 33 = .ok (.goto 55, 3) := by decide +kernel
theorem dX8_faultIn_36 : decode cX8_faultIn 36 = .ok (.iload 5, 2) := by decide +kernel
theorem dX8_faultIn_38 : decode cX8_faultIn 38 = .ok (.iload_n 2, 1) := by decide +kernel
theorem dX8_faultIn_39 : decode cX8_faultIn 39 = .ok (.iload_n 3, 1) := by decide +kernel
theorem dX8_faultIn_40 : decode cX8_faultIn 40 = .ok (.invokestatic 34, 3) := by decide +kernel
theorem dX8_faultIn_43 : decode cX8_faultIn 43 = .ok (.ifCond .ne 6, 3) := by decide +kernel
theorem dX8_faultIn_46 : decode cX8_faultIn 46 = .ok (.iload 4, 2) := by decide +kernel
theorem dX8_faultIn_48 : decode cX8_faultIn 48 = .ok (.ireturn, 1) := by decide +kernel
theorem dX8_faultIn_49 : decode cX8_faultIn 49 = .ok (.iload_n 2, 1) := by decide +kernel
theorem dX8_faultIn_50 : decode cX8_faultIn 50 = .ok (.iload 5, 2) := by decide +kernel
theorem dX8_faultIn_52 : decode cX8_faultIn 52 = .ok (.bipush 40, 2) := by decide +kernel
theorem dX8_faultIn_54 : decode cX8_faultIn 54 = .ok (.if_icmp .ne 7, 3) := by decide +kernel
theorem dX8_faultIn_57 : decode cX8_faultIn 57 = .ok (.iconst 1, 1) := by decide +kernel
theorem dX8_faultIn_58 : decode cX8_faultIn 58 = .ok (.goto 15, 3) := by decide +kernel
theorem dX8_faultIn_61 : decode cX8_faultIn 61 = .ok (.iload 5, 2) := by decide +kernel
theorem dX8_faultIn_63 : decode cX8_faultIn 63 = .ok (.bipush 41, 2) := by decide +kernel
theorem dX8_faultIn_65 : decode cX8_faultIn 65 = .ok (.if_icmp .ne 7, 3) := by decide +kernel
theorem dX8_faultIn_68 : decode cX8_faultIn 68 = .ok (.iconst (-1), 1) := by decide +kernel
theorem dX8_faultIn_69 : decode cX8_faultIn 69 = .ok (.goto 4, 3) := by decide +kernel
theorem dX8_faultIn_72 : decode cX8_faultIn 72 = .ok (.iconst 0, 1) := by decide +kernel
theorem dX8_faultIn_73 : decode cX8_faultIn 73 = .ok (.iadd, 1) := by decide +kernel
theorem dX8_faultIn_74 : decode cX8_faultIn 74 = .ok (.istore_n 2, 1) := by decide +kernel
theorem dX8_faultIn_75 : decode cX8_faultIn 75 = .ok (.iload 5, 2) := by decide +kernel
theorem dX8_faultIn_77 : decode cX8_faultIn 77 = .ok (.bipush 41, 2) := by decide +kernel
theorem dX8_faultIn_79 : decode cX8_faultIn 79 = .ok (.if_icmp .ne 7, 3) := by decide +kernel
theorem dX8_faultIn_82 : decode cX8_faultIn 82 = .ok (.iconst 1, 1) := by decide +kernel
theorem dX8_faultIn_83 : decode cX8_faultIn 83 = .ok (.goto 4, 3) := by decide +kernel
theorem dX8_faultIn_86 : decode cX8_faultIn 86 = .ok (.iconst 0, 1) := by decide +kernel
theorem dX8_faultIn_87 : decode cX8_faultIn 87 = .ok (.istore_n 3, 1) := by decide +kernel
theorem dX8_faultIn_88 : decode cX8_faultIn 88 = .ok (.iinc 4 1, 3) := by decide +kernel
theorem dX8_faultIn_91 : decode cX8_faultIn 91 = .ok (.goto (-84), 3) := by decide +kernel
theorem dX8_faultIn_94 : decode cX8_faultIn 94 = .ok (.iload_n 2, 1) := by decide +kernel
theorem dX8_faultIn_95 : decode cX8_faultIn 95 = .ok (.ifCond .ne 7, 3) := by decide +kernel
theorem dX8_faultIn_98 : decode cX8_faultIn 98 = .ok (.iconst (-1), 1) := by decide +kernel
theorem dX8_faultIn_99 : decode cX8_faultIn 99 = .ok (.goto 4, 3) := by decide +kernel
theorem dX8_faultIn_102 : decode cX8_faultIn 102 = .ok (.iload_n 1, 1) := by decide +kernel
theorem dX8_faultIn_103 : decode cX8_faultIn 103 = .ok (.ireturn, 1) := by decide +kernel
theorem dX8_mayStand_0 : decode cX8_mayStand 0 = .ok (.iload_n 0, 1) := by decide +kernel
theorem dX8_mayStand_1 : decode cX8_mayStand 1 = .ok (.lookupswitch 67 #[(40, 43), (41, 55), (42, 65), (124, 55)], 43) := by decide +kernel
theorem dX8_mayStand_44 : decode cX8_mayStand 44 = .ok (.iload_n 1, 1) := by decide +kernel
theorem dX8_mayStand_45 : decode cX8_mayStand 45 = .ok (.bipush 10, 2) := by decide +kernel
theorem dX8_mayStand_47 : decode cX8_mayStand 47 = .ok (.if_icmp .ge 7, 3) := by decide +kernel
theorem dX8_mayStand_50 : decode cX8_mayStand 50 = .ok (.iconst 1, 1) := by decide +kernel
theorem dX8_mayStand_51 : decode cX8_mayStand 51 = .ok (.goto 4, 3) := by decide +kernel
theorem dX8_mayStand_54 : decode cX8_mayStand 54 = .ok (.iconst 0, 1) := by decide +kernel
theorem dX8_mayStand_55 : decode cX8_mayStand 55 = .ok (.ireturn, 1) := by decide +kernel
theorem dX8_mayStand_56 : decode cX8_mayStand 56 = .ok (.iload_n 1, 1) := by decide +kernel
theorem dX8_mayStand_57 : decode cX8_mayStand 57 = .ok (.ifCond .le 7, 3) := by decide +kernel
theorem dX8_mayStand_60 : decode cX8_mayStand 60 = .ok (.iconst 1, 1) := by decide +kernel
theorem dX8_mayStand_61 : decode cX8_mayStand 61 = .ok (.goto 4, 3) := by decide +kernel
theorem dX8_mayStand_64 : decode cX8_mayStand 64 = .ok (.iconst 0, 1) := by decide +kernel
theorem dX8_mayStand_65 : decode cX8_mayStand 65 = .ok (.ireturn, 1) := by decide +kernel
theorem dX8_mayStand_66 : decode cX8_mayStand 66 = .ok (.iload_n 2, 1) := by decide +kernel
theorem dX8_mayStand_67 : decode cX8_mayStand 67 = .ok (.ireturn, 1) := by decide +kernel
theorem dX8_mayStand_68 : decode cX8_mayStand 68 = .ok (.iload_n 0, 1) := by decide +kernel
theorem dX8_mayStand_69 : decode cX8_mayStand 69 = .ok (.bipush 97, 2) := by decide +kernel
theorem dX8_mayStand_71 : decode cX8_mayStand 71 = .ok (.if_icmp .lt 13, 3) := by decide +kernel
theorem dX8_mayStand_74 : decode cX8_mayStand 74 = .ok (.iload_n 0, 1) := by decide +kernel
theorem dX8_mayStand_75 : decode cX8_mayStand 75 = .ok (.bipush 104, 2) := by decide +kernel
theorem dX8_mayStand_77 : decode cX8_mayStand 77 = .ok (.if_icmp .gt 7, 3) := by decide +kernel
theorem dX8_mayStand_80 : decode cX8_mayStand 80 = .ok (.iconst 1, 1) := by decide +kernel
theorem dX8_mayStand_81 : decode cX8_mayStand 81 = .ok (.goto 4, 3) := by decide +kernel
theorem dX8_mayStand_84 : decode cX8_mayStand 84 = .ok (.iconst 0, 1) := by decide +kernel
theorem dX8_mayStand_85 : decode cX8_mayStand 85 = .ok (.ireturn, 1) := by decide +kernel
theorem dX8_replaceBy_0 : decode cX8_replaceBy 0 = .ok (.aload_n 0, 1) := by decide +kernel
theorem dX8_replaceBy_1 : decode cX8_replaceBy 1 = .ok (.iconst 0, 1) := by decide +kernel
theorem dX8_replaceBy_2 : decode cX8_replaceBy 2 = .ok (.putfield 38, 3) := by decide +kernel
theorem dX8_replaceBy_5 : decode cX8_replaceBy 5 = .ok (.iconst 0, 1) := by decide +kernel
theorem dX8_replaceBy_6 : decode cX8_replaceBy 6 = .ok (.istore_n 3, 1) := by decide +kernel
theorem dX8_replaceBy_7 : decode cX8_replaceBy 7 = .ok (.iload_n 3, 1) := by decide +kernel
theorem dX8_replaceBy_8 : decode cX8_replaceBy 8 = .ok (.iload_n 2, 1) := by decide +kernel
theorem dX8_replaceBy_9 : decode cX8_replaceBy 9 = .ok (.if_icmp .ge 41, 3) := by decide +kernel
theorem dX8_replaceBy_12 : decode cX8_replaceBy 12 = .ok (.iload_n 3, 1) := by decide +kernel
theorem dX8_replaceBy_13 : decode cX8_replaceBy 13 = .ok (.aload_n 1, 1) := by decide +kernel
theorem dX8_replaceBy_14 : decode cX8_replaceBy 14 = .ok (.arraylength, 1) := by decide +kernel
theorem dX8_replaceBy_15 : decode cX8_replaceBy 15 = .ok (.if_icmp .ge 35, 3) := by decide +kernel
theorem dX8_replaceBy_18 : decode cX8_replaceBy 18 = .ok (.iload_n 3, 1) := by decide +kernel
theorem dX8_replaceBy_19 : decode cX8_replaceBy 19 = .ok (.sipush 200, 3) := by decide +kernel
theorem dX8_replaceBy_22 : decode cX8_replaceBy 22 = .ok (.if_icmp .ge 28, 3) := by decide +kernel
theorem dX8_replaceBy_25 : decode cX8_replaceBy 25 = .ok (.aload_n 0, 1) := by decide +kernel
theorem dX8_replaceBy_26 : decode cX8_replaceBy 26 = .ok (.getfield 9, 3) := by decide +kernel
theorem dX8_replaceBy_29 : decode cX8_replaceBy 29 = .ok (.iload_n 3, 1) := by decide +kernel
theorem dX8_replaceBy_30 : decode cX8_replaceBy 30 = .ok (.aload_n 1, 1) := by decide +kernel
theorem dX8_replaceBy_31 : decode cX8_replaceBy 31 = .ok (.iload_n 3, 1) := by decide +kernel
theorem dX8_replaceBy_32 : decode cX8_replaceBy 32 = .ok (.iaload, 1) := by decide +kernel
theorem dX8_replaceBy_33 : decode cX8_replaceBy 33 = .ok (.iastore, 1) := by decide +kernel
theorem dX8_replaceBy_34 : decode cX8_replaceBy 34 = .ok (.aload_n 0, 1) := by decide +kernel
theorem dX8_replaceBy_35 : decode cX8_replaceBy 35 = .ok (.dup, 1) := by decide +kernel
theorem dX8_replaceBy_36 : decode cX8_replaceBy 36 = .ok (.getfield 38, 3) := by decide +kernel
theorem dX8_replaceBy_39 : decode cX8_replaceBy 39 = .ok (.iconst 1, 1) := by decide +kernel
theorem dX8_replaceBy_40 : decode cX8_replaceBy 40 = .ok (.iadd, 1) := by decide +kernel
theorem dX8_replaceBy_41 : decode cX8_replaceBy 41 = .ok (.putfield 38, 3) := by decide +kernel
theorem dX8_replaceBy_44 : decode cX8_replaceBy 44 = .ok (.iinc 3 1, 3) := by decide +kernel
theorem dX8_replaceBy_47 : decode cX8_replaceBy 47 = .ok (.goto (-40), 3) := by decide +kernel
theorem dX8_replaceBy_50 : decode cX8_replaceBy 50 = .ok (.iconst 0, 1) := by decide +kernel
theorem dX8_replaceBy_51 : decode cX8_replaceBy 51 = .ok (.istore_n 3, 1) := by decide +kernel
theorem dX8_replaceBy_52 : decode cX8_replaceBy 52 = .ok (.iconst 0, 1) := by decide +kernel
theorem dX8_replaceBy_53 : decode cX8_replaceBy 53 = .ok (.istore 4, 2) := by decide +kernel
theorem dX8_replaceBy_55 : decode cX8_replaceBy 55 = .ok (.iload 4, 2) := by decide +kernel
theorem dX8_replaceBy_57 : decode cX8_replaceBy 57 = .ok (.aload_n 0, 1) := by decide +kernel
theorem dX8_replaceBy_58 : decode cX8_replaceBy 58 = .ok (.getfield 38, 3) := by decide +kernel
theorem dX8_replaceBy_61 : decode cX8_replaceBy 61 = .ok (.if_icmp .ge 135, 3) := by decide +kernel
theorem dX8_replaceBy_64 : decode cX8_replaceBy 64 = .ok (.aload_n 0, 1) := by decide +kernel
theorem dX8_replaceBy_65 : decode cX8_replaceBy 65 = .ok (.getfield 9, 3) := by decide +kernel
theorem dX8_replaceBy_68 : decode cX8_replaceBy 68 = .ok (.iload 4, 2) := by decide +kernel
theorem dX8_replaceBy_70 : decode cX8_replaceBy 70 = .ok (.iaload, 1) := by decide +kernel
theorem dX8_replaceBy_71 : decode cX8_replaceBy 71 = .ok (.bipush 40, 2) := by decide +kernel
theorem dX8_replaceBy_73 : decode cX8_replaceBy 73 = .ok (.if_icmp .ne 31, 3) := by decide +kernel
theorem dX8_replaceBy_76 : decode cX8_replaceBy 76 = .ok (.iload_n 3, 1) := by decide +kernel
theorem dX8_replaceBy_77 : decode cX8_replaceBy 77 = .ok (.bipush 10, 2) := by decide +kernel
theorem dX8_replaceBy_79 : decode cX8_replaceBy 79 = .ok (.if_icmp .ge 25, 3) := by decide +kernel
theorem dX8_replaceBy_82 : decode cX8_replaceBy 82 = .ok (.aload_n 0, 1) := by decide +kernel
theorem dX8_replaceBy_83 : decode cX8_replaceBy 83 = .ok (.getfield 28, 3) := by decide +kernel
theorem dX8_replaceBy_86 : decode cX8_replaceBy 86 = .ok (.iload_n 3, 1) := by decide +kernel
theorem dX8_replaceBy_87 : decode cX8_replaceBy 87 = .ok (.iload 4, 2) := by decide +kernel
theorem dX8_replaceBy_89 : decode cX8_replaceBy 89 = .ok (.iastore, 1) := by decide +kernel
theorem dX8_replaceBy_90 : decode cX8_replaceBy 90 = .ok (.aload_n 0, 1) := by decide +kernel
theorem dX8_replaceBy_91 : decode cX8_replaceBy 91 = .ok (.getfield 31, 3) := by decide +kernel
theorem dX8_replaceBy_94 : decode cX8_replaceBy 94 = .ok (.iload_n 3, 1) := by decide +kernel
theorem dX8_replaceBy_95 : decode cX8_replaceBy 95 = .ok (.iload 4, 2) := by decide +kernel
theorem dX8_replaceBy_97 : decode cX8_replaceBy 97 = .ok (.iastore, 1) := by decide +kernel
theorem dX8_replaceBy_98 : decode cX8_replaceBy 98 = .ok (.iinc 3 1, 3) := by decide +kernel
theorem dX8_replaceBy_101 : decode cX8_replaceBy 101 = .ok (.goto 89, 3) := by decide +kernel
theorem dX8_replaceBy_104 : decode cX8_replaceBy 104 = .ok (.aload_n 0, 1) := by decide +kernel
theorem dX8_replaceBy_105 : decode cX8_replaceBy 105 = .ok (.getfield 9, 3) := by decide +kernel
theorem dX8_replaceBy_108 : decode cX8_replaceBy 108 = .ok (.iload 4, 2) := by decide +kernel
theorem dX8_replaceBy_110 : decode cX8_replaceBy 110 = .ok (.iaload, 1) := by decide +kernel
theorem dX8_replaceBy_111 : decode cX8_replaceBy 111 = .ok (.bipush 124, 2) := by decide +kernel
theorem dX8_replaceBy_113 : decode cX8_replaceBy 113 = .ok (.if_icmp .ne 34, 3) := by decide +kernel
theorem dX8_replaceBy_116 : decode cX8_replaceBy 116 = .ok (.iload_n 3, 1) := by decide +kernel
theorem dX8_replaceBy_117 : decode cX8_replaceBy 117 = .ok (.ifCond .le 30, 3) := by decide +kernel
theorem dX8_replaceBy_120 : decode cX8_replaceBy 120 = .ok (.aload_n 0, 1) := by decide +kernel
theorem dX8_replaceBy_121 : decode cX8_replaceBy 121 = .ok (.aload_n 0, 1) := by decide +kernel
theorem dX8_replaceBy_122 : decode cX8_replaceBy 122 = .ok (.getfield 31, 3) := by decide +kernel
theorem dX8_replaceBy_125 : decode cX8_replaceBy 125 = .ok (.iload_n 3, 1) := by decide +kernel
theorem dX8_replaceBy_126 : decode cX8_replaceBy 126 = .ok (.iconst 1, 1) := by decide +kernel
theorem dX8_replaceBy_127 : decode cX8_replaceBy 127 = .ok (.isub, 1) := by decide +kernel
theorem dX8_replaceBy_128 : decode cX8_replaceBy 128 = .ok (.iaload, 1) := by decide +kernel
theorem dX8_replaceBy_129 : decode cX8_replaceBy 129 = .ok (.iload 4, 2) := by decide +kernel
theorem dX8_replaceBy_131 : decode cX8_replaceBy 131 = .ok (.invokevirtual 42, 3) := by decide +kernel
theorem dX8_replaceBy_134 : decode cX8_replaceBy 134 = .ok (.aload_n 0, 1) := by decide +kernel
theorem dX8_replaceBy_135 : decode cX8_replaceBy 135 = .ok (.getfield 31, 3) := by decide +kernel
theorem dX8_replaceBy_138 : decode cX8_replaceBy 138 = .ok (.iload_n 3, 1) := by decide +kernel
theorem dX8_replaceBy_139 : decode cX8_replaceBy 139 = .ok (.iconst 1, 1) := by decide +kernel
theorem dX8_replaceBy_140 : decode cX8_replaceBy 140 = .ok (.isub, 1) := by decide +kernel
theorem dX8_replaceBy_141 : decode cX8_replaceBy 141 = .ok (.iload 4, 2) := by decide +kernel
theorem dX8_replaceBy_143 : decode cX8_replaceBy 143 = .ok (.iastore, 1) := by decide +kernel
theorem dX8_replaceBy_144 : decode cX8_replaceBy 144 = .ok (.goto 46, 3) := by decide +kernel
theorem dX8_replaceBy_147 : decode cX8_replaceBy 147 = .ok (.aload_n 0, 1) := by decide +kernel
theorem dX8_replaceBy_148 : decode cX8_replaceBy 148 = .ok (.getfield 9, 3) := by decide +kernel
theorem dX8_replaceBy_151 : decode cX8_replaceBy 151 = .ok (.iload 4, 2) := by decide +kernel
theorem dX8_replaceBy_153 : decode cX8_replaceBy 153 = .ok (.iaload, 1) := by decide +kernel
theorem dX8_replaceBy_154 : decode cX8_replaceBy 154 = .ok (.bipush 41, 2) := by decide +kernel
theorem dX8_replaceBy_156 : decode cX8_replaceBy 156 = .ok (.if_icmp .ne 34, 3) := by decide +kernel
theorem dX8_replaceBy_159 : decode cX8_replaceBy 159 = .ok (.iload_n 3, 1) := by decide +kernel
theorem dX8_replaceBy_160 : decode cX8_replaceBy 160 = .ok (.ifCond .le 30, 3) := by decide +kernel
theorem dX8_replaceBy_163 : decode cX8_replaceBy 163 = .ok (.iinc 3 (-1), 3) := by decide +kernel
theorem dX8_replaceBy_166 : decode cX8_replaceBy 166 = .ok (.aload_n 0, 1) := by decide +kernel
theorem dX8_replaceBy_167 : decode cX8_replaceBy 167 = .ok (.aload_n 0, 1) := by decide +kernel
theorem dX8_replaceBy_168 : decode cX8_replaceBy 168 = .ok (.getfield 31, 3) := by decide +kernel
theorem dX8_replaceBy_171 : decode cX8_replaceBy 171 = .ok (.iload_n 3, 1) := by decide +kernel
theorem dX8_replaceBy_172 : decode cX8_replaceBy 172 = .ok (.iaload, 1) := by decide +kernel
theorem dX8_replaceBy_173 : decode cX8_replaceBy 173 = .ok (.iload 4, 2) := by decide +kernel
theorem dX8_replaceBy_175 : decode cX8_replaceBy 175 = .ok (.invokevirtual 42, 3) := by decide +kernel
theorem dX8_replaceBy_178 : decode cX8_replaceBy 178 = .ok (.aload_n 0, 1) := by decide +kernel
theorem dX8_replaceBy_179 : decode cX8_replaceBy 179 = .ok (.aload_n 0, 1) := by decide +kernel
theorem dX8_replaceBy_180 : decode cX8_replaceBy 180 = .ok (.getfield 28, 3) := by decide +kernel
theorem dX8_replaceBy_183 : decode cX8_replaceBy 183 = .ok (.iload_n 3, 1) := by decide +kernel
theorem dX8_replaceBy_184 : decode cX8_replaceBy 184 = .ok (.iaload, 1) := by decide +kernel
theorem dX8_replaceBy_185 : decode cX8_replaceBy 185 = .ok (.iload 4, 2) := by decide +kernel
theorem dX8_replaceBy_187 : decode cX8_replaceBy 187 = .ok (.invokevirtual 46, 3) := by decide +kernel
theorem dX8_replaceBy_190 : decode cX8_replaceBy 190 = .ok (.iinc 4 1, 3) := by decide +kernel
theorem dX8_replaceBy_193 : decode cX8_replaceBy 193 = .ok (.goto (-138), 3) := by decide +kernel
theorem dX8_replaceBy_196 : decode cX8_replaceBy 196 = .ok (.return_, 1) := by decide +kernel
theorem dX8_endS_0 : decode cX8_endS 0 = .ok (.iload_n 1, 1) := by decide +kernel
theorem dX8_endS_1 : decode cX8_endS 1 = .ok (.ifCond .lt 17, 3) := by decide +kernel
theorem dX8_endS_4 : decode cX8_endS 4 = .ok (.iload_n 1, 1) := by decide +kernel
theorem dX8_endS_5 : decode cX8_endS 5 = .ok (.sipush 200, 3) := by decide +kernel
theorem dX8_endS_8 : decode cX8_endS 8 = .ok (.if_icmp .ge 10, 3) := by decide +kernel
theorem dX8_endS_11 : decode cX8_endS 11 = .ok (.aload_n 0, 1) := by decide +kernel
theorem dX8_endS_12 : decode cX8_endS 12 = .ok (.getfield 15, 3) := by decide +kernel
theorem dX8_endS_15 : decode cX8_endS 15 = .ok (.iload_n 1, 1) := by decide +kernel
theorem dX8_endS_16 : decode cX8_endS 16 = .ok (.iload_n 2, 1) := by decide +kernel
theorem dX8_endS_17 : decode cX8_endS 17 = .ok (.iastore, 1) := by decide +kernel
theorem dX8_endS_18 : decode cX8_endS 18 = .ok (.return_, 1) := by decide +kernel
theorem dX8_closeBracket_0 : decode cX8_closeBracket 0 = .ok (.iload_n 1, 1) := by decide +kernel
theorem dX8_closeBracket_1 : decode cX8_closeBracket 1 = .ok (.istore_n 3, 1) := by decide +kernel
theorem dX8_closeBracket_2 : decode cX8_closeBracket 2 = .ok (.iconst 0, 1) := by decide +kernel
theorem dX8_closeBracket_3 : decode cX8_closeBracket 3 = .ok (.istore 4, 2) := by decide +kernel
theorem dX8_closeBracket_5 : decode cX8_closeBracket 5 = .ok (.iload 4, 2) := by decide +kernel
theorem dX8_closeBracket_7 : decode cX8_closeBracket 7 = .ok (.aload_n 0, 1) := by decide +kernel
theorem dX8_closeBracket_8 : decode cX8_closeBracket 8 = .ok (.getfield 38, 3) := by decide +kernel
theorem dX8_closeBracket_11 : decode cX8_closeBracket 11 = .ok (.if_icmp .ge 32, 3) := by decide +kernel
theorem dX8_closeBracket_14 : decode cX8_closeBracket 14 = .ok (.iload_n 3, 1) := by decide +kernel
theorem dX8_closeBracket_15 : decode cX8_closeBracket 15 = .ok (.ifCond .lt 28, 3) := by decide +kernel
theorem dX8_closeBracket_18 : decode cX8_closeBracket 18 = .ok (.iload_n 3, 1) := by decide +kernel
theorem dX8_closeBracket_19 : decode cX8_closeBracket 19 = .ok (.iload_n 2, 1) := by decide +kernel
theorem dX8_closeBracket_20 : decode cX8_closeBracket 20 = .ok (.if_icmp .ge 23, 3) := by decide +kernel
theorem dX8_closeBracket_23 : decode cX8_closeBracket 23 = .ok (.aload_n 0, 1) := by decide +kernel
theorem dX8_closeBracket_24 : decode cX8_closeBracket 24 = .ok (.getfield 18, 3) := by decide +kernel
theorem dX8_closeBracket_27 : decode cX8_closeBracket 27 = .ok (.iload_n 3, 1) := by decide +kernel
theorem dX8_closeBracket_28 : decode cX8_closeBracket 28 = .ok (.iload_n 2, 1) := by decide +kernel
theorem dX8_closeBracket_29 : decode cX8_closeBracket 29 = .ok (.iastore, 1) := by decide +kernel
theorem dX8_closeBracket_30 : decode cX8_closeBracket 30 = .ok (.aload_n 0, 1) := by decide +kernel
theorem dX8_closeBracket_31 : decode cX8_closeBracket 31 = .ok (.getfield 15, 3) := by decide +kernel
theorem dX8_closeBracket_34 : decode cX8_closeBracket 34 = .ok (.iload_n 3, 1) := by decide +kernel
theorem dX8_closeBracket_35 : decode cX8_closeBracket 35 = .ok (.iaload, 1) := by decide +kernel
theorem dX8_closeBracket_36 : decode cX8_closeBracket 36 = .ok (.istore_n 3, 1) := by decide +kernel
theorem dX8_closeBracket_37 : decode cX8_closeBracket 37 = .ok (.iinc 4 1, 3) := by decide +kernel
theorem dX8_closeBracket_40 : decode cX8_closeBracket 40 = .ok (.goto (-35), 3) := by decide +kernel
theorem dX8_closeBracket_43 : decode cX8_closeBracket 43 = .ok (.aload_n 0, 1) := by decide +kernel
theorem dX8_closeBracket_44 : decode cX8_closeBracket 44 = .ok (.getfield 18, 3) := by decide +kernel
theorem dX8_closeBracket_47 : decode cX8_closeBracket 47 = .ok (.iload_n 2, 1) := by decide +kernel
theorem dX8_closeBracket_48 : decode cX8_closeBracket 48 = .ok (.iload_n 1, 1) := by decide +kernel
theorem dX8_closeBracket_49 : decode cX8_closeBracket 49 = .ok (.iastore, 1) := by decide +kernel
theorem dX8_closeBracket_50 : decode cX8_closeBracket 50 = .ok (.iload_n 2, 1) := by decide +kernel
theorem dX8_closeBracket_51 : decode cX8_closeBracket 51 = .ok (.iconst 1, 1) := by decide +kernel
theorem dX8_closeBracket_52 : decode cX8_closeBracket 52 = .ok (.iadd, 1) := by decide +kernel
theorem dX8_closeBracket_53 : decode cX8_closeBracket 53 = .ok (.istore 4, 2) := by decide +kernel
theorem dX8_closeBracket_55 : decode cX8_closeBracket 55 = .ok (.iload 4, 2) := by decide +kernel
theorem dX8_closeBracket_57 : decode cX8_closeBracket 57 = .ok (.aload_n 0, 1) := by decide +kernel
theorem dX8_closeBracket_58 : decode cX8_closeBracket 58 = .ok (.getfield 38, 3) := by decide +kernel
theorem dX8_closeBracket_61 : decode cX8_closeBracket 61 = .ok (.if_icmp .ge 21, 3) := by decide +kernel
theorem dX8_closeBracket_64 : decode cX8_closeBracket 64 = .ok (.aload_n 0, 1) := by decide +kernel
theorem dX8_closeBracket_65 : decode cX8_closeBracket 65 = .ok (.getfield 9, 3) := by decide +kernel
theorem dX8_closeBracket_68 : decode cX8_closeBracket 68 = .ok (.iload 4, 2) := by decide +kernel
theorem dX8_closeBracket_70 : decode cX8_closeBracket 70 = .ok (.iaload, 1) := by decide +kernel
theorem dX8_closeBracket_71 : decode cX8_closeBracket 71 = .ok (.bipush 32, 2) := by decide +kernel
theorem dX8_closeBracket_73 : decode cX8_closeBracket 73 = .ok (.if_icmp .ne 9, 3) := by decide +kernel
theorem dX8_closeBracket_76 : decode cX8_closeBracket 76 = .ok (.iinc 4 1, 3) := by decide +kernel
theorem dX8_closeBracket_79 : decode cX8_closeBracket 79 = .ok (.goto (-24), 3) := by decide +kernel
theorem dX8_closeBracket_82 : decode cX8_closeBracket 82 = .ok (.aload_n 0, 1) := by decide +kernel
theorem dX8_closeBracket_83 : decode cX8_closeBracket 83 = .ok (.getfield 24, 3) := by decide +kernel
theorem dX8_closeBracket_86 : decode cX8_closeBracket 86 = .ok (.iload_n 2, 1) := by decide +kernel
theorem dX8_closeBracket_87 : decode cX8_closeBracket 87 = .ok (.iload 4, 2) := by decide +kernel
theorem dX8_closeBracket_89 : decode cX8_closeBracket 89 = .ok (.aload_n 0, 1) := by decide +kernel
theorem dX8_closeBracket_90 : decode cX8_closeBracket 90 = .ok (.getfield 38, 3) := by decide +kernel
theorem dX8_closeBracket_93 : decode cX8_closeBracket 93 = .ok (.if_icmp .ge 19, 3) := by decide +kernel
theorem dX8_closeBracket_96 : decode cX8_closeBracket 96 = .ok (.aload_n 0, 1) := by decide +kernel
theorem dX8_closeBracket_97 : decode cX8_closeBracket 97 = .ok (.getfield 9, 3) := by decide +kernel
theorem dX8_closeBracket_100 : decode cX8_closeBracket 100 = .ok (.iload 4, 2) := by decide +kernel
theorem dX8_closeBracket_102 : decode cX8_closeBracket 102 = .ok (.iaload, 1) := by decide +kernel
theorem dX8_closeBracket_103 : decode cX8_closeBracket 103 = .ok (.bipush 42, 2) := by decide +kernel
theorem dX8_closeBracket_105 : decode cX8_closeBracket 105 = .ok (.if_icmp .ne 7, 3) := by decide +kernel
theorem dX8_closeBracket_108 : decode cX8_closeBracket 108 = .ok (.iconst 1, 1) := by decide +kernel
theorem dX8_closeBracket_109 : decode cX8_closeBracket 109 = .ok (.goto 4, 3) := by decide +kernel
theorem dX8_closeBracket_112 : decode cX8_closeBracket 112 = .ok (.iconst 0, 1) := by decide +kernel
theorem dX8_closeBracket_113 : decode cX8_closeBracket 113 = .ok (.bastore, 1) := by decide +kernel
theorem dX8_closeBracket_114 : decode cX8_closeBracket 114 = .ok (.aload_n 0, 1) := by decide +kernel
theorem dX8_closeBracket_115 : decode cX8_closeBracket 115 = .ok (.getfield 21, 3) := by decide +kernel
theorem dX8_closeBracket_118 : decode cX8_closeBracket 118 = .ok (.iload_n 2, 1) := by decide +kernel
theorem dX8_closeBracket_119 : decode cX8_closeBracket 119 = .ok (.aload_n 0, 1) := by decide +kernel
theorem dX8_closeBracket_120 : decode cX8_closeBracket 120 = .ok (.getfield 24, 3) := by decide +kernel
theorem dX8_closeBracket_123 : decode cX8_closeBracket 123 = .ok (.iload_n 2, 1) := by decide +kernel
theorem dX8_closeBracket_124 : decode cX8_closeBracket 124 = .ok (.baload, 1) := by decide +kernel
theorem dX8_closeBracket_125 : decode cX8_closeBracket 125 = .ok (.ifCond .eq 10, 3) := by decide +kernel
theorem dX8_closeBracket_128 : decode cX8_closeBracket 128 = .ok (.iload 4, 2) := by decide +kernel
theorem dX8_closeBracket_130 : decode cX8_closeBracket 130 = .ok (.iconst 1, 1) := by decide +kernel
theorem dX8_closeBracket_131 : decode cX8_closeBracket 131 = .ok (.iadd, 1) := by decide +kernel
theorem dX8_closeBracket_132 : decode cX8_closeBracket 132 = .ok (.goto 6, 3) := by decide +kernel
theorem dX8_closeBracket_135 : decode cX8_closeBracket 135 = .ok (.iload_n 2, 1) := by decide +kernel
theorem dX8_closeBracket_136 : decode cX8_closeBracket 136 = .ok (.iconst 1, 1) := by decide +kernel
theorem dX8_closeBracket_137 : decode cX8_closeBracket 137 = .ok (.iadd, 1) := by decide +kernel
theorem dX8_closeBracket_138 : decode cX8_closeBracket 138 = .ok (.iastore, 1) := by decide +kernel
theorem dX8_closeBracket_139 : decode cX8_closeBracket 139 = .ok (.return_, 1) := by decide +kernel
theorem dX8_callAt_0 : decode cX8_callAt 0 = .ok (.iload_n 1, 1) := by decide +kernel
theorem dX8_callAt_1 : decode cX8_callAt 1 = .ok (.ifCond .lt 18, 3) := by decide +kernel
theorem dX8_callAt_4 : decode cX8_callAt 4 = .ok (.iload_n 1, 1) := by decide +kernel
theorem dX8_callAt_5 : decode cX8_callAt 5 = .ok (.aload_n 0, 1) := by decide +kernel
theorem dX8_callAt_6 : decode cX8_callAt 6 = .ok (.getfield 38, 3) := by decide +kernel
theorem dX8_callAt_9 : decode cX8_callAt 9 = .ok (.if_icmp .ge 10, 3) := by decide +kernel
theorem dX8_callAt_12 : decode cX8_callAt 12 = .ok (.iload_n 1, 1) := by decide +kernel
theorem dX8_callAt_13 : decode cX8_callAt 13 = .ok (.sipush 200, 3) := by decide +kernel
theorem dX8_callAt_16 : decode cX8_callAt 16 = .ok (.if_icmp .lt 5, 3) := by decide +kernel
theorem dX8_callAt_19 : decode cX8_callAt 19 = .ok (.iconst (-1), 1) := by decide +kernel
theorem dX8_callAt_20 : decode cX8_callAt 20 = .ok (.ireturn, 1) := by decide +kernel
theorem dX8_callAt_21 : decode cX8_callAt 21 = .ok (.aload_n 0, 1) := by decide +kernel
theorem dX8_callAt_22 : decode cX8_callAt 22 = .ok (.getfield 9, 3) := by decide +kernel
theorem dX8_callAt_25 : decode cX8_callAt 25 = .ok (.iload_n 1, 1) := by decide +kernel
theorem dX8_callAt_26 : decode cX8_callAt 26 = .ok (.iaload, 1) := by decide +kernel
theorem dX8_callAt_27 : decode cX8_callAt 27 = .ok (.bipush 97, 2) := by decide +kernel
theorem dX8_callAt_29 : decode cX8_callAt 29 = .ok (.isub, 1) := by decide +kernel
theorem dX8_callAt_30 : decode cX8_callAt 30 = .ok (.invokestatic 49, 3) := by decide +kernel
theorem dX8_callAt_33 : decode cX8_callAt 33 = .ok (.ifCond .eq 15, 3) := by decide +kernel
theorem dX8_callAt_36 : decode cX8_callAt 36 = .ok (.aload_n 0, 1) := by decide +kernel
theorem dX8_callAt_37 : decode cX8_callAt 37 = .ok (.getfield 9, 3) := by decide +kernel
theorem dX8_callAt_40 : decode cX8_callAt 40 = .ok (.iload_n 1, 1) := by decide +kernel
theorem dX8_callAt_41 : decode cX8_callAt 41 = .ok (.iaload, 1) := by decide +kernel
theorem dX8_callAt_42 : decode cX8_callAt 42 = .ok (.bipush 97, 2) := by decide +kernel
theorem dX8_callAt_44 : decode cX8_callAt 44 = .ok (.isub, 1) := by decide +kernel
theorem dX8_callAt_45 : decode cX8_callAt 45 = .ok (.goto 4, 3) := by decide +kernel
theorem dX8_callAt_48 : decode cX8_callAt 48 = .ok (.iconst (-1), 1) := by decide +kernel
theorem dX8_callAt_49 : decode cX8_callAt 49 = .ok (.ireturn, 1) := by decide +kernel
theorem dX9_init_0 : decode cX9_init 0 = .ok (.aload_n 0, 1) := by decide +kernel
theorem dX9_init_1 : decode cX9_init 1 = .ok (.invokespecial 3, 3) := by decide +kernel
theorem dX9_init_4 : decode cX9_init 4 = .ok (.aload_n 0, 1) := by decide +kernel
theorem dX9_init_5 : decode cX9_init 5 = .ok (.sipush 5768, 3) := by decide +kernel
theorem dX9_init_8 : decode cX9_init 8 = .ok (.newarray .int, 2) := by decide +kernel
theorem dX9_init_10 : decode cX9_init 10 = .ok (.putfield 9, 3) := by decide +kernel
theorem dX9_init_13 : decode cX9_init 13 = .ok (.aload_n 0, 1) := by decide +kernel
theorem dX9_init_14 : decode cX9_init 14 = .ok (.sipush 721, 3) := by decide +kernel
theorem dX9_init_17 : decode cX9_init 17 = .ok (.newarray .int, 2) := by decide +kernel
theorem dX9_init_19 : decode cX9_init 19 = .ok (.putfield 15, 3) := by decide +kernel
theorem dX9_init_22 : decode cX9_init 22 = .ok (.aload_n 0, 1) := by decide +kernel
theorem dX9_init_23 : decode cX9_init 23 = .ok (.sipush 721, 3) := by decide +kernel
theorem dX9_init_26 : decode cX9_init 26 = .ok (.newarray .int, 2) := by decide +kernel
theorem dX9_init_28 : decode cX9_init 28 = .ok (.putfield 18, 3) := by decide +kernel
theorem dX9_init_31 : decode cX9_init 31 = .ok (.aload_n 0, 1) := by decide +kernel
theorem dX9_init_32 : decode cX9_init 32 = .ok (.bipush 60, 2) := by decide +kernel
theorem dX9_init_34 : decode cX9_init 34 = .ok (.newarray .int, 2) := by decide +kernel
theorem dX9_init_36 : decode cX9_init 36 = .ok (.putfield 21, 3) := by decide +kernel
theorem dX9_init_39 : decode cX9_init 39 = .ok (.aload_n 0, 1) := by decide +kernel
theorem dX9_init_40 : decode cX9_init 40 = .ok (.bipush 60, 2) := by decide +kernel
theorem dX9_init_42 : decode cX9_init 42 = .ok (.newarray .int, 2) := by decide +kernel
theorem dX9_init_44 : decode cX9_init 44 = .ok (.putfield 24, 3) := by decide +kernel
theorem dX9_init_47 : decode cX9_init 47 = .ok (.aload_n 0, 1) := by decide +kernel
theorem dX9_init_48 : decode cX9_init 48 = .ok (.aload_n 1, 1) := by decide +kernel
theorem dX9_init_49 : decode cX9_init 49 = .ok (.putfield 27, 3) := by decide +kernel
theorem dX9_init_52 : decode cX9_init 52 = .ok (.return_, 1) := by decide +kernel
theorem dX9_childOf_0 : decode cX9_childOf 0 = .ok (.iload_n 1, 1) := by decide +kernel
theorem dX9_childOf_1 : decode cX9_childOf 1 = .ok (.ifCond .lt 20, 3) := by decide +kernel
theorem dX9_childOf_4 : decode cX9_childOf 4 = .ok (.iload_n 1, 1) := by decide +kernel
theorem dX9_childOf_5 : decode cX9_childOf 5 = .ok (.sipush 721, 3) := by decide +kernel
theorem dX9_childOf_8 : decode cX9_childOf 8 = .ok (.if_icmp .ge 13, 3) := by decide +kernel
theorem dX9_childOf_11 : decode cX9_childOf 11 = .ok (.iload_n 2, 1) := by decide +kernel
theorem dX9_childOf_12 : decode cX9_childOf 12 = .ok (.ifCond .lt 9, 3) := by decide +kernel
theorem dX9_childOf_15 : decode cX9_childOf 15 = .ok (.iload_n 2, 1) := by decide +kernel
theorem dX9_childOf_16 : decode cX9_childOf 16 = .ok (.bipush 8, 2) := by decide +kernel
theorem dX9_childOf_18 : decode cX9_childOf 18 = .ok (.if_icmp .lt 5, 3) := by decide +kernel
theorem dX9_childOf_21 : decode cX9_childOf 21 = .ok (.iconst (-1), 1) := by decide +kernel
theorem dX9_childOf_22 : decode cX9_childOf 22 = .ok (.ireturn, 1) := by decide +kernel
theorem dX9_childOf_23 : decode cX9_childOf 23 = .ok (.aload_n 0, 1) := by decide +kernel
theorem dX9_childOf_24 : decode cX9_childOf 24 = .ok (.getfield 9, 3) := by decide +kernel
theorem dX9_childOf_27 : decode cX9_childOf 27 = .ok (.iload_n 1, 1) := by decide +kernel
theorem dX9_childOf_28 : decode cX9_childOf 28 = .ok (.bipush 8, 2) := by decide +kernel
theorem dX9_childOf_30 : decode cX9_childOf 30 = .ok (.imul, 1) := by decide +kernel
theorem dX9_childOf_31 : decode cX9_childOf 31 = .ok (.iload_n 2, 1) := by decide +kernel
theorem dX9_childOf_32 : decode cX9_childOf 32 = .ok (.iadd, 1) := by decide +kernel
theorem dX9_childOf_33 : decode cX9_childOf 33 = .ok (.iaload, 1) := by decide +kernel
theorem dX9_childOf_34 : decode cX9_childOf 34 = .ok (.ireturn, 1) := by decide +kernel
theorem dX9_grow_0 : decode cX9_grow 0 = .ok (.aload_n 0, 1) := by decide +kernel
theorem dX9_grow_1 : decode cX9_grow 1 = .ok (.iconst 0, 1) := by decide +kernel
theorem dX9_grow_2 : decode cX9_grow 2 = .ok (.putfield 31, 3) := by decide +kernel
theorem dX9_grow_5 : decode cX9_grow 5 = .ok (.aload_n 0, 1) := by decide +kernel
theorem dX9_grow_6 : decode cX9_grow 6 = .ok (.iconst (-1), 1) := by decide +kernel
theorem dX9_grow_7 : decode cX9_grow 7 = .ok (.iconst (-1), 1) := by decide +kernel
theorem dX9_grow_8 : decode cX9_grow 8 = .ok (.invokevirtual 35, 3) := by decide +kernel
theorem dX9_grow_11 : decode cX9_grow 11 = .ok (.pop, 1) := by decide +kernel
theorem dX9_grow_12 : decode cX9_grow 12 = .ok (.iconst 0, 1) := by decide +kernel
theorem dX9_grow_13 : decode cX9_grow 13 = .ok (.istore_n 1, 1) := by decide +kernel
theorem dX9_grow_14 : decode cX9_grow 14 = .ok (.iload_n 1, 1) := by decide +kernel
theorem dX9_grow_15 : decode cX9_grow 15 = .ok (.bipush 60, 2) := by decide +kernel
theorem dX9_grow_17 : decode cX9_grow 17 = .ok (.if_icmp .ge 45, 3) := by decide +kernel
theorem dX9_grow_20 : decode cX9_grow 20 = .ok (.aload_n 0, 1) := by decide +kernel
theorem dX9_grow_21 : decode cX9_grow 21 = .ok (.getfield 21, 3) := by decide +kernel
theorem dX9_grow_24 : decode cX9_grow 24 = .ok (.iload_n 1, 1) := by decide +kernel
theorem dX9_grow_25 : decode cX9_grow 25 = .ok (.aload_n 0, 1) := by decide +kernel
theorem dX9_grow_26 : decode cX9_grow 26 = .ok (.getfield 27, 3) := by decide +kernel
theorem dX9_grow_29 : decode cX9_grow 29 = .ok (.iload_n 1, 1) := by decide +kernel
theorem dX9_grow_30 : decode cX9_grow 30 = .ok (.invokevirtual 39, 3) := by decide +kernel
theorem dX9_grow_33 : decode cX9_grow 33 = .ok (.ifCond .eq 14, 3) := by decide +kernel
theorem dX9_grow_36 : decode cX9_grow 36 = .ok (.aload_n 0, 1) := by decide +kernel
theorem dX9_grow_37 : decode cX9_grow 37 = .ok (.getfield 27, 3) := by decide +kernel
theorem dX9_grow_40 : decode cX9_grow 40 = .ok (.iload_n 1, 1) := by decide +kernel
theorem dX9_grow_41 : decode cX9_grow 41 = .ok (.invokevirtual 45, 3) := by decide +kernel
theorem dX9_grow_44 : decode cX9_grow 44 = .ok (.goto 4, 3) := by decide +kernel
theorem dX9_grow_47 : decode cX9_grow 47 = .ok (.iconst 0, 1) := by decide +kernel
theorem dX9_grow_48 : decode cX9_grow 48 = .ok (.iastore, 1) := by decide +kernel
theorem dX9_grow_49 : decode cX9_grow 49 = .ok (.aload_n 0, 1) := by decide +kernel
theorem dX9_grow_50 : decode cX9_grow 50 = .ok (.getfield 24, 3) := by decide +kernel
theorem dX9_grow_53 : decode cX9_grow 53 = .ok (.iload_n 1, 1) := by decide +kernel
theorem dX9_grow_54 : decode cX9_grow 54 = .ok (.iconst 0, 1) := by decide +kernel
theorem dX9_grow_55 : decode cX9_grow 55 = .ok (.iastore, 1) := by decide +kernel
theorem dX9_grow_56 : decode cX9_grow 56 = .ok (.iinc 1 1, 3) := by decide +kernel
theorem dX9_grow_59 : decode cX9_grow 59 = .ok (.goto (-45), 3) := by decide +kernel
theorem dX9_grow_62 : decode cX9_grow 62 = .ok (.iconst 0, 1) := by decide +kernel
theorem dX9_grow_63 : decode cX9_grow 63 = .ok (.istore_n 1, 1) := by decide +kernel
theorem dX9_grow_64 : decode cX9_grow 64 = .ok (.iconst 0, 1) := by decide +kernel
theorem dX9_grow_65 : decode cX9_grow 65 = .ok (.istore_n 2, 1) := by decide +kernel
theorem dX9_grow_66 : decode cX9_grow 66 = .ok (.iload_n 2, 1) := by decide +kernel
theorem dX9_grow_67 : decode cX9_grow 67 = .ok (.bipush 12, 2) := by decide +kernel
theorem dX9_grow_69 : decode cX9_grow 69 = .ok (.if_icmp .ge 40, 3) := by decide +kernel
theorem dX9_grow_72 : decode cX9_grow 72 = .ok (.iload_n 1, 1) := by decide +kernel
theorem dX9_grow_73 : decode cX9_grow 73 = .ok (.aload_n 0, 1) := by decide +kernel
theorem dX9_grow_74 : decode cX9_grow 74 = .ok (.getfield 31, 3) := by decide +kernel
theorem dX9_grow_77 : decode cX9_grow 77 = .ok (.if_icmp .ge 32, 3) := by decide +kernel
theorem dX9_grow_80 : decode cX9_grow 80 = .ok (.aload_n 0, 1) := by decide +kernel
theorem dX9_grow_81 : decode cX9_grow 81 = .ok (.getfield 31, 3) := by decide +kernel
theorem dX9_grow_84 : decode cX9_grow 84 = .ok (.istore_n 3, 1) := by decide +kernel
theorem dX9_grow_85 : decode cX9_grow 85 = .ok (.aload_n 0, 1) := by decide +kernel
theorem dX9_grow_86 : decode cX9_grow 86 = .ok (.iload_n 2, 1) := by decide +kernel
theorem dX9_grow_87 : decode cX9_grow 87 = .ok (.invokevirtual 49, 3) := by decide +kernel
theorem dX9_grow_90 : decode cX9_grow 90 = .ok (.aload_n 0, 1) := by decide +kernel
theorem dX9_grow_91 : decode cX9_grow 91 = .ok (.iload_n 1, 1) := by decide +kernel
theorem dX9_grow_92 : decode cX9_grow 92 = .ok (.iload_n 3, 1) := by decide +kernel
theorem dX9_grow_93 : decode cX9_grow 93 = .ok (.invokevirtual 53, 3) := by decide +kernel
theorem dX9_grow_96 : decode cX9_grow 96 = .ok (.aload_n 0, 1) := by decide +kernel
theorem dX9_grow_97 : decode cX9_grow 97 = .ok (.iload_n 2, 1) := by decide +kernel
theorem dX9_grow_98 : decode cX9_grow 98 = .ok (.invokevirtual 57, 3) := by decide +kernel
theorem dX9_grow_101 : decode cX9_grow 101 = .ok (.iload_n 3, 1) := by decide +kernel
theorem dX9_grow_102 : decode cX9_grow 102 = .ok (.istore_n 1, 1) := by decide +kernel
theorem dX9_grow_103 : decode cX9_grow 103 = .ok (.iinc 2 1, 3) := by decide +kernel
theorem dX9_grow_106 : decode cX9_grow 106 = .ok (.goto (-40), 3) := by decide +kernel
theorem dX9_grow_109 : decode cX9_grow 109 = .ok (.return_, 1) := by decide +kernel
theorem dX9_addNode_0 : decode cX9_addNode 0 = .ok (.aload_n 0, 1) := by decide +kernel
theorem dX9_addNode_1 : decode cX9_addNode 1 = .ok (.getfield 31, 3) := by decide +kernel
theorem dX9_addNode_4 : decode cX9_addNode 4 = .ok (.sipush 721, 3) := by decide +kernel
theorem dX9_addNode_7 : decode cX9_addNode 7 = .ok (.if_icmp .lt 5, 3) := by decide +kernel
theorem dX9_addNode_10 : decode cX9_addNode 10 = .ok (.iconst (-1), 1) := by decide +kernel
theorem dX9_addNode_11 : decode cX9_addNode 11 = .ok (.ireturn, 1) := by decide +kernel
theorem dX9_addNode_12 : decode cX9_addNode 12 = .ok (.aload_n 0, 1) := by decide +kernel
theorem dX9_addNode_13 : decode cX9_addNode 13 = .ok (.getfield 15, 3) := by decide +kernel
theorem dX9_addNode_16 : decode cX9_addNode 16 = .ok (.aload_n 0, 1) := by decide +kernel
theorem dX9_addNode_17 : decode cX9_addNode 17 = .ok (.getfield 31, 3) := by decide +kernel
theorem dX9_addNode_20 : decode cX9_addNode 20 = .ok (.iload_n 1, 1) := by decide +kernel
theorem dX9_addNode_21 : decode cX9_addNode 21 = .ok (.iastore, 1) := by decide +kernel
theorem dX9_addNode_22 : decode cX9_addNode 22 = .ok (.aload_n 0, 1) := by decide +kernel
theorem dX9_addNode_23 : decode cX9_addNode 23 = .ok (.getfield 18, 3) := by decide +kernel
theorem dX9_addNode_26 : decode cX9_addNode 26 = .ok (.aload_n 0, 1) := by decide +kernel
theorem dX9_addNode_27 : decode cX9_addNode 27 = .ok (.getfield 31, 3) := by decide +kernel
theorem dX9_addNode_30 : decode cX9_addNode 30 = .ok (.iload_n 2, 1) := by decide +kernel
theorem dX9_addNode_31 : decode cX9_addNode 31 = .ok (.iastore, 1) := by decide +kernel
theorem dX9_addNode_32 : decode cX9_addNode 32 = .ok (.iconst 0, 1) := by decide +kernel
theorem dX9_addNode_33 : decode cX9_addNode 33 = .ok (.istore_n 3, 1) := by decide +kernel
theorem dX9_addNode_34 : decode cX9_addNode 34 = .ok (.iload_n 3, 1) := by decide +kernel
theorem dX9_addNode_35 : decode cX9_addNode 35 = .ok (.bipush 8, 2) := by decide +kernel
theorem dX9_addNode_37 : decode cX9_addNode 37 = .ok (.if_icmp .ge 24, 3) := by decide +kernel
theorem dX9_addNode_40 : decode cX9_addNode 40 = .ok (.aload_n 0, 1) := by decide +kernel
theorem dX9_addNode_41 : decode cX9_addNode 41 = .ok (.getfield 9, 3) := by decide +kernel
theorem dX9_addNode_44 : decode cX9_addNode 44 = .ok (.aload_n 0, 1) := by decide +kernel
theorem dX9_addNode_45 : decode cX9_addNode 45 = .ok (.getfield 31, 3) := by decide +kernel
theorem dX9_addNode_48 : decode cX9_addNode 48 = .ok (.bipush 8, 2) := by decide +kernel
theorem dX9_addNode_50 : decode cX9_addNode 50 = .ok (.imul, 1) := by decide +kernel
theorem dX9_addNode_51 : decode cX9_addNode 51 = .ok (.iload_n 3, 1) := by decide +kernel
theorem dX9_addNode_52 : decode cX9_addNode 52 = .ok (.iadd, 1) := by decide +kernel
theorem dX9_addNode_53 : decode cX9_addNode 53 = .ok (.iconst (-1), 1) := by decide +kernel
theorem dX9_addNode_54 : decode cX9_addNode 54 = .ok (.iastore, 1) := by decide +kernel
theorem dX9_addNode_55 : decode cX9_addNode 55 = .ok (.iinc 3 1, 3) := by decide +kernel
theorem dX9_addNode_58 : decode cX9_addNode 58 = .ok (.goto (-24), 3) := by decide +kernel
theorem dX9_addNode_61 : decode cX9_addNode 61 = .ok (.aload_n 0, 1) := by decide +kernel
theorem dX9_addNode_62 : decode cX9_addNode 62 = .ok (.dup, 1) := by decide +kernel
theorem dX9_addNode_63 : decode cX9_addNode 63 = .ok (.getfield 31, 3) := by decide +kernel
theorem dX9_addNode_66 : decode cX9_addNode 66 = .ok (.iconst 1, 1) := by decide +kernel
theorem dX9_addNode_67 : decode cX9_addNode 67 = .ok (.iadd, 1) := by decide +kernel
theorem dX9_addNode_68 : decode cX9_addNode 68 = .ok (.putfield 31, 3) := by decide +kernel
theorem dX9_addNode_71 : decode cX9_addNode 71 = .ok (.aload_n 0, 1) := by decide +kernel
theorem dX9_addNode_72 : decode cX9_addNode 72 = .ok (.getfield 31, 3) := by decide +kernel
theorem dX9_addNode_75 : decode cX9_addNode 75 = .ok (.iconst 1, 1) := by decide +kernel
theorem dX9_addNode_76 : decode cX9_addNode 76 = .ok (.isub, 1) := by decide +kernel
theorem dX9_addNode_77 : decode cX9_addNode 77 = .ok (.ireturn, 1) := by decide +kernel
theorem dX9_askForChildren_0 : decode cX9_askForChildren 0 = .ok (.iconst 0, 1) := by decide +kernel
theorem dX9_askForChildren_1 : decode cX9_askForChildren 1 = .ok (.istore_n 2, 1) := by decide +kernel
theorem dX9_askForChildren_2 : decode cX9_askForChildren 2 = .ok (.iload_n 2, 1) := by decide +kernel
theorem dX9_askForChildren_3 : decode cX9_askForChildren 3 = .ok (.bipush 60, 2) := by decide +kernel
theorem dX9_askForChildren_5 : decode cX9_askForChildren 5 = .ok (.if_icmp .ge 70, 3) := by decide +kernel
theorem dX9_askForChildren_8 : decode cX9_askForChildren 8 = .ok (.aload_n 0, 1) := by decide +kernel
theorem dX9_askForChildren_9 : decode cX9_askForChildren 9 = .ok (.getfield 24, 3) := by decide +kernel
theorem dX9_askForChildren_12 : decode cX9_askForChildren 12 = .ok (.iload_n 2, 1) := by decide +kernel
theorem dX9_askForChildren_13 : decode cX9_askForChildren 13 = .ok (.iaload, 1) := by decide +kernel
theorem dX9_askForChildren_14 : decode cX9_askForChildren 14 = .ok (.istore_n 3, 1) := by decide +kernel
theorem dX9_askForChildren_15 : decode cX9_askForChildren 15 = .ok (.aload_n 0, 1) := by decide +kernel
theorem dX9_askForChildren_16 : decode cX9_askForChildren 16 = .ok (.getfield 27, 3) := by decide +kernel
theorem dX9_askForChildren_19 : decode cX9_askForChildren 19 = .ok (.iload_n 2, 1) := by decide +kernel
theorem dX9_askForChildren_20 : decode cX9_askForChildren 20 = .ok (.iload_n 1, 1) := by decide +kernel
theorem dX9_askForChildren_21 : decode cX9_askForChildren 21 = .ok (.invokevirtual 60, 3) := by decide +kernel
theorem dX9_askForChildren_24 : decode cX9_askForChildren 24 = .ok (.istore 4, 2) := by decide +kernel
theorem dX9_askForChildren_26 : decode cX9_askForChildren 26 = .ok (.aload_n 0, 1) := by decide +kernel
theorem dX9_askForChildren_27 : decode cX9_askForChildren 27 = .ok (.getfield 21, 3) := by decide +kernel
theorem dX9_askForChildren_30 : decode cX9_askForChildren 30 = .ok (.iload_n 2, 1) := by decide +kernel
theorem dX9_askForChildren_31 : decode cX9_askForChildren 31 = .ok (.iaload, 1) := by decide +kernel
theorem dX9_askForChildren_32 : decode cX9_askForChildren 32 = .ok (.iload_n 1, 1) := by decide +kernel
theorem dX9_askForChildren_33 : decode cX9_askForChildren 33 = .ok (.if_icmp .le 36, 3) := by decide +kernel
theorem dX9_askForChildren_36 : decode cX9_askForChildren 36 = .ok (.iload_n 3, 1) := by decide +kernel
theorem dX9_askForChildren_37 : decode cX9_askForChildren 37 = .ok (.ifCond .lt 32, 3) := by decide +kernel
theorem dX9_askForChildren_40 : decode cX9_askForChildren 40 = .ok (.iload_n 3, 1) := by decide +kernel
theorem dX9_askForChildren_41 : decode cX9_askForChildren 41 = .ok (.sipush 721, 3) := by decide +kernel
theorem dX9_askForChildren_44 : decode cX9_askForChildren 44 = .ok (.if_icmp .ge 25, 3) := by decide +kernel
theorem dX9_askForChildren_47 : decode cX9_askForChildren 47 = .ok (.iload 4, 2) := by decide +kernel
theorem dX9_askForChildren_49 : decode cX9_askForChildren 49 = .ok (.invokestatic 63, 3) := by decide +kernel
theorem dX9_askForChildren_52 : decode cX9_askForChildren 52 = .ok (.ifCond .eq 17, 3) := by decide +kernel
theorem dX9_askForChildren_55 : decode cX9_askForChildren 55 = .ok (.aload_n 0, 1) := by decide +kernel
theorem dX9_askForChildren_56 : decode cX9_askForChildren 56 = .ok (.getfield 9, 3) := by decide +kernel
theorem dX9_askForChildren_59 : decode cX9_askForChildren 59 = .ok (.iload_n 3, 1) := by decide +kernel
theorem dX9_askForChildren_60 : decode cX9_askForChildren 60 = .ok (.bipush 8, 2) := by decide +kernel
theorem dX9_askForChildren_62 : decode cX9_askForChildren 62 = .ok (.imul, 1) := by decide +kernel
theorem dX9_askForChildren_63 : decode cX9_askForChildren 63 = .ok (.iload 4, 2) := by decide +kernel
theorem dX9_askForChildren_65 : decode cX9_askForChildren 65 = .ok (.iadd, 1) := by decide +kernel
theorem dX9_askForChildren_66 : decode cX9_askForChildren 66 = .ok (.bipush (-2), 2) := by decide +kernel
theorem dX9_askForChildren_68 : decode cX9_askForChildren 68 = .ok (.iastore, 1) := by decide +kernel
theorem dX9_askForChildren_69 : decode cX9_askForChildren 69 = .ok (.iinc 2 1, 3) := by decide +kernel
theorem dX9_askForChildren_72 : decode cX9_askForChildren 72 = .ok (.goto (-70), 3) := by decide +kernel
theorem dX9_askForChildren_75 : decode cX9_askForChildren 75 = .ok (.return_, 1) := by decide +kernel
theorem dX9_nameChildren_0 : decode cX9_nameChildren 0 = .ok (.iload_n 1, 1) := by decide +kernel
theorem dX9_nameChildren_1 : decode cX9_nameChildren 1 = .ok (.istore_n 3, 1) := by decide +kernel
theorem dX9_nameChildren_2 : decode cX9_nameChildren 2 = .ok (.iload_n 3, 1) := by decide +kernel
theorem dX9_nameChildren_3 : decode cX9_nameChildren 3 = .ok (.iload_n 2, 1) := by decide +kernel
theorem dX9_nameChildren_4 : decode cX9_nameChildren 4 = .ok (.if_icmp .ge 68, 3) := by decide +kernel
theorem dX9_nameChildren_7 : decode cX9_nameChildren 7 = .ok (.iload_n 3, 1) := by decide +kernel
theorem dX9_nameChildren_8 : decode cX9_nameChildren 8 = .ok (.sipush 721, 3) := by decide +kernel
theorem dX9_nameChildren_11 : decode cX9_nameChildren 11 = .ok (.if_icmp .ge 61, 3) := by decide +kernel
theorem dX9_nameChildren_14 : decode cX9_nameChildren 14 = .ok (.iconst 0, 1) := by decide +kernel
theorem dX9_nameChildren_15 : decode cX9_nameChildren 15 = .ok (.istore 4, 2) := by decide +kernel
theorem dX9_nameChildren_17 : decode cX9_nameChildren 17 = .ok (.iload 4, 2) := by decide +kernel
theorem dX9_nameChildren_19 : decode cX9_nameChildren 19 = .ok (.bipush 8, 2) := by decide +kernel
theorem dX9_nameChildren_21 : decode cX9_nameChildren 21 = .ok (.if_icmp .ge 45, 3) := by decide +kernel
theorem dX9_nameChildren_24 : decode cX9_nameChildren 24 = .ok (.aload_n 0, 1) := by decide +kernel
theorem dX9_nameChildren_25 : decode cX9_nameChildren 25 = .ok (.getfield 9, 3) := by decide +kernel
theorem dX9_nameChildren_28 : decode cX9_nameChildren 28 = .ok (.iload_n 3, 1) := by decide +kernel
theorem dX9_nameChildren_29 : decode cX9_nameChildren 29 = .ok (.bipush 8, 2) := by decide +kernel
theorem dX9_nameChildren_31 : decode cX9_nameChildren 31 = .ok (.imul, 1) := by decide +kernel
theorem dX9_nameChildren_32 : decode cX9_nameChildren 32 = .ok (.iload 4, 2) := by decide +kernel
theorem dX9_nameChildren_34 : decode cX9_nameChildren 34 = .ok (.iadd, 1) := by decide +kernel
theorem dX9_nameChildren_35 : decode cX9_nameChildren 35 = .ok (.iaload, 1) := by decide +kernel
theorem dX9_nameChildren_36 : decode cX9_nameChildren 36 = .ok (.bipush (-2), 2) := by decide +kernel
theorem dX9_nameChildren_38 : decode cX9_nameChildren 38 = .ok (.if_icmp .ne 22, 3) := by decide +kernel
theorem dX9_nameChildren_41 : decode cX9_nameChildren 41 = .ok (.aload_n 0, 1) := by decide +kernel
theorem dX9_nameChildren_42 : decode cX9_nameChildren 42 = .ok (.getfield 9, 3) := by decide +kernel
theorem dX9_nameChildren_45 : decode cX9_nameChildren 45 = .ok (.iload_n 3, 1) := by decide +kernel
theorem dX9_nameChildren_46 : decode cX9_nameChildren 46 = .ok (.bipush 8, 2) := by decide +kernel
theorem dX9_nameChildren_48 : decode cX9_nameChildren 48 = .ok (.imul, 1) := by decide +kernel
theorem dX9_nameChildren_49 : decode cX9_nameChildren 49 = .ok (.iload 4, 2) := by decide +kernel
theorem dX9_nameChildren_51 : decode cX9_nameChildren 51 = .ok (.iadd, 1) := by decide +kernel
theorem dX9_nameChildren_52 : decode cX9_nameChildren 52 = .ok (.aload_n 0, 1) := by decide +kernel
theorem dX9_nameChildren_53 : decode cX9_nameChildren 53 = .ok (.iload_n 3, 1) := by decide +kernel
theorem dX9_nameChildren_54 : decode cX9_nameChildren 54 = .ok (.iload 4, 2) := by decide +kernel
theorem dX9_nameChildren_56 : decode cX9_nameChildren 56 = .ok (.invokevirtual 35, 3) := by decide +kernel
theorem dX9_nameChildren_59 : decode cX9_nameChildren 59 = .ok (.iastore, 1) := by decide +kernel
theorem dX9_nameChildren_60 : decode cX9_nameChildren 60 = .ok (.iinc 4 1, 3) := by decide +kernel
theorem dX9_nameChildren_63 : decode cX9_nameChildren 63 = .ok (.goto (-46), 3) := by decide +kernel
theorem dX9_nameChildren_66 : decode cX9_nameChildren 66 = .ok (.iinc 3 1, 3) := by decide +kernel
theorem dX9_nameChildren_69 : decode cX9_nameChildren 69 = .ok (.goto (-67), 3) := by decide +kernel
theorem dX9_nameChildren_72 : decode cX9_nameChildren 72 = .ok (.return_, 1) := by decide +kernel
theorem dX9_goDown_0 : decode cX9_goDown 0 = .ok (.iconst 0, 1) := by decide +kernel
theorem dX9_goDown_1 : decode cX9_goDown 1 = .ok (.istore_n 2, 1) := by decide +kernel
theorem dX9_goDown_2 : decode cX9_goDown 2 = .ok (.iload_n 2, 1) := by decide +kernel
theorem dX9_goDown_3 : decode cX9_goDown 3 = .ok (.bipush 60, 2) := by decide +kernel
theorem dX9_goDown_5 : decode cX9_goDown 5 = .ok (.if_icmp .ge 44, 3) := by decide +kernel
theorem dX9_goDown_8 : decode cX9_goDown 8 = .ok (.aload_n 0, 1) := by decide +kernel
theorem dX9_goDown_9 : decode cX9_goDown 9 = .ok (.getfield 21, 3) := by decide +kernel
theorem dX9_goDown_12 : decode cX9_goDown 12 = .ok (.iload_n 2, 1) := by decide +kernel
theorem dX9_goDown_13 : decode cX9_goDown 13 = .ok (.iaload, 1) := by decide +kernel
theorem dX9_goDown_14 : decode cX9_goDown 14 = .ok (.iload_n 1, 1) := by decide +kernel
theorem dX9_goDown_15 : decode cX9_goDown 15 = .ok (.if_icmp .le 28, 3) := by decide +kernel
theorem dX9_goDown_18 : decode cX9_goDown 18 = .ok (.aload_n 0, 1) := by decide +kernel
theorem dX9_goDown_19 : decode cX9_goDown 19 = .ok (.getfield 24, 3) := by decide +kernel
theorem dX9_goDown_22 : decode cX9_goDown 22 = .ok (.iload_n 2, 1) := by decide +kernel
theorem dX9_goDown_23 : decode cX9_goDown 23 = .ok (.aload_n 0, 1) := by decide +kernel
theorem dX9_goDown_24 : decode cX9_goDown 24 = .ok (.aload_n 0, 1) := by decide +kernel
theorem dX9_goDown_25 : decode cX9_goDown 25 = .ok (.getfield 24, 3) := by decide +kernel
theorem dX9_goDown_28 : decode cX9_goDown 28 = .ok (.iload_n 2, 1) := by decide +kernel
theorem dX9_goDown_29 : decode cX9_goDown 29 = .ok (.iaload, 1) := by decide +kernel
theorem dX9_goDown_30 : decode cX9_goDown 30 = .ok (.aload_n 0, 1) := by decide +kernel
theorem dX9_goDown_31 : decode cX9_goDown 31 = .ok (.getfield 27, 3) := by decide +kernel
theorem dX9_goDown_34 : decode cX9_goDown 34 = .ok (.iload_n 2, 1) := by decide +kernel
theorem dX9_goDown_35 : decode cX9_goDown 35 = .ok (.iload_n 1, 1) := by decide +kernel
theorem dX9_goDown_36 : decode cX9_goDown 36 = .ok (.invokevirtual 60, 3) := by decide +kernel
theorem dX9_goDown_39 : decode cX9_goDown 39 = .ok (.invokevirtual 66, 3) := by decide +kernel
theorem dX9_goDown_42 : decode cX9_goDown 42 = .ok (.iastore, 1) := by decide +kernel
theorem dX9_goDown_43 : decode cX9_goDown 43 = .ok (.iinc 2 1, 3) := by decide +kernel
theorem dX9_goDown_46 : decode cX9_goDown 46 = .ok (.goto (-44), 3) := by decide +kernel
theorem dX9_goDown_49 : decode cX9_goDown 49 = .ok (.return_, 1) := by decide +kernel
theorem dX10_init_0 : decode cX10_init 0 = .ok (.aload_n 0, 1) := by decide +kernel
theorem dX10_init_1 : decode cX10_init 1 = .ok (.invokespecial 3, 3) := by decide +kernel
theorem dX10_init_4 : decode cX10_init 4 = .ok (.aload_n 0, 1) := by decide +kernel
theorem dX10_init_5 : decode cX10_init 5 = .ok (.new 9, 3) := by decide +kernel
theorem dX10_init_8 : decode cX10_init 8 = .ok (.dup, 1) := by decide +kernel
theorem dX10_init_9 : decode cX10_init 9 = .ok (.bipush 12, 2) := by decide +kernel
theorem dX10_init_11 : decode cX10_init 11 = .ok (.invokespecial 11, 3) := by decide +kernel
theorem dX10_init_14 : decode cX10_init 14 = .ok (.putfield 14, 3) := by decide +kernel
theorem dX10_init_17 : decode cX10_init 17 = .ok (.aload_n 0, 1) := by decide +kernel
theorem dX10_init_18 : decode cX10_init 18 = .ok (.new 18, 3) := by decide +kernel
theorem dX10_init_21 : decode cX10_init 21 = .ok (.dup, 1) := by decide +kernel
theorem dX10_init_22 : decode cX10_init 22 = .ok (.invokespecial 20, 3) := by decide +kernel
theorem dX10_init_25 : decode cX10_init 25 = .ok (.putfield 21, 3) := by decide +kernel
theorem dX10_init_28 : decode cX10_init 28 = .ok (.aload_n 0, 1) := by decide +kernel
theorem dX10_init_29 : decode cX10_init 29 = .ok (.new 25, 3) := by decide +kernel
theorem dX10_init_32 : decode cX10_init 32 = .ok (.dup, 1) := by decide +kernel
theorem dX10_init_33 : decode cX10_init 33 = .ok (.aload_n 0, 1) := by decide +kernel
theorem dX10_init_34 : decode cX10_init 34 = .ok (.getfield 21, 3) := by decide +kernel
theorem dX10_init_37 : decode cX10_init 37 = .ok (.invokespecial 27, 3) := by decide +kernel
theorem dX10_init_40 : decode cX10_init 40 = .ok (.putfield 30, 3) := by decide +kernel
theorem dX10_init_43 : decode cX10_init 43 = .ok (.aload_n 0, 1) := by decide +kernel
theorem dX10_init_44 : decode cX10_init 44 = .ok (.new 34, 3) := by decide +kernel
theorem dX10_init_47 : decode cX10_init 47 = .ok (.dup, 1) := by decide +kernel
theorem dX10_init_48 : decode cX10_init 48 = .ok (.aload_n 0, 1) := by decide +kernel
theorem dX10_init_49 : decode cX10_init 49 = .ok (.getfield 21, 3) := by decide +kernel
theorem dX10_init_52 : decode cX10_init 52 = .ok (.aload_n 0, 1) := by decide +kernel
theorem dX10_init_53 : decode cX10_init 53 = .ok (.getfield 30, 3) := by decide +kernel
theorem dX10_init_56 : decode cX10_init 56 = .ok (.invokespecial 36, 3) := by decide +kernel
theorem dX10_init_59 : decode cX10_init 59 = .ok (.putfield 39, 3) := by decide +kernel
theorem dX10_init_62 : decode cX10_init 62 = .ok (.aload_n 0, 1) := by decide +kernel
theorem dX10_init_63 : decode cX10_init 63 = .ok (.new 43, 3) := by decide +kernel
theorem dX10_init_66 : decode cX10_init 66 = .ok (.dup, 1) := by decide +kernel
theorem dX10_init_67 : decode cX10_init 67 = .ok (.invokespecial 45, 3) := by decide +kernel
theorem dX10_init_70 : decode cX10_init 70 = .ok (.putfield 46, 3) := by decide +kernel
theorem dX10_init_73 : decode cX10_init 73 = .ok (.aload_n 0, 1) := by decide +kernel
theorem dX10_init_74 : decode cX10_init 74 = .ok (.new 50, 3) := by decide +kernel
theorem dX10_init_77 : decode cX10_init 77 = .ok (.dup, 1) := by decide +kernel
theorem dX10_init_78 : decode cX10_init 78 = .ok (.aload_n 0, 1) := by decide +kernel
theorem dX10_init_79 : decode cX10_init 79 = .ok (.getfield 21, 3) := by decide +kernel
theorem dX10_init_82 : decode cX10_init 82 = .ok (.aload_n 0, 1) := by decide +kernel
theorem dX10_init_83 : decode cX10_init 83 = .ok (.getfield 30, 3) := by decide +kernel
theorem dX10_init_86 : decode cX10_init 86 = .ok (.invokespecial 52, 3) := by decide +kernel
theorem dX10_init_89 : decode cX10_init 89 = .ok (.putfield 53, 3) := by decide +kernel
theorem dX10_init_92 : decode cX10_init 92 = .ok (.aload_n 0, 1) := by decide +kernel
theorem dX10_init_93 : decode cX10_init 93 = .ok (.new 9, 3) := by decide +kernel
theorem dX10_init_96 : decode cX10_init 96 = .ok (.dup, 1) := by decide +kernel
theorem dX10_init_97 : decode cX10_init 97 = .ok (.sipush 200, 3) := by decide +kernel
theorem dX10_init_100 : decode cX10_init 100 = .ok (.invokespecial 11, 3) := by decide +kernel
theorem dX10_init_103 : decode cX10_init 103 = .ok (.putfield 57, 3) := by decide +kernel
theorem dX10_init_106 : decode cX10_init 106 = .ok (.aload_n 0, 1) := by decide +kernel
theorem dX10_init_107 : decode cX10_init 107 = .ok (.new 60, 3) := by decide +kernel
theorem dX10_init_110 : decode cX10_init 110 = .ok (.dup, 1) := by decide +kernel
theorem dX10_init_111 : decode cX10_init 111 = .ok (.invokespecial 62, 3) := by decide +kernel
theorem dX10_init_114 : decode cX10_init 114 = .ok (.putfield 63, 3) := by decide +kernel
theorem dX10_init_117 : decode cX10_init 117 = .ok (.aload_n 0, 1) := by decide +kernel
theorem dX10_init_118 : decode cX10_init 118 = .ok (.new 67, 3) := by decide +kernel
theorem dX10_init_121 : decode cX10_init 121 = .ok (.dup, 1) := by decide +kernel
theorem dX10_init_122 : decode cX10_init 122 = .ok (.aload_n 0, 1) := by decide +kernel
theorem dX10_init_123 : decode cX10_init 123 = .ok (.getfield 63, 3) := by decide +kernel
theorem dX10_init_126 : decode cX10_init 126 = .ok (.aload_n 0, 1) := by decide +kernel
theorem dX10_init_127 : decode cX10_init 127 = .ok (.getfield 46, 3) := by decide +kernel
theorem dX10_init_130 : decode cX10_init 130 = .ok (.invokespecial 69, 3) := by decide +kernel
theorem dX10_init_133 : decode cX10_init 133 = .ok (.putfield 72, 3) := by decide +kernel
theorem dX10_init_136 : decode cX10_init 136 = .ok (.aload_n 0, 1) := by decide +kernel
theorem dX10_init_137 : decode cX10_init 137 = .ok (.new 76, 3) := by decide +kernel
theorem dX10_init_140 : decode cX10_init 140 = .ok (.dup, 1) := by decide +kernel
theorem dX10_init_141 : decode cX10_init 141 = .ok (.aload_n 0, 1) := by decide +kernel
theorem dX10_init_142 : decode cX10_init 142 = .ok (.getfield 14, 3) := by decide +kernel
theorem dX10_init_145 : decode cX10_init 145 = .ok (.aload_n 0, 1) := by decide +kernel
theorem dX10_init_146 : decode cX10_init 146 = .ok (.getfield 46, 3) := by decide +kernel
theorem dX10_init_149 : decode cX10_init 149 = .ok (.invokespecial 78, 3) := by decide +kernel
theorem dX10_init_152 : decode cX10_init 152 = .ok (.putfield 81, 3) := by decide +kernel
theorem dX10_init_155 : decode cX10_init 155 = .ok (.aload_n 0, 1) := by decide +kernel
theorem dX10_init_156 : decode cX10_init 156 = .ok (.new 85, 3) := by decide +kernel
theorem dX10_init_159 : decode cX10_init 159 = .ok (.dup, 1) := by decide +kernel
theorem dX10_init_160 : decode cX10_init 160 = .ok (.aload_n 0, 1) := by decide +kernel
theorem dX10_init_161 : decode cX10_init 161 = .ok (.getfield 21, 3) := by decide +kernel
theorem dX10_init_164 : decode cX10_init 164 = .ok (.invokespecial 87, 3) := by decide +kernel
theorem dX10_init_167 : decode cX10_init 167 = .ok (.putfield 88, 3) := by decide +kernel
theorem dX10_init_170 : decode cX10_init 170 = .ok (.return_, 1) := by decide +kernel
theorem dX10_push_0 : decode cX10_push 0 = .ok (.iload_n 1, 1) := by decide +kernel
theorem dX10_push_1 : decode cX10_push 1 = .ok (.invokestatic 92, 3) := by decide +kernel
theorem dX10_push_4 : decode cX10_push 4 = .ok (.ifCond .ne 13, 3) := by decide +kernel
theorem dX10_push_7 : decode cX10_push 7 = .ok (.new 96, 3) := by decide +kernel
theorem dX10_push_10 : decode cX10_push 10 = .ok (.dup, 1) := by decide +kernel
theorem dX10_push_11 : decode cX10_push 11 = .ok (.ldc 98, 2) := by decide +kernel
theorem dX10_push_13 : decode cX10_push 13 = .ok (.invokespecial 100, 3) := by decide +kernel
theorem dX10_push_16 : decode cX10_push 16 = .ok (.athrow, 1) := by decide +kernel
theorem dX10_push_17 : decode cX10_push 17 = .ok (.aload_n 0, 1) := by decide +kernel
theorem dX10_push_18 : decode cX10_push 18 = .ok (.getfield 14, 3) := by decide +kernel
theorem dX10_push_21 : decode cX10_push 21 = .ok (.iload_n 1, 1) := by decide +kernel
theorem dX10_push_22 : decode cX10_push 22 = .ok (.invokevirtual 103, 3) := by decide +kernel
theorem dX10_push_25 : decode cX10_push 25 = .ok (.ifCond .eq 13, 3) := by decide +kernel
theorem dX10_push_28 : decode cX10_push 28 = .ok (.aload_n 0, 1) := by decide +kernel
theorem dX10_push_29 : decode cX10_push 29 = .ok (.getfield 14, 3) := by decide +kernel
theorem dX10_push_32 : decode cX10_push 32 = .ok (.getfield 106, 3) := by decide +kernel
theorem dX10_push_35 : decode cX10_push 35 = .ok (.goto 4, 3) := by decide +kernel
theorem dX10_push_38 : decode cX10_push 38 = .ok (.iconst (-1), 1) := by decide +kernel
theorem dX10_push_39 : decode cX10_push 39 = .ok (.ireturn, 1) := by decide +kernel
theorem dX10_empty_0 : decode cX10_empty 0 = .ok (.aload_n 0, 1) := by decide +kernel
theorem dX10_empty_1 : decode cX10_empty 1 = .ok (.getfield 14, 3) := by decide +kernel
theorem dX10_empty_4 : decode cX10_empty 4 = .ok (.getfield 106, 3) := by decide +kernel
theorem dX10_empty_7 : decode cX10_empty 7 = .ok (.istore_n 1, 1) := by decide +kernel
theorem dX10_empty_8 : decode cX10_empty 8 = .ok (.aload_n 0, 1) := by decide +kernel
theorem dX10_empty_9 : decode cX10_empty 9 = .ok (.getfield 14, 3) := by decide +kernel
theorem dX10_empty_12 : decode cX10_empty 12 = .ok (.iconst 0, 1) := by decide +kernel
theorem dX10_empty_13 : decode cX10_empty 13 = .ok (.putfield 106, 3) := by decide +kernel
theorem dX10_empty_16 : decode cX10_empty 16 = .ok (.iload_n 1, 1) := by decide +kernel
theorem dX10_empty_17 : decode cX10_empty 17 = .ok (.ireturn, 1) := by decide +kernel
theorem dX10_hand_0 : decode cX10_hand 0 = .ok (.aload_n 0, 1) := by decide +kernel
theorem dX10_hand_1 : decode cX10_hand 1 = .ok (.getfield 14, 3) := by decide +kernel
theorem dX10_hand_4 : decode cX10_hand 4 = .ok (.iload_n 1, 1) := by decide +kernel
theorem dX10_hand_5 : decode cX10_hand 5 = .ok (.invokevirtual 110, 3) := by decide +kernel
theorem dX10_hand_8 : decode cX10_hand 8 = .ok (.ireturn, 1) := by decide +kernel
theorem dX10_row_0 : decode cX10_row 0 = .ok (.iload_n 1, 1) := by decide +kernel
theorem dX10_row_1 : decode cX10_row 1 = .ok (.ifCond .ne 15, 3) := by decide +kernel
theorem dX10_row_4 : decode cX10_row 4 = .ok (.aload_n 0, 1) := by decide +kernel
theorem dX10_row_5 : decode cX10_row 5 = .ok (.getfield 14, 3) := by decide +kernel
theorem dX10_row_8 : decode cX10_row 8 = .ok (.getfield 106, 3) := by decide +kernel
theorem dX10_row_11 : decode cX10_row 11 = .ok (.ifCond .ne 5, 3) := by decide +kernel
theorem dX10_row_14 : decode cX10_row 14 = .ok (.iconst (-1), 1) := by decide +kernel
theorem dX10_row_15 : decode cX10_row 15 = .ok (.ireturn, 1) := by decide +kernel
theorem dX10_row_16 : decode cX10_row 16 = .ok (.aload_n 0, 1) := by decide +kernel
theorem dX10_row_17 : decode cX10_row 17 = .ok (.getfield 21, 3) := by decide +kernel
theorem dX10_row_20 : decode cX10_row 20 = .ok (.getfield 114, 3) := by decide +kernel
theorem dX10_row_23 : decode cX10_row 23 = .ok (.bipush 60, 2) := by decide +kernel
theorem dX10_row_25 : decode cX10_row 25 = .ok (.if_icmp .lt 6, 3) := by decide +kernel
theorem dX10_row_28 : decode cX10_row 28 = .ok (.bipush (-2), 2) := by decide +kernel
theorem dX10_row_30 : decode cX10_row 30 = .ok (.ireturn, 1) := by decide +kernel
theorem dX10_row_31 : decode cX10_row 31 = .ok (.aload_n 0, 1) := by decide +kernel
theorem dX10_row_32 : decode cX10_row 32 = .ok (.getfield 21, 3) := by decide +kernel
theorem dX10_row_35 : decode cX10_row 35 = .ok (.aload_n 0, 1) := by decide +kernel
theorem dX10_row_36 : decode cX10_row 36 = .ok (.getfield 14, 3) := by decide +kernel
theorem dX10_row_39 : decode cX10_row 39 = .ok (.iload_n 1, 1) := by decide +kernel
theorem dX10_row_40 : decode cX10_row 40 = .ok (.invokevirtual 117, 3) := by decide +kernel
theorem dX10_row_43 : decode cX10_row 43 = .ok (.istore_n 2, 1) := by decide +kernel
theorem dX10_row_44 : decode cX10_row 44 = .ok (.aload_n 0, 1) := by decide +kernel
theorem dX10_row_45 : decode cX10_row 45 = .ok (.getfield 14, 3) := by decide +kernel
theorem dX10_row_48 : decode cX10_row 48 = .ok (.iconst 0, 1) := by decide +kernel
theorem dX10_row_49 : decode cX10_row 49 = .ok (.putfield 106, 3) := by decide +kernel
theorem dX10_row_52 : decode cX10_row 52 = .ok (.iload_n 2, 1) := by decide +kernel
theorem dX10_row_53 : decode cX10_row 53 = .ok (.ireturn, 1) := by decide +kernel
theorem dX10_drop_0 : decode cX10_drop 0 = .ok (.aload_n 0, 1) := by decide +kernel
theorem dX10_drop_1 : decode cX10_drop 1 = .ok (.getfield 21, 3) := by decide +kernel
theorem dX10_drop_4 : decode cX10_drop 4 = .ok (.iload_n 1, 1) := by decide +kernel
theorem dX10_drop_5 : decode cX10_drop 5 = .ok (.invokevirtual 121, 3) := by decide +kernel
theorem dX10_drop_8 : decode cX10_drop 8 = .ok (.ifCond .ne 13, 3) := by decide +kernel
theorem dX10_drop_11 : decode cX10_drop 11 = .ok (.new 124, 3) := by decide +kernel
theorem dX10_drop_14 : decode cX10_drop 14 = .ok (.dup, 1) := by decide +kernel
theorem dX10_drop_15 : decode cX10_drop 15 = .ok (.ldc 126, 2) := by decide +kernel
theorem dX10_drop_17 : decode cX10_drop 17 = .ok (.invokespecial 128, 3) := by decide +kernel
theorem dX10_drop_20 : decode cX10_drop 20 = .ok (.athrow, 1) := by decide +kernel
theorem dX10_drop_21 : decode cX10_drop 21 = .ok (.aload_n 0, 1) := by decide +kernel
theorem dX10_drop_22 : decode cX10_drop 22 = .ok (.getfield 21, 3) := by decide +kernel
theorem dX10_drop_25 : decode cX10_drop 25 = .ok (.getfield 129, 3) := by decide +kernel
theorem dX10_drop_28 : decode cX10_drop 28 = .ok (.iload_n 1, 1) := by decide +kernel
theorem dX10_drop_29 : decode cX10_drop 29 = .ok (.baload, 1) := by decide +kernel
theorem dX10_drop_30 : decode cX10_drop 30 = .ok (.istore_n 2, 1) := by decide +kernel
theorem dX10_drop_31 : decode cX10_drop 31 = .ok (.aload_n 0, 1) := by decide +kernel
theorem dX10_drop_32 : decode cX10_drop 32 = .ok (.getfield 21, 3) := by decide +kernel
theorem dX10_drop_35 : decode cX10_drop 35 = .ok (.getfield 129, 3) := by decide +kernel
theorem dX10_drop_38 : decode cX10_drop 38 = .ok (.iload_n 1, 1) := by decide +kernel
theorem dX10_drop_39 : decode cX10_drop 39 = .ok (.iconst 0, 1) := by decide +kernel
theorem dX10_drop_40 : decode cX10_drop 40 = .ok (.bastore, 1) := by decide +kernel
theorem dX10_drop_41 : decode cX10_drop 41 = .ok (.iload_n 2, 1) := by decide +kernel
theorem dX10_drop_42 : decode cX10_drop 42 = .ok (.ireturn, 1) := by decide +kernel
theorem dX10_told_0 : decode cX10_told 0 = .ok (.aload_n 0, 1) := by decide +kernel
theorem dX10_told_1 : decode cX10_told 1 = .ok (.getfield 21, 3) := by decide +kernel
theorem dX10_told_4 : decode cX10_told 4 = .ok (.iload_n 1, 1) := by decide +kernel
theorem dX10_told_5 : decode cX10_told 5 = .ok (.invokevirtual 121, 3) := by decide +kernel
theorem dX10_told_8 : decode cX10_told 8 = .ok (.ifCond .ne 13, 3) := by decide +kernel
theorem dX10_told_11 : decode cX10_told 11 = .ok (.new 124, 3) := by decide +kernel
theorem dX10_told_14 : decode cX10_told 14 = .ok (.dup, 1) := by decide +kernel
theorem dX10_told_15 : decode cX10_told 15 = .ok (.ldc 126, 2) := by decide +kernel
theorem dX10_told_17 : decode cX10_told 17 = .ok (.invokespecial 128, 3) := by decide +kernel
theorem dX10_told_20 : decode cX10_told 20 = .ok (.athrow, 1) := by decide +kernel
theorem dX10_told_21 : decode cX10_told 21 = .ok (.iload_n 2, 1) := by decide +kernel
theorem dX10_told_22 : decode cX10_told 22 = .ok (.tableswitch 84 0 3 #[30, 48, 66, 75], 30) := by decide +kernel
theorem dX10_told_52 : decode cX10_told 52 = .ok (.aload_n 0, 1) := by decide +kernel
theorem dX10_told_53 : decode cX10_told 53 = .ok (.getfield 21, 3) := by decide +kernel
theorem dX10_told_56 : decode cX10_told 56 = .ok (.getfield 129, 3) := by decide +kernel
theorem dX10_told_59 : decode cX10_told 59 = .ok (.iload_n 1, 1) := by decide +kernel
theorem dX10_told_60 : decode cX10_told 60 = .ok (.baload, 1) := by decide +kernel
theorem dX10_told_61 : decode cX10_told 61 = .ok (.ifCond .eq 7, 3) := by decide +kernel
theorem dX10_told_64 : decode cX10_told 64 = .ok (.iconst 1, 1) := by decide +kernel
theorem dX10_told_65 : decode cX10_told 65 = .ok (.goto 4, 3) := by decide +kernel
theorem dX10_told_68 : decode cX10_told 68 = .ok (.iconst 0, 1) := by decide +kernel
theorem dX10_told_69 : decode cX10_told 69 = .ok (.ireturn, 1) := by decide +kernel
theorem dX10_told_70 : decode cX10_told 70 = .ok (.aload_n 0, 1) := by decide +kernel
theorem dX10_told_71 : decode cX10_told 71 = .ok (.getfield 21, 3) := by decide +kernel
theorem dX10_told_74 : decode cX10_told 74 = .ok (.getfield 133, 3) := by decide +kernel
theorem dX10_told_77 : decode cX10_told 77 = .ok (.iload_n 1, 1) := by decide +kernel
theorem dX10_told_78 : decode cX10_told 78 = .ok (.baload, 1) := by decide +kernel
theorem dX10_told_79 : decode cX10_told 79 = .ok (.ifCond .eq 7, 3) := by decide +kernel
theorem dX10_told_82 : decode cX10_told 82 = .ok (.iconst 1, 1) := by decide +kernel
theorem dX10_told_83 : decode cX10_told 83 = .ok (.goto 4, 3) := by decide +kernel
theorem dX10_told_86 : decode cX10_told 86 = .ok (.iconst 0, 1) := by decide +kernel
theorem dX10_told_87 : decode cX10_told 87 = .ok (.ireturn, 1) := by decide +kernel
theorem dX10_told_88 : decode cX10_told 88 = .ok (.aload_n 0, 1) := by decide +kernel
theorem dX10_told_89 : decode cX10_told 89 = .ok (.getfield 21, 3) := by decide +kernel
theorem dX10_told_92 : decode cX10_told 92 = .ok (.iload_n 1, 1) := by decide +kernel
theorem dX10_told_93 : decode cX10_told 93 = .ok (.invokevirtual 136, 3) := by decide +kernel
theorem dX10_told_96 : decode cX10_told 96 = .ok (.ireturn, 1) := by decide +kernel
theorem dX10_told_97 : decode cX10_told 97 = .ok (.aload_n 0, 1) := by decide +kernel
theorem dX10_told_98 : decode cX10_told 98 = .ok (.getfield 21, 3) := by decide +kernel
theorem dX10_told_101 : decode cX10_told 101 = .ok (.iload_n 1, 1) := by decide +kernel
theorem dX10_told_102 : decode cX10_told 102 = .ok (.invokevirtual 139, 3) := by decide +kernel
theorem dX10_told_105 : decode cX10_told 105 = .ok (.ireturn, 1) := by decide +kernel
theorem dX10_told_106 : decode cX10_told 106 = .ok (.new 96, 3) := by decide +kernel
theorem dX10_told_109 : decode cX10_told 109 = .ok (.dup, 1) := by decide +kernel
theorem dX10_told_110 : decode cX10_told 110 = .ok (.ldc 142, 2) := by decide +kernel
theorem dX10_told_112 : decode cX10_told 112 = .ok (.invokespecial 100, 3) := by decide +kernel
theorem dX10_told_115 : decode cX10_told 115 = .ok (.athrow, 1) := by decide +kernel
theorem dX10_learn_0 : decode cX10_learn 0 = .ok (.aload_n 0, 1) := by decide +kernel
theorem dX10_learn_1 : decode cX10_learn 1 = .ok (.getfield 30, 3) := by decide +kernel
theorem dX10_learn_4 : decode cX10_learn 4 = .ok (.invokevirtual 144, 3) := by decide +kernel
theorem dX10_learn_7 : decode cX10_learn 7 = .ok (.aload_n 0, 1) := by decide +kernel
theorem dX10_learn_8 : decode cX10_learn 8 = .ok (.getfield 39, 3) := by decide +kernel
theorem dX10_learn_11 : decode cX10_learn 11 = .ok (.invokevirtual 147, 3) := by decide +kernel
theorem dX10_learn_14 : decode cX10_learn 14 = .ok (.ifCond .ne 5, 3) := by decide +kernel
theorem dX10_learn_17 : decode cX10_learn 17 = .ok (.iconst (-1), 1) := by decide +kernel
theorem dX10_learn_18 : decode cX10_learn 18 = .ok (.ireturn, 1) := by decide +kernel
theorem dX10_learn_19 : decode cX10_learn 19 = .ok (.aload_n 0, 1) := by decide +kernel
theorem dX10_learn_20 : decode cX10_learn 20 = .ok (.getfield 39, 3) := by decide +kernel
theorem dX10_learn_23 : decode cX10_learn 23 = .ok (.aload_n 0, 1) := by decide +kernel
theorem dX10_learn_24 : decode cX10_learn 24 = .ok (.getfield 46, 3) := by decide +kernel
theorem dX10_learn_27 : decode cX10_learn 27 = .ok (.invokevirtual 151, 3) := by decide +kernel
theorem dX10_learn_30 : decode cX10_learn 30 = .ok (.aload_n 0, 1) := by decide +kernel
theorem dX10_learn_31 : decode cX10_learn 31 = .ok (.getfield 46, 3) := by decide +kernel
theorem dX10_learn_34 : decode cX10_learn 34 = .ok (.aload_n 0, 1) := by decide +kernel
theorem dX10_learn_35 : decode cX10_learn 35 = .ok (.getfield 21, 3) := by decide +kernel
theorem dX10_learn_38 : decode cX10_learn 38 = .ok (.aload_n 0, 1) := by decide +kernel
theorem dX10_learn_39 : decode cX10_learn 39 = .ok (.getfield 30, 3) := by decide +kernel
theorem dX10_learn_42 : decode cX10_learn 42 = .ok (.invokevirtual 155, 3) := by decide +kernel
theorem dX10_learn_45 : decode cX10_learn 45 = .ok (.aload_n 0, 1) := by decide +kernel
theorem dX10_learn_46 : decode cX10_learn 46 = .ok (.getfield 46, 3) := by decide +kernel
theorem dX10_learn_49 : decode cX10_learn 49 = .ok (.getfield 158, 3) := by decide +kernel
theorem dX10_learn_52 : decode cX10_learn 52 = .ok (.ireturn, 1) := by decide +kernel
theorem dX10_step_0 : decode cX10_step 0 = .ok (.aload_n 0, 1) := by decide +kernel
theorem dX10_step_1 : decode cX10_step 1 = .ok (.iload_n 1, 1) := by decide +kernel
theorem dX10_step_2 : decode cX10_step 2 = .ok (.iload_n 2, 1) := by decide +kernel
theorem dX10_step_3 : decode cX10_step 3 = .ok (.invokevirtual 161, 3) := by decide +kernel
theorem dX10_step_6 : decode cX10_step 6 = .ok (.aload_n 0, 1) := by decide +kernel
theorem dX10_step_7 : decode cX10_step 7 = .ok (.getfield 46, 3) := by decide +kernel
theorem dX10_step_10 : decode cX10_step 10 = .ok (.iload_n 1, 1) := by decide +kernel
theorem dX10_step_11 : decode cX10_step 11 = .ok (.iload_n 2, 1) := by decide +kernel
theorem dX10_step_12 : decode cX10_step 12 = .ok (.invokevirtual 165, 3) := by decide +kernel
theorem dX10_step_15 : decode cX10_step 15 = .ok (.ireturn, 1) := by decide +kernel
theorem dX10_seen_0 : decode cX10_seen 0 = .ok (.aload_n 0, 1) := by decide +kernel
theorem dX10_seen_1 : decode cX10_seen 1 = .ok (.iload_n 1, 1) := by decide +kernel
theorem dX10_seen_2 : decode cX10_seen 2 = .ok (.iload_n 2, 1) := by decide +kernel
theorem dX10_seen_3 : decode cX10_seen 3 = .ok (.invokevirtual 161, 3) := by decide +kernel
theorem dX10_seen_6 : decode cX10_seen 6 = .ok (.aload_n 0, 1) := by decide +kernel
theorem dX10_seen_7 : decode cX10_seen 7 = .ok (.getfield 46, 3) := by decide +kernel
theorem dX10_seen_10 : decode cX10_seen 10 = .ok (.iload_n 1, 1) := by decide +kernel
theorem dX10_seen_11 : decode cX10_seen 11 = .ok (.iload_n 2, 1) := by decide +kernel
theorem dX10_seen_12 : decode cX10_seen 12 = .ok (.invokevirtual 169, 3) := by decide +kernel
theorem dX10_seen_15 : decode cX10_seen 15 = .ok (.ireturn, 1) := by decide +kernel
theorem dX10_doubt_0 : decode cX10_doubt 0 = .ok (.aload_n 0, 1) := by decide +kernel
theorem dX10_doubt_1 : decode cX10_doubt 1 = .ok (.getfield 46, 3) := by decide +kernel
theorem dX10_doubt_4 : decode cX10_doubt 4 = .ok (.iload_n 1, 1) := by decide +kernel
theorem dX10_doubt_5 : decode cX10_doubt 5 = .ok (.invokevirtual 172, 3) := by decide +kernel
theorem dX10_doubt_8 : decode cX10_doubt 8 = .ok (.ireturn, 1) := by decide +kernel
theorem dX10_takes_0 : decode cX10_takes 0 = .ok (.iconst 0, 1) := by decide +kernel
theorem dX10_takes_1 : decode cX10_takes 1 = .ok (.istore_n 1, 1) := by decide +kernel
theorem dX10_takes_2 : decode cX10_takes 2 = .ok (.iconst 0, 1) := by decide +kernel
theorem dX10_takes_3 : decode cX10_takes 3 = .ok (.istore_n 2, 1) := by decide +kernel
theorem dX10_takes_4 : decode cX10_takes 4 = .ok (.iload_n 2, 1) := by decide +kernel
theorem dX10_takes_5 : decode cX10_takes 5 = .ok (.aload_n 0, 1) := by decide +kernel
theorem dX10_takes_6 : decode cX10_takes 6 = .ok (.getfield 14, 3) := by decide +kernel
theorem dX10_takes_9 : decode cX10_takes 9 = .ok (.getfield 106, 3) := by decide +kernel
theorem dX10_takes_12 : decode cX10_takes 12 = .ok (.if_icmp .ge 33, 3) := by decide +kernel
theorem dX10_takes_15 : decode cX10_takes 15 = .ok (.aload_n 0, 1) := by decide +kernel
theorem dX10_takes_16 : decode cX10_takes 16 = .ok (.getfield 46, 3) := by decide +kernel
theorem dX10_takes_19 : decode cX10_takes 19 = .ok (.iload_n 1, 1) := by decide +kernel
theorem dX10_takes_20 : decode cX10_takes 20 = .ok (.aload_n 0, 1) := by decide +kernel
theorem dX10_takes_21 : decode cX10_takes 21 = .ok (.getfield 14, 3) := by decide +kernel
theorem dX10_takes_24 : decode cX10_takes 24 = .ok (.iload_n 2, 1) := by decide +kernel
theorem dX10_takes_25 : decode cX10_takes 25 = .ok (.invokevirtual 110, 3) := by decide +kernel
theorem dX10_takes_28 : decode cX10_takes 28 = .ok (.invokevirtual 165, 3) := by decide +kernel
theorem dX10_takes_31 : decode cX10_takes 31 = .ok (.istore_n 1, 1) := by decide +kernel
theorem dX10_takes_32 : decode cX10_takes 32 = .ok (.iload_n 1, 1) := by decide +kernel
theorem dX10_takes_33 : decode cX10_takes 33 = .ok (.iconst (-1), 1) := by decide +kernel
theorem dX10_takes_34 : decode cX10_takes 34 = .ok (.if_icmp .ne 5, 3) := by decide +kernel
theorem dX10_takes_37 : decode cX10_takes 37 = .ok (.iload_n 2, 1) := by decide +kernel
theorem dX10_takes_38 : decode cX10_takes 38 = .ok (.ireturn, 1) := by decide +kernel
theorem dX10_takes_39 : decode cX10_takes 39 = .ok (.iinc 2 1, 3) := by decide +kernel
theorem dX10_takes_42 : decode cX10_takes 42 = .ok (.goto (-38), 3) := by decide +kernel
theorem dX10_takes_45 : decode cX10_takes 45 = .ok (.aload_n 0, 1) := by decide +kernel
theorem dX10_takes_46 : decode cX10_takes 46 = .ok (.getfield 14, 3) := by decide +kernel
theorem dX10_takes_49 : decode cX10_takes 49 = .ok (.getfield 106, 3) := by decide +kernel
theorem dX10_takes_52 : decode cX10_takes 52 = .ok (.ireturn, 1) := by decide +kernel
theorem dX10_least_0 : decode cX10_least 0 = .ok (.aload_n 0, 1) := by decide +kernel
theorem dX10_least_1 : decode cX10_least 1 = .ok (.getfield 30, 3) := by decide +kernel
theorem dX10_least_4 : decode cX10_least 4 = .ok (.invokevirtual 144, 3) := by decide +kernel
theorem dX10_least_7 : decode cX10_least 7 = .ok (.aload_n 0, 1) := by decide +kernel
theorem dX10_least_8 : decode cX10_least 8 = .ok (.getfield 30, 3) := by decide +kernel
theorem dX10_least_11 : decode cX10_least 11 = .ok (.getfield 175, 3) := by decide +kernel
theorem dX10_least_14 : decode cX10_least 14 = .ok (.bipush 16, 2) := by decide +kernel
theorem dX10_least_16 : decode cX10_least 16 = .ok (.if_icmp .le 7, 3) := by decide +kernel
theorem dX10_least_19 : decode cX10_least 19 = .ok (.iconst (-1), 1) := by decide +kernel
theorem dX10_least_20 : decode cX10_least 20 = .ok (.goto 10, 3) := by decide +kernel
theorem dX10_least_23 : decode cX10_least 23 = .ok (.aload_n 0, 1) := by decide +kernel
theorem dX10_least_24 : decode cX10_least 24 = .ok (.getfield 53, 3) := by decide +kernel
theorem dX10_least_27 : decode cX10_least 27 = .ok (.invokevirtual 176, 3) := by decide +kernel
theorem dX10_least_30 : decode cX10_least 30 = .ok (.ireturn, 1) := by decide +kernel
theorem dX10_feed_0 : decode cX10_feed 0 = .ok (.aload_n 0, 1) := by decide +kernel
theorem dX10_feed_1 : decode cX10_feed 1 = .ok (.getfield 57, 3) := by decide +kernel
theorem dX10_feed_4 : decode cX10_feed 4 = .ok (.getfield 106, 3) := by decide +kernel
theorem dX10_feed_7 : decode cX10_feed 7 = .ok (.sipush 180, 3) := by decide +kernel
theorem dX10_feed_10 : decode cX10_feed 10 = .ok (.if_icmp .le 5, 3) := by decide +kernel
theorem dX10_feed_13 : decode cX10_feed 13 = .ok (.iconst (-1), 1) := by decide +kernel
theorem dX10_feed_14 : decode cX10_feed 14 = .ok (.ireturn, 1) := by decide +kernel
theorem dX10_feed_15 : decode cX10_feed 15 = .ok (.aload_n 0, 1) := by decide +kernel
theorem dX10_feed_16 : decode cX10_feed 16 = .ok (.iload_n 1, 1) := by decide +kernel
theorem dX10_feed_17 : decode cX10_feed 17 = .ok (.invokevirtual 179, 3) := by decide +kernel
theorem dX10_feed_20 : decode cX10_feed 20 = .ok (.aload_n 0, 1) := by decide +kernel
theorem dX10_feed_21 : decode cX10_feed 21 = .ok (.iload_n 2, 1) := by decide +kernel
theorem dX10_feed_22 : decode cX10_feed 22 = .ok (.invokevirtual 179, 3) := by decide +kernel
theorem dX10_feed_25 : decode cX10_feed 25 = .ok (.aload_n 0, 1) := by decide +kernel
theorem dX10_feed_26 : decode cX10_feed 26 = .ok (.iload_n 3, 1) := by decide +kernel
theorem dX10_feed_27 : decode cX10_feed 27 = .ok (.invokevirtual 179, 3) := by decide +kernel
theorem dX10_feed_30 : decode cX10_feed 30 = .ok (.aload_n 0, 1) := by decide +kernel
theorem dX10_feed_31 : decode cX10_feed 31 = .ok (.iload 4, 2) := by decide +kernel
theorem dX10_feed_33 : decode cX10_feed 33 = .ok (.invokevirtual 179, 3) := by decide +kernel
theorem dX10_feed_36 : decode cX10_feed 36 = .ok (.aload_n 0, 1) := by decide +kernel
theorem dX10_feed_37 : decode cX10_feed 37 = .ok (.iload 5, 2) := by decide +kernel
theorem dX10_feed_39 : decode cX10_feed 39 = .ok (.invokevirtual 179, 3) := by decide +kernel
theorem dX10_feed_42 : decode cX10_feed 42 = .ok (.aload_n 0, 1) := by decide +kernel
theorem dX10_feed_43 : decode cX10_feed 43 = .ok (.getfield 57, 3) := by decide +kernel
theorem dX10_feed_46 : decode cX10_feed 46 = .ok (.getfield 106, 3) := by decide +kernel
theorem dX10_feed_49 : decode cX10_feed 49 = .ok (.ireturn, 1) := by decide +kernel
theorem dX10_routine_0 : decode cX10_routine 0 = .ok (.iload_n 1, 1) := by decide +kernel
theorem dX10_routine_1 : decode cX10_routine 1 = .ok (.ifCond .lt 14, 3) := by decide +kernel
theorem dX10_routine_4 : decode cX10_routine 4 = .ok (.iload_n 1, 1) := by decide +kernel
theorem dX10_routine_5 : decode cX10_routine 5 = .ok (.aload_n 0, 1) := by decide +kernel
theorem dX10_routine_6 : decode cX10_routine 6 = .ok (.getfield 57, 3) := by decide +kernel
theorem dX10_routine_9 : decode cX10_routine 9 = .ok (.getfield 106, 3) := by decide +kernel
theorem dX10_routine_12 : decode cX10_routine 12 = .ok (.if_icmp .le 13, 3) := by decide +kernel
theorem dX10_routine_15 : decode cX10_routine 15 = .ok (.new 96, 3) := by decide +kernel
theorem dX10_routine_18 : decode cX10_routine 18 = .ok (.dup, 1) := by decide +kernel
theorem dX10_routine_19 : decode cX10_routine 19 = .ok (.ldc 182, 2) := by decide +kernel
theorem dX10_routine_21 : decode cX10_routine 21 = .ok (.invokespecial 100, 3) := by decide +kernel
theorem dX10_routine_24 : decode cX10_routine 24 = .ok (.athrow, 1) := by decide +kernel
theorem dX10_routine_25 : decode cX10_routine 25 = .ok (.aload_n 0, 1) := by decide +kernel
theorem dX10_routine_26 : decode cX10_routine 26 = .ok (.getfield 57, 3) := by decide +kernel
theorem dX10_routine_29 : decode cX10_routine 29 = .ok (.iconst 0, 1) := by decide +kernel
theorem dX10_routine_30 : decode cX10_routine 30 = .ok (.putfield 106, 3) := by decide +kernel
theorem dX10_routine_33 : decode cX10_routine 33 = .ok (.aload_n 0, 1) := by decide +kernel
theorem dX10_routine_34 : decode cX10_routine 34 = .ok (.getfield 57, 3) := by decide +kernel
theorem dX10_routine_37 : decode cX10_routine 37 = .ok (.getfield 184, 3) := by decide +kernel
theorem dX10_routine_40 : decode cX10_routine 40 = .ok (.iload_n 1, 1) := by decide +kernel
theorem dX10_routine_41 : decode cX10_routine 41 = .ok (.invokestatic 188, 3) := by decide +kernel
theorem dX10_routine_44 : decode cX10_routine 44 = .ok (.istore_n 2, 1) := by decide +kernel
theorem dX10_routine_45 : decode cX10_routine 45 = .ok (.iload_n 2, 1) := by decide +kernel
theorem dX10_routine_46 : decode cX10_routine 46 = .ok (.iconst (-1), 1) := by decide +kernel
theorem dX10_routine_47 : decode cX10_routine 47 = .ok (.if_icmp .eq 8, 3) := by decide +kernel
theorem dX10_routine_50 : decode cX10_routine 50 = .ok (.bipush (-2), 2) := by decide +kernel
theorem dX10_routine_52 : decode cX10_routine 52 = .ok (.iload_n 2, 1) := by decide +kernel
theorem dX10_routine_53 : decode cX10_routine 53 = .ok (.isub, 1) := by decide +kernel
theorem dX10_routine_54 : decode cX10_routine 54 = .ok (.ireturn, 1) := by decide +kernel
theorem dX10_routine_55 : decode cX10_routine 55 = .ok (.aload_n 0, 1) := by decide +kernel
theorem dX10_routine_56 : decode cX10_routine 56 = .ok (.getfield 63, 3) := by decide +kernel
theorem dX10_routine_59 : decode cX10_routine 59 = .ok (.aload_n 0, 1) := by decide +kernel
theorem dX10_routine_60 : decode cX10_routine 60 = .ok (.getfield 57, 3) := by decide +kernel
theorem dX10_routine_63 : decode cX10_routine 63 = .ok (.getfield 184, 3) := by decide +kernel
theorem dX10_routine_66 : decode cX10_routine 66 = .ok (.iload_n 1, 1) := by decide +kernel
theorem dX10_routine_67 : decode cX10_routine 67 = .ok (.invokevirtual 192, 3) := by decide +kernel
theorem dX10_routine_70 : decode cX10_routine 70 = .ok (.iconst 0, 1) := by decide +kernel
theorem dX10_routine_71 : decode cX10_routine 71 = .ok (.ireturn, 1) := by decide +kernel
theorem dX10_hold_0 : decode cX10_hold 0 = .ok (.aload_n 0, 1) := by decide +kernel
theorem dX10_hold_1 : decode cX10_hold 1 = .ok (.getfield 72, 3) := by decide +kernel
theorem dX10_hold_4 : decode cX10_hold 4 = .ok (.invokevirtual 196, 3) := by decide +kernel
theorem dX10_hold_7 : decode cX10_hold 7 = .ok (.aload_n 0, 1) := by decide +kernel
theorem dX10_hold_8 : decode cX10_hold 8 = .ok (.getfield 72, 3) := by decide +kernel
theorem dX10_hold_11 : decode cX10_hold 11 = .ok (.getfield 199, 3) := by decide +kernel
theorem dX10_hold_14 : decode cX10_hold 14 = .ok (.getfield 106, 3) := by decide +kernel
theorem dX10_hold_17 : decode cX10_hold 17 = .ok (.ireturn, 1) := by decide +kernel
theorem dX10_broken_0 : decode cX10_broken 0 = .ok (.aload_n 0, 1) := by decide +kernel
theorem dX10_broken_1 : decode cX10_broken 1 = .ok (.getfield 72, 3) := by decide +kernel
theorem dX10_broken_4 : decode cX10_broken 4 = .ok (.getfield 199, 3) := by decide +kernel
theorem dX10_broken_7 : decode cX10_broken 7 = .ok (.iload_n 1, 1) := by decide +kernel
theorem dX10_broken_8 : decode cX10_broken 8 = .ok (.invokevirtual 110, 3) := by decide +kernel
theorem dX10_broken_11 : decode cX10_broken 11 = .ok (.ireturn, 1) := by decide +kernel
theorem dX10_mend_0 : decode cX10_mend 0 = .ok (.aload_n 0, 1) := by decide +kernel
theorem dX10_mend_1 : decode cX10_mend 1 = .ok (.getfield 81, 3) := by decide +kernel
theorem dX10_mend_4 : decode cX10_mend 4 = .ok (.invokevirtual 202, 3) := by decide +kernel
theorem dX10_mend_7 : decode cX10_mend 7 = .ok (.istore_n 1, 1) := by decide +kernel
theorem dX10_mend_8 : decode cX10_mend 8 = .ok (.iload_n 1, 1) := by decide +kernel
theorem dX10_mend_9 : decode cX10_mend 9 = .ok (.iconst (-1), 1) := by decide +kernel
theorem dX10_mend_10 : decode cX10_mend 10 = .ok (.if_icmp .ne 7, 3) := by decide +kernel
theorem dX10_mend_13 : decode cX10_mend 13 = .ok (.iconst (-1), 1) := by decide +kernel
theorem dX10_mend_14 : decode cX10_mend 14 = .ok (.goto 4, 3) := by decide +kernel
theorem dX10_mend_17 : decode cX10_mend 17 = .ok (.iload_n 1, 1) := by decide +kernel
theorem dX10_mend_18 : decode cX10_mend 18 = .ok (.ireturn, 1) := by decide +kernel
theorem dX10_habit_0 : decode cX10_habit 0 = .ok (.iload_n 1, 1) := by decide +kernel
theorem dX10_habit_1 : decode cX10_habit 1 = .ok (.invokestatic 92, 3) := by decide +kernel
theorem dX10_habit_4 : decode cX10_habit 4 = .ok (.ifCond .eq 10, 3) := by decide +kernel
theorem dX10_habit_7 : decode cX10_habit 7 = .ok (.iload_n 2, 1) := by decide +kernel
theorem dX10_habit_8 : decode cX10_habit 8 = .ok (.invokestatic 92, 3) := by decide +kernel
theorem dX10_habit_11 : decode cX10_habit 11 = .ok (.ifCond .ne 13, 3) := by decide +kernel
theorem dX10_habit_14 : decode cX10_habit 14 = .ok (.new 96, 3) := by decide +kernel
theorem dX10_habit_17 : decode cX10_habit 17 = .ok (.dup, 1) := by decide +kernel
theorem dX10_habit_18 : decode cX10_habit 18 = .ok (.ldc 98, 2) := by decide +kernel
theorem dX10_habit_20 : decode cX10_habit 20 = .ok (.invokespecial 100, 3) := by decide +kernel
theorem dX10_habit_23 : decode cX10_habit 23 = .ok (.athrow, 1) := by decide +kernel
theorem dX10_habit_24 : decode cX10_habit 24 = .ok (.iload_n 3, 1) := by decide +kernel
theorem dX10_habit_25 : decode cX10_habit 25 = .ok (.ifCond .eq 18, 3) := by decide +kernel
theorem dX10_habit_28 : decode cX10_habit 28 = .ok (.iload_n 3, 1) := by decide +kernel
theorem dX10_habit_29 : decode cX10_habit 29 = .ok (.iconst 1, 1) := by decide +kernel
theorem dX10_habit_30 : decode cX10_habit 30 = .ok (.if_icmp .eq 13, 3) := by decide +kernel
theorem dX10_habit_33 : decode cX10_habit 33 = .ok (.new 96, 3) := by decide +kernel
theorem dX10_habit_36 : decode cX10_habit 36 = .ok (.dup, 1) := by decide +kernel
theorem dX10_habit_37 : decode cX10_habit 37 = .ok (.ldc 142, 2) := by decide +kernel
theorem dX10_habit_39 : decode cX10_habit 39 = .ok (.invokespecial 100, 3) := by decide +kernel
theorem dX10_habit_42 : decode cX10_habit 42 = .ok (.athrow, 1) := by decide +kernel
theorem dX10_habit_43 : decode cX10_habit 43 = .ok (.aload_n 0, 1) := by decide +kernel
theorem dX10_habit_44 : decode cX10_habit 44 = .ok (.getfield 88, 3) := by decide +kernel
theorem dX10_habit_47 : decode cX10_habit 47 = .ok (.invokevirtual 205, 3) := by decide +kernel
theorem dX10_habit_50 : decode cX10_habit 50 = .ok (.iload_n 3, 1) := by decide +kernel
theorem dX10_habit_51 : decode cX10_habit 51 = .ok (.ifCond .ne 14, 3) := by decide +kernel
theorem dX10_habit_54 : decode cX10_habit 54 = .ok (.aload_n 0, 1) := by decide +kernel
theorem dX10_habit_55 : decode cX10_habit 55 = .ok (.getfield 88, 3) := by decide +kernel
theorem dX10_habit_58 : decode cX10_habit 58 = .ok (.iload_n 1, 1) := by decide +kernel
theorem dX10_habit_59 : decode cX10_habit 59 = .ok (.invokevirtual 208, 3) := by decide +kernel
theorem dX10_habit_62 : decode cX10_habit 62 = .ok (.goto 12, 3) := by decide +kernel
theorem dX10_habit_65 : decode cX10_habit 65 = .ok (.aload_n 0, 1) := by decide +kernel
theorem dX10_habit_66 : decode cX10_habit 66 = .ok (.getfield 88, 3) := by decide +kernel
theorem dX10_habit_69 : decode cX10_habit 69 = .ok (.iload_n 1, 1) := by decide +kernel
theorem dX10_habit_70 : decode cX10_habit 70 = .ok (.iload_n 2, 1) := by decide +kernel
theorem dX10_habit_71 : decode cX10_habit 71 = .ok (.invokevirtual 211, 3) := by decide +kernel
theorem dX10_habit_74 : decode cX10_habit 74 = .ok (.ireturn, 1) := by decide +kernel
theorem dX10_rank_0 : decode cX10_rank 0 = .ok (.iload_n 2, 1) := by decide +kernel
theorem dX10_rank_1 : decode cX10_rank 1 = .ok (.ifCond .eq 18, 3) := by decide +kernel
theorem dX10_rank_4 : decode cX10_rank 4 = .ok (.iload_n 2, 1) := by decide +kernel
theorem dX10_rank_5 : decode cX10_rank 5 = .ok (.iconst 1, 1) := by decide +kernel
theorem dX10_rank_6 : decode cX10_rank 6 = .ok (.if_icmp .eq 13, 3) := by decide +kernel
theorem dX10_rank_9 : decode cX10_rank 9 = .ok (.new 96, 3) := by decide +kernel
theorem dX10_rank_12 : decode cX10_rank 12 = .ok (.dup, 1) := by decide +kernel
theorem dX10_rank_13 : decode cX10_rank 13 = .ok (.ldc 142, 2) := by decide +kernel
theorem dX10_rank_15 : decode cX10_rank 15 = .ok (.invokespecial 100, 3) := by decide +kernel
theorem dX10_rank_18 : decode cX10_rank 18 = .ok (.athrow, 1) := by decide +kernel
theorem dX10_rank_19 : decode cX10_rank 19 = .ok (.aload_n 0, 1) := by decide +kernel
theorem dX10_rank_20 : decode cX10_rank 20 = .ok (.getfield 88, 3) := by decide +kernel
theorem dX10_rank_23 : decode cX10_rank 23 = .ok (.invokevirtual 205, 3) := by decide +kernel
theorem dX10_rank_26 : decode cX10_rank 26 = .ok (.aload_n 0, 1) := by decide +kernel
theorem dX10_rank_27 : decode cX10_rank 27 = .ok (.getfield 88, 3) := by decide +kernel
theorem dX10_rank_30 : decode cX10_rank 30 = .ok (.iload_n 1, 1) := by decide +kernel
theorem dX10_rank_31 : decode cX10_rank 31 = .ok (.invokevirtual 214, 3) := by decide +kernel
theorem dX10_rank_34 : decode cX10_rank 34 = .ok (.istore_n 3, 1) := by decide +kernel
theorem dX10_rank_35 : decode cX10_rank 35 = .ok (.iload_n 3, 1) := by decide +kernel
theorem dX10_rank_36 : decode cX10_rank 36 = .ok (.iconst (-1), 1) := by decide +kernel
theorem dX10_rank_37 : decode cX10_rank 37 = .ok (.if_icmp .ne 5, 3) := by decide +kernel
theorem dX10_rank_40 : decode cX10_rank 40 = .ok (.iconst (-1), 1) := by decide +kernel
theorem dX10_rank_41 : decode cX10_rank 41 = .ok (.ireturn, 1) := by decide +kernel
theorem dX10_rank_42 : decode cX10_rank 42 = .ok (.iload_n 2, 1) := by decide +kernel
theorem dX10_rank_43 : decode cX10_rank 43 = .ok (.ifCond .ne 10, 3) := by decide +kernel
theorem dX10_rank_46 : decode cX10_rank 46 = .ok (.iload_n 3, 1) := by decide +kernel
theorem dX10_rank_47 : decode cX10_rank 47 = .ok (.bipush 8, 2) := by decide +kernel
theorem dX10_rank_49 : decode cX10_rank 49 = .ok (.idiv, 1) := by decide +kernel
theorem dX10_rank_50 : decode cX10_rank 50 = .ok (.goto 7, 3) := by decide +kernel
theorem dX10_rank_53 : decode cX10_rank 53 = .ok (.iload_n 3, 1) := by decide +kernel
theorem dX10_rank_54 : decode cX10_rank 54 = .ok (.bipush 8, 2) := by decide +kernel
theorem dX10_rank_56 : decode cX10_rank 56 = .ok (.irem, 1) := by decide +kernel
theorem dX10_rank_57 : decode cX10_rank 57 = .ok (.ireturn, 1) := by decide +kernel
theorem dX10_count_0 : decode cX10_count 0 = .ok (.iload_n 1, 1) := by decide +kernel
theorem dX10_count_1 : decode cX10_count 1 = .ok (.tableswitch 106 0 6 #[43, 51, 59, 67, 75, 83, 91], 43) := by decide +kernel
theorem dX10_count_44 : decode cX10_count 44 = .ok (.aload_n 0, 1) := by decide +kernel
theorem dX10_count_45 : decode cX10_count 45 = .ok (.getfield 21, 3) := by decide +kernel
theorem dX10_count_48 : decode cX10_count 48 = .ok (.invokevirtual 217, 3) := by decide +kernel
theorem dX10_count_51 : decode cX10_count 51 = .ok (.ireturn, 1) := by decide +kernel
theorem dX10_count_52 : decode cX10_count 52 = .ok (.aload_n 0, 1) := by decide +kernel
theorem dX10_count_53 : decode cX10_count 53 = .ok (.getfield 21, 3) := by decide +kernel
theorem dX10_count_56 : decode cX10_count 56 = .ok (.getfield 114, 3) := by decide +kernel
theorem dX10_count_59 : decode cX10_count 59 = .ok (.ireturn, 1) := by decide +kernel
theorem dX10_count_60 : decode cX10_count 60 = .ok (.aload_n 0, 1) := by decide +kernel
theorem dX10_count_61 : decode cX10_count 61 = .ok (.getfield 46, 3) := by decide +kernel
theorem dX10_count_64 : decode cX10_count 64 = .ok (.getfield 158, 3) := by decide +kernel
theorem dX10_count_67 : decode cX10_count 67 = .ok (.ireturn, 1) := by decide +kernel
theorem dX10_count_68 : decode cX10_count 68 = .ok (.aload_n 0, 1) := by decide +kernel
theorem dX10_count_69 : decode cX10_count 69 = .ok (.getfield 46, 3) := by decide +kernel
theorem dX10_count_72 : decode cX10_count 72 = .ok (.invokevirtual 220, 3) := by decide +kernel
theorem dX10_count_75 : decode cX10_count 75 = .ok (.ireturn, 1) := by decide +kernel
theorem dX10_count_76 : decode cX10_count 76 = .ok (.aload_n 0, 1) := by decide +kernel
theorem dX10_count_77 : decode cX10_count 77 = .ok (.getfield 14, 3) := by decide +kernel
theorem dX10_count_80 : decode cX10_count 80 = .ok (.getfield 106, 3) := by decide +kernel
theorem dX10_count_83 : decode cX10_count 83 = .ok (.ireturn, 1) := by decide +kernel
theorem dX10_count_84 : decode cX10_count 84 = .ok (.aload_n 0, 1) := by decide +kernel
theorem dX10_count_85 : decode cX10_count 85 = .ok (.getfield 57, 3) := by decide +kernel
theorem dX10_count_88 : decode cX10_count 88 = .ok (.getfield 106, 3) := by decide +kernel
theorem dX10_count_91 : decode cX10_count 91 = .ok (.ireturn, 1) := by decide +kernel
theorem dX10_count_92 : decode cX10_count 92 = .ok (.aload_n 0, 1) := by decide +kernel
theorem dX10_count_93 : decode cX10_count 93 = .ok (.getfield 30, 3) := by decide +kernel
theorem dX10_count_96 : decode cX10_count 96 = .ok (.invokevirtual 144, 3) := by decide +kernel
theorem dX10_count_99 : decode cX10_count 99 = .ok (.aload_n 0, 1) := by decide +kernel
theorem dX10_count_100 : decode cX10_count 100 = .ok (.getfield 30, 3) := by decide +kernel
theorem dX10_count_103 : decode cX10_count 103 = .ok (.getfield 175, 3) := by decide +kernel
theorem dX10_count_106 : decode cX10_count 106 = .ok (.ireturn, 1) := by decide +kernel
theorem dX10_count_107 : decode cX10_count 107 = .ok (.iconst (-1), 1) := by decide +kernel
theorem dX10_count_108 : decode cX10_count 108 = .ok (.ireturn, 1) := by decide +kernel
theorem dX10_checkStep_0 : decode cX10_checkStep 0 = .ok (.aload_n 0, 1) := by decide +kernel
theorem dX10_checkStep_1 : decode cX10_checkStep 1 = .ok (.getfield 46, 3) := by decide +kernel
theorem dX10_checkStep_4 : decode cX10_checkStep 4 = .ok (.iload_n 1, 1) := by decide +kernel
theorem dX10_checkStep_5 : decode cX10_checkStep 5 = .ok (.invokevirtual 223, 3) := by decide +kernel
theorem dX10_checkStep_8 : decode cX10_checkStep 8 = .ok (.ifCond .ne 13, 3) := by decide +kernel
theorem dX10_checkStep_11 : decode cX10_checkStep 11 = .ok (.new 124, 3) := by decide +kernel
theorem dX10_checkStep_14 : decode cX10_checkStep 14 = .ok (.dup, 1) := by decide +kernel
theorem dX10_checkStep_15 : decode cX10_checkStep 15 = .ok (.ldc 226, 2) := by decide +kernel
theorem dX10_checkStep_17 : decode cX10_checkStep 17 = .ok (.invokespecial 128, 3) := by decide +kernel
theorem dX10_checkStep_20 : decode cX10_checkStep 20 = .ok (.athrow, 1) := by decide +kernel
theorem dX10_checkStep_21 : decode cX10_checkStep 21 = .ok (.iload_n 2, 1) := by decide +kernel
theorem dX10_checkStep_22 : decode cX10_checkStep 22 = .ok (.invokestatic 92, 3) := by decide +kernel
theorem dX10_checkStep_25 : decode cX10_checkStep 25 = .ok (.ifCond .ne 13, 3) := by decide +kernel
theorem dX10_checkStep_28 : decode cX10_checkStep 28 = .ok (.new 96, 3) := by decide +kernel
theorem dX10_checkStep_31 : decode cX10_checkStep 31 = .ok (.dup, 1) := by decide +kernel
theorem dX10_checkStep_32 : decode cX10_checkStep 32 = .ok (.ldc 98, 2) := by decide +kernel
theorem dX10_checkStep_34 : decode cX10_checkStep 34 = .ok (.invokespecial 100, 3) := by decide +kernel
theorem dX10_checkStep_37 : decode cX10_checkStep 37 = .ok (.athrow, 1) := by decide +kernel
theorem dX10_checkStep_38 : decode cX10_checkStep 38 = .ok (.return_, 1) := by decide +kernel
theorem dX10_addBytes_0 : decode cX10_addBytes 0 = .ok (.bipush 24, 2) := by decide +kernel
theorem dX10_addBytes_2 : decode cX10_addBytes 2 = .ok (.istore_n 2, 1) := by decide +kernel
theorem dX10_addBytes_3 : decode cX10_addBytes 3 = .ok (.iload_n 2, 1) := by decide +kernel
theorem dX10_addBytes_4 : decode cX10_addBytes 4 = .ok (.ifCond .lt 24, 3) := by decide +kernel
theorem dX10_addBytes_7 : decode cX10_addBytes 7 = .ok (.aload_n 0, 1) := by decide +kernel
theorem dX10_addBytes_8 : decode cX10_addBytes 8 = .ok (.getfield 57, 3) := by decide +kernel
theorem dX10_addBytes_11 : decode cX10_addBytes 11 = .ok (.iload_n 1, 1) := by decide +kernel
theorem dX10_addBytes_12 : decode cX10_addBytes 12 = .ok (.iload_n 2, 1) := by decide +kernel
theorem dX10_addBytes_13 : decode cX10_addBytes 13 = .ok (.iushr, 1) := by decide +kernel
theorem dX10_addBytes_14 : decode cX10_addBytes 14 = .ok (.sipush 255, 3) := by decide +kernel
theorem dX10_addBytes_17 : decode cX10_addBytes 17 = .ok (.iand, 1) := by decide +kernel
theorem dX10_addBytes_18 : decode cX10_addBytes 18 = .ok (.invokevirtual 103, 3) := by decide +kernel
theorem dX10_addBytes_21 : decode cX10_addBytes 21 = .ok (.pop, 1) := by decide +kernel
theorem dX10_addBytes_22 : decode cX10_addBytes 22 = .ok (.iinc 2 (-8), 3) := by decide +kernel
theorem dX10_addBytes_25 : decode cX10_addBytes 25 = .ok (.goto (-22), 3) := by decide +kernel
theorem dX10_addBytes_28 : decode cX10_addBytes 28 = .ok (.return_, 1) := by decide +kernel
theorem dX10_isCall_0 : decode cX10_isCall 0 = .ok (.iload_n 0, 1) := by decide +kernel
theorem dX10_isCall_1 : decode cX10_isCall 1 = .ok (.ifCond .lt 13, 3) := by decide +kernel
theorem dX10_isCall_4 : decode cX10_isCall 4 = .ok (.iload_n 0, 1) := by decide +kernel
theorem dX10_isCall_5 : decode cX10_isCall 5 = .ok (.bipush 8, 2) := by decide +kernel
theorem dX10_isCall_7 : decode cX10_isCall 7 = .ok (.if_icmp .ge 7, 3) := by decide +kernel
theorem dX10_isCall_10 : decode cX10_isCall 10 = .ok (.iconst 1, 1) := by decide +kernel
theorem dX10_isCall_11 : decode cX10_isCall 11 = .ok (.goto 4, 3) := by decide +kernel
theorem dX10_isCall_14 : decode cX10_isCall 14 = .ok (.iconst 0, 1) := by decide +kernel
theorem dX10_isCall_15 : decode cX10_isCall 15 = .ok (.ireturn, 1) := by decide +kernel
theorem dJ9_max_7cf53_0 : decode cJ9_max_7cf53 0 = .ok (.iload_n 0, 1) := by decide +kernel
theorem dJ9_max_7cf53_1 : decode cJ9_max_7cf53 1 = .ok (.iload_n 1, 1) := by decide +kernel
theorem dJ9_max_7cf53_2 : decode cJ9_max_7cf53 2 = .ok (.if_icmp .lt 7, 3) := by decide +kernel
theorem dJ9_max_7cf53_5 : decode cJ9_max_7cf53 5 = .ok (.iload_n 0, 1) := by decide +kernel
theorem dJ9_max_7cf53_6 : decode cJ9_max_7cf53 6 = .ok (.goto 4, 3) := by decide +kernel
theorem dJ9_max_7cf53_9 : decode cJ9_max_7cf53 9 = .ok (.iload_n 1, 1) := by decide +kernel
theorem dJ9_max_7cf53_10 : decode cJ9_max_7cf53 10 = .ok (.ireturn, 1) := by decide +kernel
theorem dJ9_min_7cf53_0 : decode cJ9_min_7cf53 0 = .ok (.iload_n 0, 1) := by decide +kernel
theorem dJ9_min_7cf53_1 : decode cJ9_min_7cf53 1 = .ok (.iload_n 1, 1) := by decide +kernel
theorem dJ9_min_7cf53_2 : decode cJ9_min_7cf53 2 = .ok (.if_icmp .gt 7, 3) := by decide +kernel
theorem dJ9_min_7cf53_5 : decode cJ9_min_7cf53 5 = .ok (.iload_n 0, 1) := by decide +kernel
theorem dJ9_min_7cf53_6 : decode cJ9_min_7cf53 6 = .ok (.goto 4, 3) := by decide +kernel
theorem dJ9_min_7cf53_9 : decode cJ9_min_7cf53 9 = .ok (.iload_n 1, 1) := by decide +kernel
theorem dJ9_min_7cf53_10 : decode cJ9_min_7cf53 10 = .ok (.ireturn, 1) := by decide +kernel
theorem dJ7_fill_53178_0 : decode cJ7_fill_53178 0 = .ok (.iconst 0, 1) := by decide +kernel
theorem dJ7_fill_53178_1 : decode cJ7_fill_53178 1 = .ok (.istore_n 2, 1) := by decide +kernel
theorem dJ7_fill_53178_2 : decode cJ7_fill_53178 2 = .ok (.aload_n 0, 1) := by decide +kernel
theorem dJ7_fill_53178_3 : decode cJ7_fill_53178 3 = .ok (.arraylength, 1) := by decide +kernel
theorem dJ7_fill_53178_4 : decode cJ7_fill_53178 4 = .ok (.istore_n 3, 1) := by decide +kernel
theorem dJ7_fill_53178_5 : decode cJ7_fill_53178 5 = .ok (.iload_n 2, 1) := by decide +kernel
theorem dJ7_fill_53178_6 : decode cJ7_fill_53178 6 = .ok (.iload_n 3, 1) := by decide +kernel
theorem dJ7_fill_53178_7 : decode cJ7_fill_53178 7 = .ok (.if_icmp .ge 13, 3) := by decide +kernel
theorem dJ7_fill_53178_10 : decode cJ7_fill_53178 10 = .ok (.aload_n 0, 1) := by decide +kernel
theorem dJ7_fill_53178_11 : decode cJ7_fill_53178 11 = .ok (.iload_n 2, 1) := by decide +kernel
theorem dJ7_fill_53178_12 : decode cJ7_fill_53178 12 = .ok (.iload_n 1, 1) := by decide +kernel
theorem dJ7_fill_53178_13 : decode cJ7_fill_53178 13 = .ok (.iastore, 1) := by decide +kernel
theorem dJ7_fill_53178_14 : decode cJ7_fill_53178 14 = .ok (.iinc 2 1, 3) := by decide +kernel
theorem dJ7_fill_53178_17 : decode cJ7_fill_53178 17 = .ok (.goto (-12), 3) := by decide +kernel
theorem dJ7_fill_53178_20 : decode cJ7_fill_53178 20 = .ok (.return_, 1) := by decide +kernel
