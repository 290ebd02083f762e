theorem dX1_init_0 : decode cX1_init 0 = .ok (.aload_n 0, 1) := by decide +kernel
theorem dX1_init_1 : decode cX1_init 1 = .ok (.invokespecial 3, 3) := by decide +kernel
theorem dX1_init_4 : decode cX1_init 4 = .ok (.aload_n 0, 1) := by decide +kernel
theorem dX1_init_5 : decode cX1_init 5 = .ok (.bipush 12, 2) := by decide +kernel
theorem dX1_init_7 : decode cX1_init 7 = .ok (.newarray .int, 2) := by decide +kernel
theorem dX1_init_9 : decode cX1_init 9 = .ok (.putfield 9, 3) := by decide +kernel
theorem dX1_init_12 : decode cX1_init 12 = .ok (.aload_n 0, 1) := by decide +kernel
theorem dX1_init_13 : decode cX1_init 13 = .ok (.aload_n 1, 1) := by decide +kernel
theorem dX1_init_14 : decode cX1_init 14 = .ok (.putfield 15, 3) := by decide +kernel
theorem dX1_init_17 : decode cX1_init 17 = .ok (.return_, 1) := by decide +kernel
theorem dX1_isOfTable_0 : decode cX1_isOfTable 0 = .ok (.aload_n 0, 1) := by decide +kernel
theorem dX1_isOfTable_1 : decode cX1_isOfTable 1 = .ok (.getfield 15, 3) := by decide +kernel
theorem dX1_isOfTable_4 : decode cX1_isOfTable 4 = .ok (.getstatic 19, 3) := by decide +kernel
theorem dX1_isOfTable_7 : decode cX1_isOfTable 7 = .ok (.if_acmp .ne 7, 3) := by decide +kernel
theorem dX1_isOfTable_10 : decode cX1_isOfTable 10 = .ok (.iconst 1, 1) := by decide +kernel
theorem dX1_isOfTable_11 : decode cX1_isOfTable 11 = .ok (.goto 4, 3) := by decide +kernel
theorem dX1_isOfTable_14 : decode cX1_isOfTable 14 = .ok (.iconst 0, 1) := by decide +kernel
theorem dX1_isOfTable_15 : decode cX1_isOfTable 15 = .ok (.ireturn, 1) := by decide +kernel
theorem dX1_takesIn_0 : decode cX1_takesIn 0 = .ok (.iload_n 1, 1) := by decide +kernel
theorem dX1_takesIn_1 : decode cX1_takesIn 1 = .ok (.bipush 100, 2) := by decide +kernel
theorem dX1_takesIn_3 : decode cX1_takesIn 3 = .ok (.if_icmp .ne 13, 3) := by decide +kernel
theorem dX1_takesIn_6 : decode cX1_takesIn 6 = .ok (.aload_n 0, 1) := by decide +kernel
theorem dX1_takesIn_7 : decode cX1_takesIn 7 = .ok (.getfield 15, 3) := by decide +kernel
theorem dX1_takesIn_10 : decode cX1_takesIn 10 = .ok (.getfield 24, 3) := by decide +kernel
theorem dX1_takesIn_13 : decode cX1_takesIn 13 = .ok (.ifCond .eq 7, 3) := by decide +kernel
theorem dX1_takesIn_16 : decode cX1_takesIn 16 = .ok (.iconst 1, 1) := by decide +kernel
theorem dX1_takesIn_17 : decode cX1_takesIn 17 = .ok (.goto 4, 3) := by decide +kernel
theorem dX1_takesIn_20 : decode cX1_takesIn 20 = .ok (.iconst 0, 1) := by decide +kernel
theorem dX1_takesIn_21 : decode cX1_takesIn 21 = .ok (.ireturn, 1) := by decide +kernel
theorem dX1_thingAt_0 : decode cX1_thingAt 0 = .ok (.iload_n 1, 1) := by decide +kernel
theorem dX1_thingAt_1 : decode cX1_thingAt 1 = .ok (.ifCond .lt 20, 3) := by decide +kernel
theorem dX1_thingAt_4 : decode cX1_thingAt 4 = .ok (.iload_n 1, 1) := by decide +kernel
theorem dX1_thingAt_5 : decode cX1_thingAt 5 = .ok (.aload_n 0, 1) := by decide +kernel
theorem dX1_thingAt_6 : decode cX1_thingAt 6 = .ok (.getfield 28, 3) := by decide +kernel
theorem dX1_thingAt_9 : decode cX1_thingAt 9 = .ok (.if_icmp .ge 12, 3) := by decide +kernel
theorem dX1_thingAt_12 : decode cX1_thingAt 12 = .ok (.aload_n 0, 1) := by decide +kernel
theorem dX1_thingAt_13 : decode cX1_thingAt 13 = .ok (.getfield 9, 3) := by decide +kernel
theorem dX1_thingAt_16 : decode cX1_thingAt 16 = .ok (.iload_n 1, 1) := by decide +kernel
theorem dX1_thingAt_17 : decode cX1_thingAt 17 = .ok (.iaload, 1) := by decide +kernel
theorem dX1_thingAt_18 : decode cX1_thingAt 18 = .ok (.goto 4, 3) := by decide +kernel
theorem dX1_thingAt_21 : decode cX1_thingAt 21 = .ok (.iconst (-1), 1) := by decide +kernel
theorem dX1_thingAt_22 : decode cX1_thingAt 22 = .ok (.ireturn, 1) := by decide +kernel
theorem dX1_firstPlace_0 : decode cX1_firstPlace 0 = .ok (.iconst 0, 1) := by decide +kernel
theorem dX1_firstPlace_1 : decode cX1_firstPlace 1 = .ok (.istore_n 2, 1) := by decide +kernel
theorem dX1_firstPlace_2 : decode cX1_firstPlace 2 = .ok (.iload_n 2, 1) := by decide +kernel
theorem dX1_firstPlace_3 : decode cX1_firstPlace 3 = .ok (.aload_n 0, 1) := by decide +kernel
theorem dX1_firstPlace_4 : decode cX1_firstPlace 4 = .ok (.getfield 28, 3) := by decide +kernel
theorem dX1_firstPlace_7 : decode cX1_firstPlace 7 = .ok (.if_icmp .ge 21, 3) := by decide +kernel
theorem dX1_firstPlace_10 : decode cX1_firstPlace 10 = .ok (.aload_n 0, 1) := by decide +kernel
theorem dX1_firstPlace_11 : decode cX1_firstPlace 11 = .ok (.getfield 9, 3) := by decide +kernel
theorem dX1_firstPlace_14 : decode cX1_firstPlace 14 = .ok (.iload_n 2, 1) := by decide +kernel
theorem dX1_firstPlace_15 : decode cX1_firstPlace 15 = .ok (.iaload, 1) := by decide +kernel
theorem dX1_firstPlace_16 : decode cX1_firstPlace 16 = .ok (.iload_n 1, 1) := by decide +kernel
theorem dX1_firstPlace_17 : decode cX1_firstPlace 17 = .ok (.if_icmp .ne 5, 3) := by decide +kernel
theorem dX1_firstPlace_20 : decode cX1_firstPlace 20 = .ok (.iload_n 2, 1) := by decide +kernel
theorem dX1_firstPlace_21 : decode cX1_firstPlace 21 = .ok (.ireturn, 1) := by decide +kernel
theorem dX1_firstPlace_22 : decode cX1_firstPlace 22 = .ok (.iinc 2 1, 3) := by decide +kernel
theorem dX1_firstPlace_25 : decode cX1_firstPlace 25 = .ok (.goto (-23), 3) := by decide +kernel
theorem dX1_firstPlace_28 : decode cX1_firstPlace 28 = .ok (.iconst (-1), 1) := by decide +kernel
theorem dX1_firstPlace_29 : decode cX1_firstPlace 29 = .ok (.ireturn, 1) := by decide +kernel
theorem dX1_lastPlace_0 : decode cX1_lastPlace 0 = .ok (.aload_n 0, 1) := by decide +kernel
theorem dX1_lastPlace_1 : decode cX1_lastPlace 1 = .ok (.getfield 28, 3) := by decide +kernel
theorem dX1_lastPlace_4 : decode cX1_lastPlace 4 = .ok (.iconst 1, 1) := by decide +kernel
theorem dX1_lastPlace_5 : decode cX1_lastPlace 5 = .ok (.isub, 1) := by decide +kernel
theorem dX1_lastPlace_6 : decode cX1_lastPlace 6 = .ok (.istore_n 2, 1) := by decide +kernel
theorem dX1_lastPlace_7 : decode cX1_lastPlace 7 = .ok (.iload_n 2, 1) := by decide +kernel
theorem dX1_lastPlace_8 : decode cX1_lastPlace 8 = .ok (.ifCond .lt 21, 3) := by decide +kernel
theorem dX1_lastPlace_11 : decode cX1_lastPlace 11 = .ok (.aload_n 0, 1) := by decide +kernel
theorem dX1_lastPlace_12 : decode cX1_lastPlace 12 = .ok (.getfield 9, 3) := by decide +kernel
theorem dX1_lastPlace_15 : decode cX1_lastPlace 15 = .ok (.iload_n 2, 1) := by decide +kernel
theorem dX1_lastPlace_16 : decode cX1_lastPlace 16 = .ok (.iaload, 1) := by decide +kernel
theorem dX1_lastPlace_17 : decode cX1_lastPlace 17 = .ok (.iload_n 1, 1) := by decide +kernel
theorem dX1_lastPlace_18 : decode cX1_lastPlace 18 = .ok (.if_icmp .ne 5, 3) := by decide +kernel
theorem dX1_lastPlace_21 : decode cX1_lastPlace 21 = .ok (.iload_n 2, 1) := by decide +kernel
theorem dX1_lastPlace_22 : decode cX1_lastPlace 22 = .ok (.ireturn, 1) := by decide +kernel
theorem dX1_lastPlace_23 : decode cX1_lastPlace 23 = .ok (.iinc 2 (-1), 3) := by decide +kernel
theorem dX1_lastPlace_26 : decode cX1_lastPlace 26 = .ok (.goto (-19), 3) := by decide +kernel
theorem dX1_lastPlace_29 : decode cX1_lastPlace 29 = .ok (.iconst (-1), 1) := by decide +kernel
theorem dX1_lastPlace_30 : decode cX1_lastPlace 30 = .ok (.ireturn, 1) := by decide +kernel
theorem dX1_holds_0 : decode cX1_holds 0 = .ok (.aload_n 0, 1) := by decide +kernel
theorem dX1_holds_1 : decode cX1_holds 1 = .ok (.iload_n 1, 1) := by decide +kernel
theorem dX1_holds_2 : decode cX1_holds 2 = .ok (.invokevirtual 32, 3) := by decide +kernel
theorem dX1_holds_5 : decode cX1_holds 5 = .ok (.iconst (-1), 1) := by decide +kernel
theorem dX1_holds_6 : decode cX1_holds 6 = .ok (.if_icmp .eq 7, 3) := by decide +kernel
theorem dX1_holds_9 : decode cX1_holds 9 = .ok (.iconst 1, 1) := by decide +kernel
theorem dX1_holds_10 : decode cX1_holds 10 = .ok (.goto 4, 3) := by decide +kernel
theorem dX1_holds_13 : decode cX1_holds 13 = .ok (.iconst 0, 1) := by decide +kernel
theorem dX1_holds_14 : decode cX1_holds 14 = .ok (.ireturn, 1) := by decide +kernel
theorem dX1_countOf_0 : decode cX1_countOf 0 = .ok (.iconst 0, 1) := by decide +kernel
theorem dX1_countOf_1 : decode cX1_countOf 1 = .ok (.istore_n 2, 1) := by decide +kernel
theorem dX1_countOf_2 : decode cX1_countOf 2 = .ok (.iconst 0, 1) := by decide +kernel
theorem dX1_countOf_3 : decode cX1_countOf 3 = .ok (.istore_n 3, 1) := by decide +kernel
theorem dX1_countOf_4 : decode cX1_countOf 4 = .ok (.iload_n 3, 1) := by decide +kernel
theorem dX1_countOf_5 : decode cX1_countOf 5 = .ok (.aload_n 0, 1) := by decide +kernel
theorem dX1_countOf_6 : decode cX1_countOf 6 = .ok (.getfield 28, 3) := by decide +kernel
theorem dX1_countOf_9 : decode cX1_countOf 9 = .ok (.if_icmp .ge 22, 3) := by decide +kernel
theorem dX1_countOf_12 : decode cX1_countOf 12 = .ok (.aload_n 0, 1) := by decide +kernel
theorem dX1_countOf_13 : decode cX1_countOf 13 = .ok (.getfield 9, 3) := by decide +kernel
theorem dX1_countOf_16 : decode cX1_countOf 16 = .ok (.iload_n 3, 1) := by decide +kernel
theorem dX1_countOf_17 : decode cX1_countOf 17 = .ok (.iaload, 1) := by decide +kernel
theorem dX1_countOf_18 : decode cX1_countOf 18 = .ok (.iload_n 1, 1) := by decide +kernel
theorem dX1_countOf_19 : decode cX1_countOf 19 = .ok (.if_icmp .ne 6, 3) := by decide +kernel
theorem dX1_countOf_22 : decode cX1_countOf 22 = .ok (.iinc 2 1, 3) := by decide +kernel
theorem dX1_countOf_25 : decode cX1_countOf 25 = .ok (.iinc 3 1, 3) := by decide +kernel
theorem dX1_countOf_28 : decode cX1_countOf 28 = .ok (.goto (-24), 3) := by decide +kernel
theorem dX1_countOf_31 : decode cX1_countOf 31 = .ok (.iload_n 2, 1) := by decide +kernel
theorem dX1_countOf_32 : decode cX1_countOf 32 = .ok (.ireturn, 1) := by decide +kernel
theorem dX1_risingPlace_0 : decode cX1_risingPlace 0 = .ok (.iconst 0, 1) := by decide +kernel
theorem dX1_risingPlace_1 : decode cX1_risingPlace 1 = .ok (.istore_n 2, 1) := by decide +kernel
theorem dX1_risingPlace_2 : decode cX1_risingPlace 2 = .ok (.iload_n 2, 1) := by decide +kernel
theorem dX1_risingPlace_3 : decode cX1_risingPlace 3 = .ok (.aload_n 0, 1) := by decide +kernel
theorem dX1_risingPlace_4 : decode cX1_risingPlace 4 = .ok (.getfield 28, 3) := by decide +kernel
theorem dX1_risingPlace_7 : decode cX1_risingPlace 7 = .ok (.if_icmp .ge 19, 3) := by decide +kernel
theorem dX1_risingPlace_10 : decode cX1_risingPlace 10 = .ok (.aload_n 0, 1) := by decide +kernel
theorem dX1_risingPlace_11 : decode cX1_risingPlace 11 = .ok (.getfield 9, 3) := by decide +kernel
theorem dX1_risingPlace_14 : decode cX1_risingPlace 14 = .ok (.iload_n 2, 1) := by decide +kernel
theorem dX1_risingPlace_15 : decode cX1_risingPlace 15 = .ok (.iaload, 1) := by decide +kernel
theorem dX1_risingPlace_16 : decode cX1_risingPlace 16 = .ok (.iload_n 1, 1) := by decide +kernel
theorem dX1_risingPlace_17 : decode cX1_risingPlace 17 = .ok (.if_icmp .ge 9, 3) := by decide +kernel
theorem dX1_risingPlace_20 : decode cX1_risingPlace 20 = .ok (.iinc 2 1, 3) := by decide +kernel
theorem dX1_risingPlace_23 : decode cX1_risingPlace 23 = .ok (.goto (-21), 3) := by decide +kernel
theorem dX1_risingPlace_26 : decode cX1_risingPlace 26 = .ok (.iload_n 2, 1) := by decide +kernel
theorem dX1_risingPlace_27 : decode cX1_risingPlace 27 = .ok (.ireturn, 1) := by decide +kernel
theorem dX1_layDown_0 : decode cX1_layDown 0 = .ok (.aload_n 0, 1) := by decide +kernel
theorem dX1_layDown_1 : decode cX1_layDown 1 = .ok (.getfield 15, 3) := by decide +kernel
theorem dX1_layDown_4 : decode cX1_layDown 4 = .ok (.getfield 36, 3) := by decide +kernel
theorem dX1_layDown_7 : decode cX1_layDown 7 = .ok (.ifCond .eq 13, 3) := by decide +kernel
theorem dX1_layDown_10 : decode cX1_layDown 10 = .ok (.aload_n 0, 1) := by decide +kernel
theorem dX1_layDown_11 : decode cX1_layDown 11 = .ok (.iload_n 1, 1) := by decide +kernel
theorem dX1_layDown_12 : decode cX1_layDown 12 = .ok (.invokevirtual 39, 3) := by decide +kernel
theorem dX1_layDown_15 : decode cX1_layDown 15 = .ok (.ifCond .eq 5, 3) := by decide +kernel
theorem dX1_layDown_18 : decode cX1_layDown 18 = .ok (.iconst 0, 1) := by decide +kernel
theorem dX1_layDown_19 : decode cX1_layDown 19 = .ok (.ireturn, 1) := by decide +kernel
theorem dX1_layDown_20 : decode cX1_layDown 20 = .ok (.aload_n 0, 1) := by decide +kernel
theorem dX1_layDown_21 : decode cX1_layDown 21 = .ok (.aload_n 0, 1) := by decide +kernel
theorem dX1_layDown_22 : decode cX1_layDown 22 = .ok (.getfield 15, 3) := by decide +kernel
theorem dX1_layDown_25 : decode cX1_layDown 25 = .ok (.getstatic 43, 3) := by decide +kernel
theorem dX1_layDown_28 : decode cX1_layDown 28 = .ok (.if_acmp .ne 11, 3) := by decide +kernel
theorem dX1_layDown_31 : decode cX1_layDown 31 = .ok (.aload_n 0, 1) := by decide +kernel
theorem dX1_layDown_32 : decode cX1_layDown 32 = .ok (.iload_n 1, 1) := by decide +kernel
theorem dX1_layDown_33 : decode cX1_layDown 33 = .ok (.invokevirtual 46, 3) := by decide +kernel
theorem dX1_layDown_36 : decode cX1_layDown 36 = .ok (.goto 7, 3) := by decide +kernel
theorem dX1_layDown_39 : decode cX1_layDown 39 = .ok (.aload_n 0, 1) := by decide +kernel
theorem dX1_layDown_40 : decode cX1_layDown 40 = .ok (.getfield 28, 3) := by decide +kernel
theorem dX1_layDown_43 : decode cX1_layDown 43 = .ok (.iload_n 1, 1) := by decide +kernel
theorem dX1_layDown_44 : decode cX1_layDown 44 = .ok (.invokevirtual 49, 3) := by decide +kernel
theorem dX1_layDown_47 : decode cX1_layDown 47 = .ok (.ireturn, 1) := by decide +kernel
theorem dX1_layAhead_0 : decode cX1_layAhead 0 = .ok (.iload_n 1, 1) := by decide +kernel
theorem dX1_layAhead_1 : decode cX1_layAhead 1 = .ok (.ifCond .lt 20, 3) := by decide +kernel
theorem dX1_layAhead_4 : decode cX1_layAhead 4 = .ok (.iload_n 1, 1) := by decide +kernel
theorem dX1_layAhead_5 : decode cX1_layAhead 5 = .ok (.aload_n 0, 1) := by decide +kernel
theorem dX1_layAhead_6 : decode cX1_layAhead 6 = .ok (.getfield 28, 3) := by decide +kernel
theorem dX1_layAhead_9 : decode cX1_layAhead 9 = .ok (.if_icmp .gt 12, 3) := by decide +kernel
theorem dX1_layAhead_12 : decode cX1_layAhead 12 = .ok (.aload_n 0, 1) := by decide +kernel
theorem dX1_layAhead_13 : decode cX1_layAhead 13 = .ok (.getfield 28, 3) := by decide +kernel
theorem dX1_layAhead_16 : decode cX1_layAhead 16 = .ok (.bipush 12, 2) := by decide +kernel
theorem dX1_layAhead_18 : decode cX1_layAhead 18 = .ok (.if_icmp .lt 5, 3) := by decide +kernel
theorem dX1_layAhead_21 : decode cX1_layAhead 21 = .ok (.iconst 0, 1) := by decide +kernel
theorem dX1_layAhead_22 : decode cX1_layAhead 22 = .ok (.ireturn, 1) := by decide +kernel
theorem dX1_layAhead_23 : decode cX1_layAhead 23 = .ok (.aload_n 0, 1) := by decide +kernel
theorem dX1_layAhead_24 : decode cX1_layAhead 24 = .ok (.getfield 28, 3) := by decide +kernel
theorem dX1_layAhead_27 : decode cX1_layAhead 27 = .ok (.istore_n 3, 1) := by decide +kernel
theorem dX1_layAhead_28 : decode cX1_layAhead 28 = .ok (.iload_n 3, 1) := by decide +kernel
theorem dX1_layAhead_29 : decode cX1_layAhead 29 = .ok (.iload_n 1, 1) := by decide +kernel
theorem dX1_layAhead_30 : decode cX1_layAhead 30 = .ok (.if_icmp .le 23, 3) := by decide +kernel
theorem dX1_layAhead_33 : decode cX1_layAhead 33 = .ok (.aload_n 0, 1) := by decide +kernel
theorem dX1_layAhead_34 : decode cX1_layAhead 34 = .ok (.getfield 9, 3) := by decide +kernel
theorem dX1_layAhead_37 : decode cX1_layAhead 37 = .ok (.iload_n 3, 1) := by decide +kernel
theorem dX1_layAhead_38 : decode cX1_layAhead 38 = .ok (.aload_n 0, 1) := by decide +kernel
theorem dX1_layAhead_39 : decode cX1_layAhead 39 = .ok (.getfield 9, 3) := by decide +kernel
theorem dX1_layAhead_42 : decode cX1_layAhead 42 = .ok (.iload_n 3, 1) := by decide +kernel
theorem dX1_layAhead_43 : decode cX1_layAhead 43 = .ok (.iconst 1, 1) := by decide +kernel
theorem dX1_layAhead_44 : decode cX1_layAhead 44 = .ok (.isub, 1) := by decide +kernel
theorem dX1_layAhead_45 : decode cX1_layAhead 45 = .ok (.iaload, 1) := by decide +kernel
theorem dX1_layAhead_46 : decode cX1_layAhead 46 = .ok (.iastore, 1) := by decide +kernel
theorem dX1_layAhead_47 : decode cX1_layAhead 47 = .ok (.iinc 3 (-1), 3) := by decide +kernel
theorem dX1_layAhead_50 : decode cX1_layAhead 50 = .ok (.goto (-22), 3) := by decide +kernel
theorem dX1_layAhead_53 : decode cX1_layAhead 53 = .ok (.aload_n 0, 1) := by decide +kernel
theorem dX1_layAhead_54 : decode cX1_layAhead 54 = .ok (.getfield 9, 3) := by decide +kernel
theorem dX1_layAhead_57 : decode cX1_layAhead 57 = .ok (.iload_n 1, 1) := by decide +kernel
theorem dX1_layAhead_58 : decode cX1_layAhead 58 = .ok (.iload_n 2, 1) := by decide +kernel
theorem dX1_layAhead_59 : decode cX1_layAhead 59 = .ok (.iastore, 1) := by decide +kernel
theorem dX1_layAhead_60 : decode cX1_layAhead 60 = .ok (.aload_n 0, 1) := by decide +kernel
theorem dX1_layAhead_61 : decode cX1_layAhead 61 = .ok (.dup, 1) := by decide +kernel
theorem dX1_layAhead_62 : decode cX1_layAhead 62 = .ok (.getfield 28, 3) := by decide +kernel
theorem dX1_layAhead_65 : decode cX1_layAhead 65 = .ok (.iconst 1, 1) := by decide +kernel
theorem dX1_layAhead_66 : decode cX1_layAhead 66 = .ok (.iadd, 1) := by decide +kernel
theorem dX1_layAhead_67 : decode cX1_layAhead 67 = .ok (.putfield 28, 3) := by decide +kernel
theorem dX1_layAhead_70 : decode cX1_layAhead 70 = .ok (.aload_n 0, 1) := by decide +kernel
theorem dX1_layAhead_71 : decode cX1_layAhead 71 = .ok (.dup, 1) := by decide +kernel
theorem dX1_layAhead_72 : decode cX1_layAhead 72 = .ok (.getfield 53, 3) := by decide +kernel
theorem dX1_layAhead_75 : decode cX1_layAhead 75 = .ok (.iconst 1, 1) := by decide +kernel
theorem dX1_layAhead_76 : decode cX1_layAhead 76 = .ok (.iadd, 1) := by decide +kernel
theorem dX1_layAhead_77 : decode cX1_layAhead 77 = .ok (.putfield 53, 3) := by decide +kernel
theorem dX1_layAhead_80 : decode cX1_layAhead 80 = .ok (.iconst 1, 1) := by decide +kernel
theorem dX1_layAhead_81 : decode cX1_layAhead 81 = .ok (.ireturn, 1) := by decide +kernel
theorem dX1_lift_0 : decode cX1_lift 0 = .ok (.iload_n 1, 1) := by decide +kernel
theorem dX1_lift_1 : decode cX1_lift 1 = .ok (.ifCond .lt 11, 3) := by decide +kernel
theorem dX1_lift_4 : decode cX1_lift 4 = .ok (.iload_n 1, 1) := by decide +kernel
theorem dX1_lift_5 : decode cX1_lift 5 = .ok (.aload_n 0, 1) := by decide +kernel
theorem dX1_lift_6 : decode cX1_lift 6 = .ok (.getfield 28, 3) := by decide +kernel
theorem dX1_lift_9 : decode cX1_lift 9 = .ok (.if_icmp .lt 5, 3) := by decide +kernel
theorem dX1_lift_12 : decode cX1_lift 12 = .ok (.iconst (-1), 1) := by decide +kernel
theorem dX1_lift_13 : decode cX1_lift 13 = .ok (.ireturn, 1) := by decide +kernel
theorem dX1_lift_14 : decode cX1_lift 14 = .ok (.aload_n 0, 1) := by decide +kernel
theorem dX1_lift_15 : decode cX1_lift 15 = .ok (.getfield 9, 3) := by decide +kernel
theorem dX1_lift_18 : decode cX1_lift 18 = .ok (.iload_n 1, 1) := by decide +kernel
theorem dX1_lift_19 : decode cX1_lift 19 = .ok (.iaload, 1) := by decide +kernel
theorem dX1_lift_20 : decode cX1_lift 20 = .ok (.istore_n 2, 1) := by decide +kernel
theorem dX1_lift_21 : decode cX1_lift 21 = .ok (.aload_n 0, 1) := by decide +kernel
theorem dX1_lift_22 : decode cX1_lift 22 = .ok (.dup, 1) := by decide +kernel
theorem dX1_lift_23 : decode cX1_lift 23 = .ok (.getfield 28, 3) := by decide +kernel
theorem dX1_lift_26 : decode cX1_lift 26 = .ok (.iconst 1, 1) := by decide +kernel
theorem dX1_lift_27 : decode cX1_lift 27 = .ok (.isub, 1) := by decide +kernel
theorem dX1_lift_28 : decode cX1_lift 28 = .ok (.putfield 28, 3) := by decide +kernel
theorem dX1_lift_31 : decode cX1_lift 31 = .ok (.iload_n 1, 1) := by decide +kernel
theorem dX1_lift_32 : decode cX1_lift 32 = .ok (.istore_n 3, 1) := by decide +kernel
theorem dX1_lift_33 : decode cX1_lift 33 = .ok (.iload_n 3, 1) := by decide +kernel
theorem dX1_lift_34 : decode cX1_lift 34 = .ok (.aload_n 0, 1) := by decide +kernel
theorem dX1_lift_35 : decode cX1_lift 35 = .ok (.getfield 28, 3) := by decide +kernel
theorem dX1_lift_38 : decode cX1_lift 38 = .ok (.if_icmp .ge 23, 3) := by decide +kernel
theorem dX1_lift_41 : decode cX1_lift 41 = .ok (.aload_n 0, 1) := by decide +kernel
theorem dX1_lift_42 : decode cX1_lift 42 = .ok (.getfield 9, 3) := by decide +kernel
theorem dX1_lift_45 : decode cX1_lift 45 = .ok (.iload_n 3, 1) := by decide +kernel
theorem dX1_lift_46 : decode cX1_lift 46 = .ok (.aload_n 0, 1) := by decide +kernel
theorem dX1_lift_47 : decode cX1_lift 47 = .ok (.getfield 9, 3) := by decide +kernel
theorem dX1_lift_50 : decode cX1_lift 50 = .ok (.iload_n 3, 1) := by decide +kernel
theorem dX1_lift_51 : decode cX1_lift 51 = .ok (.iconst 1, 1) := by decide +kernel
theorem dX1_lift_52 : decode cX1_lift 52 = .ok (.iadd, 1) := by decide +kernel
theorem dX1_lift_53 : decode cX1_lift 53 = .ok (.iaload, 1) := by decide +kernel
theorem dX1_lift_54 : decode cX1_lift 54 = .ok (.iastore, 1) := by decide +kernel
theorem dX1_lift_55 : decode cX1_lift 55 = .ok (.iinc 3 1, 3) := by decide +kernel
theorem dX1_lift_58 : decode cX1_lift 58 = .ok (.goto (-25), 3) := by decide +kernel
theorem dX1_lift_61 : decode cX1_lift 61 = .ok (.aload_n 0, 1) := by decide +kernel
theorem dX1_lift_62 : decode cX1_lift 62 = .ok (.dup, 1) := by decide +kernel
theorem dX1_lift_63 : decode cX1_lift 63 = .ok (.getfield 53, 3) := by decide +kernel
theorem dX1_lift_66 : decode cX1_lift 66 = .ok (.iconst 1, 1) := by decide +kernel
theorem dX1_lift_67 : decode cX1_lift 67 = .ok (.iadd, 1) := by decide +kernel
theorem dX1_lift_68 : decode cX1_lift 68 = .ok (.putfield 53, 3) := by decide +kernel
theorem dX1_lift_71 : decode cX1_lift 71 = .ok (.iload_n 2, 1) := by decide +kernel
theorem dX1_lift_72 : decode cX1_lift 72 = .ok (.ireturn, 1) := by decide +kernel
theorem dX1_liftAll_0 : decode cX1_liftAll 0 = .ok (.aload_n 0, 1) := by decide +kernel
theorem dX1_liftAll_1 : decode cX1_liftAll 1 = .ok (.getfield 28, 3) := by decide +kernel
theorem dX1_liftAll_4 : decode cX1_liftAll 4 = .ok (.ifCond .le 18, 3) := by decide +kernel
theorem dX1_liftAll_7 : decode cX1_liftAll 7 = .ok (.aload_n 0, 1) := by decide +kernel
theorem dX1_liftAll_8 : decode cX1_liftAll 8 = .ok (.iconst 0, 1) := by decide +kernel
theorem dX1_liftAll_9 : decode cX1_liftAll 9 = .ok (.putfield 28, 3) := by decide +kernel
theorem dX1_liftAll_12 : decode cX1_liftAll 12 = .ok (.aload_n 0, 1) := by decide +kernel
theorem dX1_liftAll_13 : decode cX1_liftAll 13 = .ok (.dup, 1) := by decide +kernel
theorem dX1_liftAll_14 : decode cX1_liftAll 14 = .ok (.getfield 53, 3) := by decide +kernel
theorem dX1_liftAll_17 : decode cX1_liftAll 17 = .ok (.iconst 1, 1) := by decide +kernel
theorem dX1_liftAll_18 : decode cX1_liftAll 18 = .ok (.iadd, 1) := by decide +kernel
theorem dX1_liftAll_19 : decode cX1_liftAll 19 = .ok (.putfield 53, 3) := by decide +kernel
theorem dX1_liftAll_22 : decode cX1_liftAll 22 = .ok (.return_, 1) := by decide +kernel
theorem dX1_exchange_0 : decode cX1_exchange 0 = .ok (.iload_n 1, 1) := by decide +kernel
theorem dX1_exchange_1 : decode cX1_exchange 1 = .ok (.ifCond .lt 11, 3) := by decide +kernel
theorem dX1_exchange_4 : decode cX1_exchange 4 = .ok (.iload_n 1, 1) := by decide +kernel
theorem dX1_exchange_5 : decode cX1_exchange 5 = .ok (.aload_n 0, 1) := by decide +kernel
theorem dX1_exchange_6 : decode cX1_exchange 6 = .ok (.getfield 28, 3) := by decide +kernel
theorem dX1_exchange_9 : decode cX1_exchange 9 = .ok (.if_icmp .lt 5, 3) := by decide +kernel
theorem dX1_exchange_12 : decode cX1_exchange 12 = .ok (.iconst (-1), 1) := by decide +kernel
theorem dX1_exchange_13 : decode cX1_exchange 13 = .ok (.ireturn, 1) := by decide +kernel
theorem dX1_exchange_14 : decode cX1_exchange 14 = .ok (.aload_n 0, 1) := by decide +kernel
theorem dX1_exchange_15 : decode cX1_exchange 15 = .ok (.getfield 9, 3) := by decide +kernel
theorem dX1_exchange_18 : decode cX1_exchange 18 = .ok (.iload_n 1, 1) := by decide +kernel
theorem dX1_exchange_19 : decode cX1_exchange 19 = .ok (.iaload, 1) := by decide +kernel
theorem dX1_exchange_20 : decode cX1_exchange 20 = .ok (.istore_n 3, 1) := by decide +kernel
theorem dX1_exchange_21 : decode cX1_exchange 21 = .ok (.aload_n 0, 1) := by decide +kernel
theorem dX1_exchange_22 : decode cX1_exchange 22 = .ok (.getfield 9, 3) := by decide +kernel
theorem dX1_exchange_25 : decode cX1_exchange 25 = .ok (.iload_n 1, 1) := by decide +kernel
theorem dX1_exchange_26 : decode cX1_exchange 26 = .ok (.iload_n 2, 1) := by decide +kernel
theorem dX1_exchange_27 : decode cX1_exchange 27 = .ok (.iastore, 1) := by decide +kernel
theorem dX1_exchange_28 : decode cX1_exchange 28 = .ok (.iload_n 3, 1) := by decide +kernel
theorem dX1_exchange_29 : decode cX1_exchange 29 = .ok (.ireturn, 1) := by decide +kernel
theorem dX1_reverse_0 : decode cX1_reverse 0 = .ok (.iload_n 1, 1) := by decide +kernel
theorem dX1_reverse_1 : decode cX1_reverse 1 = .ok (.istore_n 3, 1) := by decide +kernel
theorem dX1_reverse_2 : decode cX1_reverse 2 = .ok (.iload_n 2, 1) := by decide +kernel
theorem dX1_reverse_3 : decode cX1_reverse 3 = .ok (.iconst 1, 1) := by decide +kernel
theorem dX1_reverse_4 : decode cX1_reverse 4 = .ok (.isub, 1) := by decide +kernel
theorem dX1_reverse_5 : decode cX1_reverse 5 = .ok (.istore 4, 2) := by decide +kernel
theorem dX1_reverse_7 : decode cX1_reverse 7 = .ok (.iload_n 3, 1) := by decide +kernel
theorem dX1_reverse_8 : decode cX1_reverse 8 = .ok (.iload 4, 2) := by decide +kernel
theorem dX1_reverse_10 : decode cX1_reverse 10 = .ok (.if_icmp .ge 29, 3) := by decide +kernel
theorem dX1_reverse_13 : decode cX1_reverse 13 = .ok (.aload_n 0, 1) := by decide +kernel
theorem dX1_reverse_14 : decode cX1_reverse 14 = .ok (.iload_n 3, 1) := by decide +kernel
theorem dX1_reverse_15 : decode cX1_reverse 15 = .ok (.aload_n 0, 1) := by decide +kernel
theorem dX1_reverse_16 : decode cX1_reverse 16 = .ok (.iload 4, 2) := by decide +kernel
theorem dX1_reverse_18 : decode cX1_reverse 18 = .ok (.aload_n 0, 1) := by decide +kernel
theorem dX1_reverse_19 : decode cX1_reverse 19 = .ok (.iload_n 3, 1) := by decide +kernel
theorem dX1_reverse_20 : decode cX1_reverse 20 = .ok (.invokevirtual 56, 3) := by decide +kernel
theorem dX1_reverse_23 : decode cX1_reverse 23 = .ok (.invokevirtual 59, 3) := by decide +kernel
theorem dX1_reverse_26 : decode cX1_reverse 26 = .ok (.invokevirtual 59, 3) := by decide +kernel
theorem dX1_reverse_29 : decode cX1_reverse 29 = .ok (.pop, 1) := by decide +kernel
theorem dX1_reverse_30 : decode cX1_reverse 30 = .ok (.iinc 3 1, 3) := by decide +kernel
theorem dX1_reverse_33 : decode cX1_reverse 33 = .ok (.iinc 4 (-1), 3) := by decide +kernel
theorem dX1_reverse_36 : decode cX1_reverse 36 = .ok (.goto (-29), 3) := by decide +kernel
theorem dX1_reverse_39 : decode cX1_reverse 39 = .ok (.return_, 1) := by decide +kernel
theorem dX1_moveOn_0 : decode cX1_moveOn 0 = .ok (.aload_n 0, 1) := by decide +kernel
theorem dX1_moveOn_1 : decode cX1_moveOn 1 = .ok (.iconst 0, 1) := by decide +kernel
theorem dX1_moveOn_2 : decode cX1_moveOn 2 = .ok (.aload_n 0, 1) := by decide +kernel
theorem dX1_moveOn_3 : decode cX1_moveOn 3 = .ok (.getfield 28, 3) := by decide +kernel
theorem dX1_moveOn_6 : decode cX1_moveOn 6 = .ok (.invokevirtual 63, 3) := by decide +kernel
theorem dX1_moveOn_9 : decode cX1_moveOn 9 = .ok (.aload_n 0, 1) := by decide +kernel
theorem dX1_moveOn_10 : decode cX1_moveOn 10 = .ok (.iconst 0, 1) := by decide +kernel
theorem dX1_moveOn_11 : decode cX1_moveOn 11 = .ok (.iload_n 1, 1) := by decide +kernel
theorem dX1_moveOn_12 : decode cX1_moveOn 12 = .ok (.invokevirtual 63, 3) := by decide +kernel
theorem dX1_moveOn_15 : decode cX1_moveOn 15 = .ok (.aload_n 0, 1) := by decide +kernel
theorem dX1_moveOn_16 : decode cX1_moveOn 16 = .ok (.iload_n 1, 1) := by decide +kernel
theorem dX1_moveOn_17 : decode cX1_moveOn 17 = .ok (.aload_n 0, 1) := by decide +kernel
theorem dX1_moveOn_18 : decode cX1_moveOn 18 = .ok (.getfield 28, 3) := by decide +kernel
theorem dX1_moveOn_21 : decode cX1_moveOn 21 = .ok (.invokevirtual 63, 3) := by decide +kernel
theorem dX1_moveOn_24 : decode cX1_moveOn 24 = .ok (.return_, 1) := by decide +kernel
theorem dX1_becomeListOf_0 : decode cX1_becomeListOf 0 = .ok (.iconst 0, 1) := by decide +kernel
theorem dX1_becomeListOf_1 : decode cX1_becomeListOf 1 = .ok (.istore_n 3, 1) := by decide +kernel
theorem dX1_becomeListOf_2 : decode cX1_becomeListOf 2 = .ok (.iload_n 2, 1) := by decide +kernel
theorem dX1_becomeListOf_3 : decode cX1_becomeListOf 3 = .ok (.istore 4, 2) := by decide +kernel
theorem dX1_becomeListOf_5 : decode cX1_becomeListOf 5 = .ok (.iload 4, 2) := by decide +kernel
theorem dX1_becomeListOf_7 : decode cX1_becomeListOf 7 = .ok (.aload_n 1, 1) := by decide +kernel
theorem dX1_becomeListOf_8 : decode cX1_becomeListOf 8 = .ok (.getfield 28, 3) := by decide +kernel
theorem dX1_becomeListOf_11 : decode cX1_becomeListOf 11 = .ok (.if_icmp .ge 30, 3) := by decide +kernel
theorem dX1_becomeListOf_14 : decode cX1_becomeListOf 14 = .ok (.iload_n 3, 1) := by decide +kernel
theorem dX1_becomeListOf_15 : decode cX1_becomeListOf 15 = .ok (.bipush 12, 2) := by decide +kernel
theorem dX1_becomeListOf_17 : decode cX1_becomeListOf 17 = .ok (.if_icmp .ge 24, 3) := by decide +kernel
theorem dX1_becomeListOf_20 : decode cX1_becomeListOf 20 = .ok (.aload_n 0, 1) := by decide +kernel
theorem dX1_becomeListOf_21 : decode cX1_becomeListOf 21 = .ok (.getfield 9, 3) := by decide +kernel
theorem dX1_becomeListOf_24 : decode cX1_becomeListOf 24 = .ok (.iload_n 3, 1) := by decide +kernel
theorem dX1_becomeListOf_25 : decode cX1_becomeListOf 25 = .ok (.aload_n 1, 1) := by decide +kernel
theorem dX1_becomeListOf_26 : decode cX1_becomeListOf 26 = .ok (.iload 4, 2) := by decide +kernel
theorem dX1_becomeListOf_28 : decode cX1_becomeListOf 28 = .ok (.invokevirtual 56, 3) := by decide +kernel
theorem dX1_becomeListOf_31 : decode cX1_becomeListOf 31 = .ok (.iastore, 1) := by decide +kernel
theorem dX1_becomeListOf_32 : decode cX1_becomeListOf 32 = .ok (.iinc 3 1, 3) := by decide +kernel
theorem dX1_becomeListOf_35 : decode cX1_becomeListOf 35 = .ok (.iinc 4 1, 3) := by decide +kernel
theorem dX1_becomeListOf_38 : decode cX1_becomeListOf 38 = .ok (.goto (-33), 3) := by decide +kernel
theorem dX1_becomeListOf_41 : decode cX1_becomeListOf 41 = .ok (.aload_n 0, 1) := by decide +kernel
theorem dX1_becomeListOf_42 : decode cX1_becomeListOf 42 = .ok (.iload_n 3, 1) := by decide +kernel
theorem dX1_becomeListOf_43 : decode cX1_becomeListOf 43 = .ok (.putfield 28, 3) := by decide +kernel
theorem dX1_becomeListOf_46 : decode cX1_becomeListOf 46 = .ok (.aload_n 0, 1) := by decide +kernel
theorem dX1_becomeListOf_47 : decode cX1_becomeListOf 47 = .ok (.dup, 1) := by decide +kernel
theorem dX1_becomeListOf_48 : decode cX1_becomeListOf 48 = .ok (.getfield 53, 3) := by decide +kernel
theorem dX1_becomeListOf_51 : decode cX1_becomeListOf 51 = .ok (.iconst 1, 1) := by decide +kernel
theorem dX1_becomeListOf_52 : decode cX1_becomeListOf 52 = .ok (.iadd, 1) := by decide +kernel
theorem dX1_becomeListOf_53 : decode cX1_becomeListOf 53 = .ok (.putfield 53, 3) := by decide +kernel
theorem dX1_becomeListOf_56 : decode cX1_becomeListOf 56 = .ok (.return_, 1) := by decide +kernel
theorem dX1_rises_0 : decode cX1_rises 0 = .ok (.iconst 1, 1) := by decide +kernel
theorem dX1_rises_1 : decode cX1_rises 1 = .ok (.istore_n 1, 1) := by decide +kernel
theorem dX1_rises_2 : decode cX1_rises 2 = .ok (.iload_n 1, 1) := by decide +kernel
theorem dX1_rises_3 : decode cX1_rises 3 = .ok (.aload_n 0, 1) := by decide +kernel
theorem dX1_rises_4 : decode cX1_rises 4 = .ok (.getfield 28, 3) := by decide +kernel
theorem dX1_rises_7 : decode cX1_rises 7 = .ok (.if_icmp .ge 28, 3) := by decide +kernel
theorem dX1_rises_10 : decode cX1_rises 10 = .ok (.aload_n 0, 1) := by decide +kernel
theorem dX1_rises_11 : decode cX1_rises 11 = .ok (.getfield 9, 3) := by decide +kernel
theorem dX1_rises_14 : decode cX1_rises 14 = .ok (.iload_n 1, 1) := by decide +kernel
theorem dX1_rises_15 : decode cX1_rises 15 = .ok (.iaload, 1) := by decide +kernel
theorem dX1_rises_16 : decode cX1_rises 16 = .ok (.aload_n 0, 1) := by decide +kernel
theorem dX1_rises_17 : decode cX1_rises 17 = .ok (.getfield 9, 3) := by decide +kernel
theorem dX1_rises_20 : decode cX1_rises 20 = .ok (.iload_n 1, 1) := by decide +kernel
theorem dX1_rises_21 : decode cX1_rises 21 = .ok (.iconst 1, 1) := by decide +kernel
theorem dX1_rises_22 : decode cX1_rises 22 = .ok (.isub, 1) := by decide +kernel
theorem dX1_rises_23 : decode cX1_rises 23 = .ok (.iaload, 1) := by decide +kernel
theorem dX1_rises_24 : decode cX1_rises 24 = .ok (.if_icmp .gt 5, 3) := by decide +kernel
theorem dX1_rises_27 : decode cX1_rises 27 = .ok (.iconst 0, 1) := by decide +kernel
theorem dX1_rises_28 : decode cX1_rises 28 = .ok (.ireturn, 1) := by decide +kernel
theorem dX1_rises_29 : decode cX1_rises 29 = .ok (.iinc 1 1, 3) := by decide +kernel
theorem dX1_rises_32 : decode cX1_rises 32 = .ok (.goto (-30), 3) := by decide +kernel
theorem dX1_rises_35 : decode cX1_rises 35 = .ok (.iconst 1, 1) := by decide +kernel
theorem dX1_rises_36 : decode cX1_rises 36 = .ok (.ireturn, 1) := by decide +kernel
theorem dX1_hasEachOnce_0 : decode cX1_hasEachOnce 0 = .ok (.iconst 0, 1) := by decide +kernel
theorem dX1_hasEachOnce_1 : decode cX1_hasEachOnce 1 = .ok (.istore_n 1, 1) := by decide +kernel
theorem dX1_hasEachOnce_2 : decode cX1_hasEachOnce 2 = .ok (.iload_n 1, 1) := by decide +kernel
theorem dX1_hasEachOnce_3 : decode cX1_hasEachOnce 3 = .ok (.aload_n 0, 1) := by decide +kernel
theorem dX1_hasEachOnce_4 : decode cX1_hasEachOnce 4 = .ok (.getfield 28, 3) := by decide +kernel
theorem dX1_hasEachOnce_7 : decode cX1_hasEachOnce 7 = .ok (.if_icmp .ge 25, 3) := by decide +kernel
theorem dX1_hasEachOnce_10 : decode cX1_hasEachOnce 10 = .ok (.aload_n 0, 1) := by decide +kernel
theorem dX1_hasEachOnce_11 : decode cX1_hasEachOnce 11 = .ok (.aload_n 0, 1) := by decide +kernel
theorem dX1_hasEachOnce_12 : decode cX1_hasEachOnce 12 = .ok (.getfield 9, 3) := by decide +kernel
theorem dX1_hasEachOnce_15 : decode cX1_hasEachOnce 15 = .ok (.iload_n 1, 1) := by decide +kernel
theorem dX1_hasEachOnce_16 : decode cX1_hasEachOnce 16 = .ok (.iaload, 1) := by decide +kernel
theorem dX1_hasEachOnce_17 : decode cX1_hasEachOnce 17 = .ok (.invokevirtual 32, 3) := by decide +kernel
theorem dX1_hasEachOnce_20 : decode cX1_hasEachOnce 20 = .ok (.iload_n 1, 1) := by decide +kernel
theorem dX1_hasEachOnce_21 : decode cX1_hasEachOnce 21 = .ok (.if_icmp .eq 5, 3) := by decide +kernel
theorem dX1_hasEachOnce_24 : decode cX1_hasEachOnce 24 = .ok (.iconst 0, 1) := by decide +kernel
theorem dX1_hasEachOnce_25 : decode cX1_hasEachOnce 25 = .ok (.ireturn, 1) := by decide +kernel
theorem dX1_hasEachOnce_26 : decode cX1_hasEachOnce 26 = .ok (.iinc 1 1, 3) := by decide +kernel
theorem dX1_hasEachOnce_29 : decode cX1_hasEachOnce 29 = .ok (.goto (-27), 3) := by decide +kernel
theorem dX1_hasEachOnce_32 : decode cX1_hasEachOnce 32 = .ok (.iconst 1, 1) := by decide +kernel
theorem dX1_hasEachOnce_33 : decode cX1_hasEachOnce 33 = .ok (.ireturn, 1) := by decide +kernel
theorem dX2_init_0 : decode cX2_init 0 = .ok (.aload_n 0, 1) := by decide +kernel
theorem dX2_init_1 : decode cX2_init 1 = .ok (.invokespecial 3, 3) := by decide +kernel
theorem dX2_init_4 : decode cX2_init 4 = .ok (.aload_n 0, 1) := by decide +kernel
theorem dX2_init_5 : decode cX2_init 5 = .ok (.aload_n 1, 1) := by decide +kernel
theorem dX2_init_6 : decode cX2_init 6 = .ok (.putfield 9, 3) := by decide +kernel
theorem dX2_init_9 : decode cX2_init 9 = .ok (.return_, 1) := by decide +kernel
theorem dX2_begin_0 : decode cX2_begin 0 = .ok (.aload_n 0, 1) := by decide +kernel
theorem dX2_begin_1 : decode cX2_begin 1 = .ok (.aload_n 1, 1) := by decide +kernel
theorem dX2_begin_2 : decode cX2_begin 2 = .ok (.putfield 9, 3) := by decide +kernel
theorem dX2_begin_5 : decode cX2_begin 5 = .ok (.aload_n 0, 1) := by decide +kernel
theorem dX2_begin_6 : decode cX2_begin 6 = .ok (.iload_n 2, 1) := by decide +kernel
theorem dX2_begin_7 : decode cX2_begin 7 = .ok (.putfield 15, 3) := by decide +kernel
theorem dX2_begin_10 : decode cX2_begin 10 = .ok (.aload_n 0, 1) := by decide +kernel
theorem dX2_begin_11 : decode cX2_begin 11 = .ok (.iload_n 3, 1) := by decide +kernel
theorem dX2_begin_12 : decode cX2_begin 12 = .ok (.putfield 19, 3) := by decide +kernel
theorem dX2_begin_15 : decode cX2_begin 15 = .ok (.aload_n 0, 1) := by decide +kernel
theorem dX2_begin_16 : decode cX2_begin 16 = .ok (.iconst 1, 1) := by decide +kernel
theorem dX2_begin_17 : decode cX2_begin 17 = .ok (.putfield 22, 3) := by decide +kernel
theorem dX2_begin_20 : decode cX2_begin 20 = .ok (.aload_n 0, 1) := by decide +kernel
theorem dX2_begin_21 : decode cX2_begin 21 = .ok (.iconst 0, 1) := by decide +kernel
theorem dX2_begin_22 : decode cX2_begin 22 = .ok (.putfield 26, 3) := by decide +kernel
theorem dX2_begin_25 : decode cX2_begin 25 = .ok (.aload_n 0, 1) := by decide +kernel
theorem dX2_begin_26 : decode cX2_begin 26 = .ok (.iconst 0, 1) := by decide +kernel
theorem dX2_begin_27 : decode cX2_begin 27 = .ok (.putfield 29, 3) := by decide +kernel
theorem dX2_begin_30 : decode cX2_begin 30 = .ok (.aload_n 0, 1) := by decide +kernel
theorem dX2_begin_31 : decode cX2_begin 31 = .ok (.aload_n 1, 1) := by decide +kernel
theorem dX2_begin_32 : decode cX2_begin 32 = .ok (.getfield 32, 3) := by decide +kernel
theorem dX2_begin_35 : decode cX2_begin 35 = .ok (.putfield 37, 3) := by decide +kernel
theorem dX2_begin_38 : decode cX2_begin 38 = .ok (.aload_n 0, 1) := by decide +kernel
theorem dX2_begin_39 : decode cX2_begin 39 = .ok (.aload_n 1, 1) := by decide +kernel
theorem dX2_begin_40 : decode cX2_begin 40 = .ok (.getfield 40, 3) := by decide +kernel
theorem dX2_begin_43 : decode cX2_begin 43 = .ok (.putfield 43, 3) := by decide +kernel
theorem dX2_begin_46 : decode cX2_begin 46 = .ok (.aload_n 0, 1) := by decide +kernel
theorem dX2_begin_47 : decode cX2_begin 47 = .ok (.iconst 0, 1) := by decide +kernel
theorem dX2_begin_48 : decode cX2_begin 48 = .ok (.putfield 46, 3) := by decide +kernel
theorem dX2_begin_51 : decode cX2_begin 51 = .ok (.return_, 1) := by decide +kernel
theorem dX2_isStale_0 : decode cX2_isStale 0 = .ok (.aload_n 0, 1) := by decide +kernel
theorem dX2_isStale_1 : decode cX2_isStale 1 = .ok (.getfield 9, 3) := by decide +kernel
theorem dX2_isStale_4 : decode cX2_isStale 4 = .ok (.getfield 32, 3) := by decide +kernel
theorem dX2_isStale_7 : decode cX2_isStale 7 = .ok (.aload_n 0, 1) := by decide +kernel
theorem dX2_isStale_8 : decode cX2_isStale 8 = .ok (.getfield 37, 3) := by decide +kernel
theorem dX2_isStale_11 : decode cX2_isStale 11 = .ok (.if_icmp .eq 7, 3) := by decide +kernel
theorem dX2_isStale_14 : decode cX2_isStale 14 = .ok (.iconst 1, 1) := by decide +kernel
theorem dX2_isStale_15 : decode cX2_isStale 15 = .ok (.goto 4, 3) := by decide +kernel
theorem dX2_isStale_18 : decode cX2_isStale 18 = .ok (.iconst 0, 1) := by decide +kernel
theorem dX2_isStale_19 : decode cX2_isStale 19 = .ok (.ireturn, 1) := by decide +kernel
theorem dX2_ahead_0 : decode cX2_ahead 0 = .ok (.aload_n 0, 1) := by decide +kernel
theorem dX2_ahead_1 : decode cX2_ahead 1 = .ok (.getfield 26, 3) := by decide +kernel
theorem dX2_ahead_4 : decode cX2_ahead 4 = .ok (.aload_n 0, 1) := by decide +kernel
theorem dX2_ahead_5 : decode cX2_ahead 5 = .ok (.getfield 29, 3) := by decide +kernel
theorem dX2_ahead_8 : decode cX2_ahead 8 = .ok (.isub, 1) := by decide +kernel
theorem dX2_ahead_9 : decode cX2_ahead 9 = .ok (.ireturn, 1) := by decide +kernel
theorem dX2_hasMore_0 : decode cX2_hasMore 0 = .ok (.aload_n 0, 1) := by decide +kernel
theorem dX2_hasMore_1 : decode cX2_hasMore 1 = .ok (.invokevirtual 49, 3) := by decide +kernel
theorem dX2_hasMore_4 : decode cX2_hasMore 4 = .ok (.ifCond .ne 21, 3) := by decide +kernel
theorem dX2_hasMore_7 : decode cX2_hasMore 7 = .ok (.aload_n 0, 1) := by decide +kernel
theorem dX2_hasMore_8 : decode cX2_hasMore 8 = .ok (.invokevirtual 53, 3) := by decide +kernel
theorem dX2_hasMore_11 : decode cX2_hasMore 11 = .ok (.aload_n 0, 1) := by decide +kernel
theorem dX2_hasMore_12 : decode cX2_hasMore 12 = .ok (.getfield 9, 3) := by decide +kernel
theorem dX2_hasMore_15 : decode cX2_hasMore 15 = .ok (.getfield 57, 3) := by decide +kernel
theorem dX2_hasMore_18 : decode cX2_hasMore 18 = .ok (.if_icmp .ge 7, 3) := by decide +kernel
theorem dX2_hasMore_21 : decode cX2_hasMore 21 = .ok (.iconst 1, 1) := by decide +kernel
theorem dX2_hasMore_22 : decode cX2_hasMore 22 = .ok (.goto 4, 3) := by decide +kernel
theorem dX2_hasMore_25 : decode cX2_hasMore 25 = .ok (.iconst 0, 1) := by decide +kernel
theorem dX2_hasMore_26 : decode cX2_hasMore 26 = .ok (.ireturn, 1) := by decide +kernel
theorem dX2_canGiveAll_0 : decode cX2_canGiveAll 0 = .ok (.aload_n 0, 1) := by decide +kernel
theorem dX2_canGiveAll_1 : decode cX2_canGiveAll 1 = .ok (.invokevirtual 49, 3) := by decide +kernel
theorem dX2_canGiveAll_4 : decode cX2_canGiveAll 4 = .ok (.ifCond .ne 15, 3) := by decide +kernel
theorem dX2_canGiveAll_7 : decode cX2_canGiveAll 7 = .ok (.aload_n 0, 1) := by decide +kernel
theorem dX2_canGiveAll_8 : decode cX2_canGiveAll 8 = .ok (.getfield 19, 3) := by decide +kernel
theorem dX2_canGiveAll_11 : decode cX2_canGiveAll 11 = .ok (.iconst 1, 1) := by decide +kernel
theorem dX2_canGiveAll_12 : decode cX2_canGiveAll 12 = .ok (.if_icmp .eq 7, 3) := by decide +kernel
theorem dX2_canGiveAll_15 : decode cX2_canGiveAll 15 = .ok (.iconst 1, 1) := by decide +kernel
theorem dX2_canGiveAll_16 : decode cX2_canGiveAll 16 = .ok (.goto 4, 3) := by decide +kernel
theorem dX2_canGiveAll_19 : decode cX2_canGiveAll 19 = .ok (.iconst 0, 1) := by decide +kernel
theorem dX2_canGiveAll_20 : decode cX2_canGiveAll 20 = .ok (.ireturn, 1) := by decide +kernel
theorem dX2_canTakeOut_0 : decode cX2_canTakeOut 0 = .ok (.aload_n 0, 1) := by decide +kernel
theorem dX2_canTakeOut_1 : decode cX2_canTakeOut 1 = .ok (.getfield 46, 3) := by decide +kernel
theorem dX2_canTakeOut_4 : decode cX2_canTakeOut 4 = .ok (.ifCond .eq 21, 3) := by decide +kernel
theorem dX2_canTakeOut_7 : decode cX2_canTakeOut 7 = .ok (.aload_n 0, 1) := by decide +kernel
theorem dX2_canTakeOut_8 : decode cX2_canTakeOut 8 = .ok (.getfield 9, 3) := by decide +kernel
theorem dX2_canTakeOut_11 : decode cX2_canTakeOut 11 = .ok (.getfield 40, 3) := by decide +kernel
theorem dX2_canTakeOut_14 : decode cX2_canTakeOut 14 = .ok (.aload_n 0, 1) := by decide +kernel
theorem dX2_canTakeOut_15 : decode cX2_canTakeOut 15 = .ok (.getfield 43, 3) := by decide +kernel
theorem dX2_canTakeOut_18 : decode cX2_canTakeOut 18 = .ok (.if_icmp .ne 7, 3) := by decide +kernel
theorem dX2_canTakeOut_21 : decode cX2_canTakeOut 21 = .ok (.iconst 1, 1) := by decide +kernel
theorem dX2_canTakeOut_22 : decode cX2_canTakeOut 22 = .ok (.goto 4, 3) := by decide +kernel
theorem dX2_canTakeOut_25 : decode cX2_canTakeOut 25 = .ok (.iconst 0, 1) := by decide +kernel
theorem dX2_canTakeOut_26 : decode cX2_canTakeOut 26 = .ok (.ireturn, 1) := by decide +kernel
theorem dX2_give_0 : decode cX2_give 0 = .ok (.aload_n 0, 1) := by decide +kernel
theorem dX2_give_1 : decode cX2_give 1 = .ok (.getfield 9, 3) := by decide +kernel
theorem dX2_give_4 : decode cX2_give 4 = .ok (.aload_n 0, 1) := by decide +kernel
theorem dX2_give_5 : decode cX2_give 5 = .ok (.invokevirtual 53, 3) := by decide +kernel
theorem dX2_give_8 : decode cX2_give 8 = .ok (.invokevirtual 60, 3) := by decide +kernel
theorem dX2_give_11 : decode cX2_give 11 = .ok (.istore_n 1, 1) := by decide +kernel
theorem dX2_give_12 : decode cX2_give 12 = .ok (.aload_n 0, 1) := by decide +kernel
theorem dX2_give_13 : decode cX2_give 13 = .ok (.dup, 1) := by decide +kernel
theorem dX2_give_14 : decode cX2_give 14 = .ok (.getfield 26, 3) := by decide +kernel
theorem dX2_give_17 : decode cX2_give 17 = .ok (.iconst 1, 1) := by decide +kernel
theorem dX2_give_18 : decode cX2_give 18 = .ok (.iadd, 1) := by decide +kernel
theorem dX2_give_19 : decode cX2_give 19 = .ok (.putfield 26, 3) := by decide +kernel
theorem dX2_give_22 : decode cX2_give 22 = .ok (.aload_n 0, 1) := by decide +kernel
theorem dX2_give_23 : decode cX2_give 23 = .ok (.iconst 1, 1) := by decide +kernel
theorem dX2_give_24 : decode cX2_give 24 = .ok (.putfield 46, 3) := by decide +kernel
theorem dX2_give_27 : decode cX2_give 27 = .ok (.aload_n 0, 1) := by decide +kernel
theorem dX2_give_28 : decode cX2_give 28 = .ok (.aload_n 0, 1) := by decide +kernel
theorem dX2_give_29 : decode cX2_give 29 = .ok (.getfield 9, 3) := by decide +kernel
theorem dX2_give_32 : decode cX2_give 32 = .ok (.getfield 40, 3) := by decide +kernel
theorem dX2_give_35 : decode cX2_give 35 = .ok (.putfield 43, 3) := by decide +kernel
theorem dX2_give_38 : decode cX2_give 38 = .ok (.iload_n 1, 1) := by decide +kernel
theorem dX2_give_39 : decode cX2_give 39 = .ok (.ireturn, 1) := by decide +kernel
theorem dX2_giveUpTo_0 : decode cX2_giveUpTo 0 = .ok (.iconst 0, 1) := by decide +kernel
theorem dX2_giveUpTo_1 : decode cX2_giveUpTo 1 = .ok (.istore_n 2, 1) := by decide +kernel
theorem dX2_giveUpTo_2 : decode cX2_giveUpTo 2 = .ok (.iload_n 2, 1) := by decide +kernel
theorem dX2_giveUpTo_3 : decode cX2_giveUpTo 3 = .ok (.iload_n 1, 1) := by decide +kernel
theorem dX2_giveUpTo_4 : decode cX2_giveUpTo 4 = .ok (.if_icmp .ge 21, 3) := by decide +kernel
theorem dX2_giveUpTo_7 : decode cX2_giveUpTo 7 = .ok (.aload_n 0, 1) := by decide +kernel
theorem dX2_giveUpTo_8 : decode cX2_giveUpTo 8 = .ok (.invokevirtual 64, 3) := by decide +kernel
theorem dX2_giveUpTo_11 : decode cX2_giveUpTo 11 = .ok (.ifCond .eq 14, 3) := by decide +kernel
theorem dX2_giveUpTo_14 : decode cX2_giveUpTo 14 = .ok (.aload_n 0, 1) := by decide +kernel
theorem dX2_giveUpTo_15 : decode cX2_giveUpTo 15 = .ok (.invokevirtual 67, 3) := by decide +kernel
theorem dX2_giveUpTo_18 : decode cX2_giveUpTo 18 = .ok (.pop, 1) := by decide +kernel
theorem dX2_giveUpTo_19 : decode cX2_giveUpTo 19 = .ok (.iinc 2 1, 3) := by decide +kernel
theorem dX2_giveUpTo_22 : decode cX2_giveUpTo 22 = .ok (.goto (-20), 3) := by decide +kernel
theorem dX2_giveUpTo_25 : decode cX2_giveUpTo 25 = .ok (.iload_n 2, 1) := by decide +kernel
theorem dX2_giveUpTo_26 : decode cX2_giveUpTo 26 = .ok (.ireturn, 1) := by decide +kernel
theorem dX2_tookOut_0 : decode cX2_tookOut 0 = .ok (.aload_n 0, 1) := by decide +kernel
theorem dX2_tookOut_1 : decode cX2_tookOut 1 = .ok (.dup, 1) := by decide +kernel
theorem dX2_tookOut_2 : decode cX2_tookOut 2 = .ok (.getfield 29, 3) := by decide +kernel
theorem dX2_tookOut_5 : decode cX2_tookOut 5 = .ok (.iconst 1, 1) := by decide +kernel
theorem dX2_tookOut_6 : decode cX2_tookOut 6 = .ok (.iadd, 1) := by decide +kernel
theorem dX2_tookOut_7 : decode cX2_tookOut 7 = .ok (.putfield 29, 3) := by decide +kernel
theorem dX2_tookOut_10 : decode cX2_tookOut 10 = .ok (.aload_n 0, 1) := by decide +kernel
theorem dX2_tookOut_11 : decode cX2_tookOut 11 = .ok (.iconst 0, 1) := by decide +kernel
theorem dX2_tookOut_12 : decode cX2_tookOut 12 = .ok (.putfield 46, 3) := by decide +kernel
theorem dX2_tookOut_15 : decode cX2_tookOut 15 = .ok (.aload_n 0, 1) := by decide +kernel
theorem dX2_tookOut_16 : decode cX2_tookOut 16 = .ok (.aload_n 0, 1) := by decide +kernel
theorem dX2_tookOut_17 : decode cX2_tookOut 17 = .ok (.getfield 9, 3) := by decide +kernel
theorem dX2_tookOut_20 : decode cX2_tookOut 20 = .ok (.getfield 32, 3) := by decide +kernel
theorem dX2_tookOut_23 : decode cX2_tookOut 23 = .ok (.putfield 37, 3) := by decide +kernel
theorem dX2_tookOut_26 : decode cX2_tookOut 26 = .ok (.return_, 1) := by decide +kernel
theorem dX3_init_0 : decode cX3_init 0 = .ok (.aload_n 0, 1) := by decide +kernel
theorem dX3_init_1 : decode cX3_init 1 = .ok (.invokespecial 1, 3) := by decide +kernel
theorem dX3_init_4 : decode cX3_init 4 = .ok (.aload_n 0, 1) := by decide +kernel
theorem dX3_init_5 : decode cX3_init 5 = .ok (.bipush 11, 2) := by decide +kernel
theorem dX3_init_7 : decode cX3_init 7 = .ok (.anewarray 7, 3) := by decide +kernel
theorem dX3_init_10 : decode cX3_init 10 = .ok (.dup, 1) := by decide +kernel
theorem dX3_init_11 : decode cX3_init 11 = .ok (.iconst 0, 1) := by decide +kernel
theorem dX3_init_12 : decode cX3_init 12 = .ok (.new 7, 3) := by decide +kernel
theorem dX3_init_15 : decode cX3_init 15 = .ok (.dup, 1) := by decide +kernel
theorem dX3_init_16 : decode cX3_init 16 = .ok (.getstatic 9, 3) := by decide +kernel
theorem dX3_init_19 : decode cX3_init 19 = .ok (.invokespecial 15, 3) := by decide +kernel
theorem dX3_init_22 : decode cX3_init 22 = .ok (.aastore, 1) := by decide +kernel
theorem dX3_init_23 : decode cX3_init 23 = .ok (.dup, 1) := by decide +kernel
theorem dX3_init_24 : decode cX3_init 24 = .ok (.iconst 1, 1) := by decide +kernel
theorem dX3_init_25 : decode cX3_init 25 = .ok (.new 7, 3) := by decide +kernel
theorem dX3_init_28 : decode cX3_init 28 = .ok (.dup, 1) := by decide +kernel
theorem dX3_init_29 : decode cX3_init 29 = .ok (.getstatic 9, 3) := by decide +kernel
theorem dX3_init_32 : decode cX3_init 32 = .ok (.invokespecial 15, 3) := by decide +kernel
theorem dX3_init_35 : decode cX3_init 35 = .ok (.aastore, 1) := by decide +kernel
theorem dX3_init_36 : decode cX3_init 36 = .ok (.dup, 1) := by decide +kernel
theorem dX3_init_37 : decode cX3_init 37 = .ok (.iconst 2, 1) := by decide +kernel
theorem dX3_init_38 : decode cX3_init 38 = .ok (.new 7, 3) := by decide +kernel
theorem dX3_init_41 : decode cX3_init 41 = .ok (.dup, 1) := by decide +kernel
theorem dX3_init_42 : decode cX3_init 42 = .ok (.getstatic 9, 3) := by decide +kernel
theorem dX3_init_45 : decode cX3_init 45 = .ok (.invokespecial 15, 3) := by decide +kernel
theorem dX3_init_48 : decode cX3_init 48 = .ok (.aastore, 1) := by decide +kernel
theorem dX3_init_49 : decode cX3_init 49 = .ok (.dup, 1) := by decide +kernel
theorem dX3_init_50 : decode cX3_init 50 = .ok (.iconst 3, 1) := by decide +kernel
theorem dX3_init_51 : decode cX3_init 51 = .ok (.new 7, 3) := by decide +kernel
theorem dX3_init_54 : decode cX3_init 54 = .ok (.dup, 1) := by decide +kernel
theorem dX3_init_55 : decode cX3_init 55 = .ok (.getstatic 18, 3) := by decide +kernel
theorem dX3_init_58 : decode cX3_init 58 = .ok (.invokespecial 15, 3) := by decide +kernel
theorem dX3_init_61 : decode cX3_init 61 = .ok (.aastore, 1) := by decide +kernel
theorem dX3_init_62 : decode cX3_init 62 = .ok (.dup, 1) := by decide +kernel
theorem dX3_init_63 : decode cX3_init 63 = .ok (.iconst 4, 1) := by decide +kernel
theorem dX3_init_64 : decode cX3_init 64 = .ok (.new 7, 3) := by decide +kernel
theorem dX3_init_67 : decode cX3_init 67 = .ok (.dup, 1) := by decide +kernel
theorem dX3_init_68 : decode cX3_init 68 = .ok (.getstatic 21, 3) := by decide +kernel
theorem dX3_init_71 : decode cX3_init 71 = .ok (.invokespecial 15, 3) := by decide +kernel
theorem dX3_init_74 : decode cX3_init 74 = .ok (.aastore, 1) := by decide +kernel
theorem dX3_init_75 : decode cX3_init 75 = .ok (.dup, 1) := by decide +kernel
theorem dX3_init_76 : decode cX3_init 76 = .ok (.iconst 5, 1) := by decide +kernel
theorem dX3_init_77 : decode cX3_init 77 = .ok (.new 7, 3) := by decide +kernel
theorem dX3_init_80 : decode cX3_init 80 = .ok (.dup, 1) := by decide +kernel
theorem dX3_init_81 : decode cX3_init 81 = .ok (.getstatic 24, 3) := by decide +kernel
theorem dX3_init_84 : decode cX3_init 84 = .ok (.invokespecial 15, 3) := by decide +kernel
theorem dX3_init_87 : decode cX3_init 87 = .ok (.aastore, 1) := by decide +kernel
theorem dX3_init_88 : decode cX3_init 88 = .ok (.dup, 1) := by decide +kernel
theorem dX3_init_89 : decode cX3_init 89 = .ok (.bipush 6, 2) := by decide +kernel
theorem dX3_init_91 : decode cX3_init 91 = .ok (.new 7, 3) := by decide +kernel
theorem dX3_init_94 : decode cX3_init 94 = .ok (.dup, 1) := by decide +kernel
theorem dX3_init_95 : decode cX3_init 95 = .ok (.getstatic 27, 3) := by decide +kernel
theorem dX3_init_98 : decode cX3_init 98 = .ok (.invokespecial 15, 3) := by decide +kernel
theorem dX3_init_101 : decode cX3_init 101 = .ok (.aastore, 1) := by decide +kernel
theorem dX3_init_102 : decode cX3_init 102 = .ok (.dup, 1) := by decide +kernel
theorem dX3_init_103 : decode cX3_init 103 = .ok (.bipush 7, 2) := by decide +kernel
theorem dX3_init_105 : decode cX3_init 105 = .ok (.new 7, 3) := by decide +kernel
theorem dX3_init_108 : decode cX3_init 108 = .ok (.dup, 1) := by decide +kernel
theorem dX3_init_109 : decode cX3_init 109 = .ok (.getstatic 27, 3) := by decide +kernel
theorem dX3_init_112 : decode cX3_init 112 = .ok (.invokespecial 15, 3) := by decide +kernel
theorem dX3_init_115 : decode cX3_init 115 = .ok (.aastore, 1) := by decide +kernel
theorem dX3_init_116 : decode cX3_init 116 = .ok (.dup, 1) := by decide +kernel
theorem dX3_init_117 : decode cX3_init 117 = .ok (.bipush 8, 2) := by decide +kernel
theorem dX3_init_119 : decode cX3_init 119 = .ok (.new 7, 3) := by decide +kernel
theorem dX3_init_122 : decode cX3_init 122 = .ok (.dup, 1) := by decide +kernel
theorem dX3_init_123 : decode cX3_init 123 = .ok (.getstatic 9, 3) := by decide +kernel
theorem dX3_init_126 : decode cX3_init 126 = .ok (.invokespecial 15, 3) := by decide +kernel
theorem dX3_init_129 : decode cX3_init 129 = .ok (.aastore, 1) := by decide +kernel
theorem dX3_init_130 : decode cX3_init 130 = .ok (.dup, 1) := by decide +kernel
theorem dX3_init_131 : decode cX3_init 131 = .ok (.bipush 9, 2) := by decide +kernel
theorem dX3_init_133 : decode cX3_init 133 = .ok (.new 7, 3) := by decide +kernel
theorem dX3_init_136 : decode cX3_init 136 = .ok (.dup, 1) := by decide +kernel
theorem dX3_init_137 : decode cX3_init 137 = .ok (.getstatic 9, 3) := by decide +kernel
theorem dX3_init_140 : decode cX3_init 140 = .ok (.invokespecial 15, 3) := by decide +kernel
theorem dX3_init_143 : decode cX3_init 143 = .ok (.aastore, 1) := by decide +kernel
theorem dX3_init_144 : decode cX3_init 144 = .ok (.dup, 1) := by decide +kernel
theorem dX3_init_145 : decode cX3_init 145 = .ok (.bipush 10, 2) := by decide +kernel
theorem dX3_init_147 : decode cX3_init 147 = .ok (.new 7, 3) := by decide +kernel
theorem dX3_init_150 : decode cX3_init 150 = .ok (.dup, 1) := by decide +kernel
theorem dX3_init_151 : decode cX3_init 151 = .ok (.getstatic 9, 3) := by decide +kernel
theorem dX3_init_154 : decode cX3_init 154 = .ok (.invokespecial 15, 3) := by decide +kernel
theorem dX3_init_157 : decode cX3_init 157 = .ok (.aastore, 1) := by decide +kernel
theorem dX3_init_158 : decode cX3_init 158 = .ok (.putfield 30, 3) := by decide +kernel
theorem dX3_init_161 : decode cX3_init 161 = .ok (.aload_n 0, 1) := by decide +kernel
theorem dX3_init_162 : decode cX3_init 162 = .ok (.bipush 6, 2) := by decide +kernel
theorem dX3_init_164 : decode cX3_init 164 = .ok (.anewarray 36, 3) := by decide +kernel
theorem dX3_init_167 : decode cX3_init 167 = .ok (.putfield 38, 3) := by decide +kernel
theorem dX3_init_170 : decode cX3_init 170 = .ok (.iconst 0, 1) := by decide +kernel
theorem dX3_init_171 : decode cX3_init 171 = .ok (.istore_n 1, 1) := by decide +kernel
theorem dX3_init_172 : decode cX3_init 172 = .ok (.iload_n 1, 1) := by decide +kernel
theorem dX3_init_173 : decode cX3_init 173 = .ok (.bipush 6, 2) := by decide +kernel
theorem dX3_init_175 : decode cX3_init 175 = .ok (.if_icmp .ge 28, 3) := by decide +kernel
theorem dX3_init_178 : decode cX3_init 178 = .ok (.aload_n 0, 1) := by decide +kernel
theorem dX3_init_179 : decode cX3_init 179 = .ok (.getfield 38, 3) := by decide +kernel
theorem dX3_init_182 : decode cX3_init 182 = .ok (.iload_n 1, 1) := by decide +kernel
theorem dX3_init_183 : decode cX3_init 183 = .ok (.new 36, 3) := by decide +kernel
theorem dX3_init_186 : decode cX3_init 186 = .ok (.dup, 1) := by decide +kernel
theorem dX3_init_187 : decode cX3_init 187 = .ok (.aload_n 0, 1) := by decide +kernel
theorem dX3_init_188 : decode cX3_init 188 = .ok (.getfield 30, 3) := by decide +kernel
theorem dX3_init_191 : decode cX3_init 191 = .ok (.iconst 0, 1) := by decide +kernel
theorem dX3_init_192 : decode cX3_init 192 = .ok (.aaload, 1) := by decide +kernel
theorem dX3_init_193 : decode cX3_init 193 = .ok (.invokespecial 42, 3) := by decide +kernel
theorem dX3_init_196 : decode cX3_init 196 = .ok (.aastore, 1) := by decide +kernel
theorem dX3_init_197 : decode cX3_init 197 = .ok (.iinc 1 1, 3) := by decide +kernel
theorem dX3_init_200 : decode cX3_init 200 = .ok (.goto (-28), 3) := by decide +kernel
theorem dX3_init_203 : decode cX3_init 203 = .ok (.aload_n 0, 1) := by decide +kernel
theorem dX3_init_204 : decode cX3_init 204 = .ok (.new 36, 3) := by decide +kernel
theorem dX3_init_207 : decode cX3_init 207 = .ok (.dup, 1) := by decide +kernel
theorem dX3_init_208 : decode cX3_init 208 = .ok (.aload_n 0, 1) := by decide +kernel
theorem dX3_init_209 : decode cX3_init 209 = .ok (.getfield 30, 3) := by decide +kernel
theorem dX3_init_212 : decode cX3_init 212 = .ok (.iconst 0, 1) := by decide +kernel
theorem dX3_init_213 : decode cX3_init 213 = .ok (.aaload, 1) := by decide +kernel
theorem dX3_init_214 : decode cX3_init 214 = .ok (.invokespecial 42, 3) := by decide +kernel
theorem dX3_init_217 : decode cX3_init 217 = .ok (.putfield 45, 3) := by decide +kernel
theorem dX3_init_220 : decode cX3_init 220 = .ok (.aload_n 0, 1) := by decide +kernel
theorem dX3_init_221 : decode cX3_init 221 = .ok (.new 36, 3) := by decide +kernel
theorem dX3_init_224 : decode cX3_init 224 = .ok (.dup, 1) := by decide +kernel
theorem dX3_init_225 : decode cX3_init 225 = .ok (.aload_n 0, 1) := by decide +kernel
theorem dX3_init_226 : decode cX3_init 226 = .ok (.getfield 30, 3) := by decide +kernel
theorem dX3_init_229 : decode cX3_init 229 = .ok (.iconst 0, 1) := by decide +kernel
theorem dX3_init_230 : decode cX3_init 230 = .ok (.aaload, 1) := by decide +kernel
theorem dX3_init_231 : decode cX3_init 231 = .ok (.invokespecial 42, 3) := by decide +kernel
theorem dX3_init_234 : decode cX3_init 234 = .ok (.putfield 49, 3) := by decide +kernel
theorem dX3_init_237 : decode cX3_init 237 = .ok (.aload_n 0, 1) := by decide +kernel
theorem dX3_init_238 : decode cX3_init 238 = .ok (.new 7, 3) := by decide +kernel
theorem dX3_init_241 : decode cX3_init 241 = .ok (.dup, 1) := by decide +kernel
theorem dX3_init_242 : decode cX3_init 242 = .ok (.getstatic 9, 3) := by decide +kernel
theorem dX3_init_245 : decode cX3_init 245 = .ok (.invokespecial 15, 3) := by decide +kernel
theorem dX3_init_248 : decode cX3_init 248 = .ok (.putfield 52, 3) := by decide +kernel
theorem dX3_init_251 : decode cX3_init 251 = .ok (.return_, 1) := by decide +kernel
theorem dX3_put_0 : decode cX3_put 0 = .ok (.aload_n 0, 1) := by decide +kernel
theorem dX3_put_1 : decode cX3_put 1 = .ok (.iload_n 1, 1) := by decide +kernel
theorem dX3_put_2 : decode cX3_put 2 = .ok (.invokevirtual 56, 3) := by decide +kernel
theorem dX3_put_5 : decode cX3_put 5 = .ok (.astore_n 3, 1) := by decide +kernel
theorem dX3_put_6 : decode cX3_put 6 = .ok (.iload_n 2, 1) := by decide +kernel
theorem dX3_put_7 : decode cX3_put 7 = .ok (.invokestatic 60, 3) := by decide +kernel
theorem dX3_put_10 : decode cX3_put 10 = .ok (.aload_n 3, 1) := by decide +kernel
theorem dX3_put_11 : decode cX3_put 11 = .ok (.iconst 1, 1) := by decide +kernel
theorem dX3_put_12 : decode cX3_put 12 = .ok (.invokestatic 64, 3) := by decide +kernel
theorem dX3_put_15 : decode cX3_put 15 = .ok (.aload_n 3, 1) := by decide +kernel
theorem dX3_put_16 : decode cX3_put 16 = .ok (.invokevirtual 68, 3) := by decide +kernel
theorem dX3_put_19 : decode cX3_put 19 = .ok (.ifCond .ne 11, 3) := by decide +kernel
theorem dX3_put_22 : decode cX3_put 22 = .ok (.aload_n 3, 1) := by decide +kernel
theorem dX3_put_23 : decode cX3_put 23 = .ok (.iload_n 2, 1) := by decide +kernel
theorem dX3_put_24 : decode cX3_put 24 = .ok (.invokevirtual 72, 3) := by decide +kernel
theorem dX3_put_27 : decode cX3_put 27 = .ok (.ifCond .ne 8, 3) := by decide +kernel
theorem dX3_put_30 : decode cX3_put 30 = .ok (.aload_n 0, 1) := by decide +kernel
theorem dX3_put_31 : decode cX3_put 31 = .ok (.invokevirtual 76, 3) := by decide +kernel
theorem dX3_put_34 : decode cX3_put 34 = .ok (.ireturn, 1) := by decide +kernel
theorem dX3_put_35 : decode cX3_put 35 = .ok (.aload_n 3, 1) := by decide +kernel
theorem dX3_put_36 : decode cX3_put 36 = .ok (.iload_n 2, 1) := by decide +kernel
theorem dX3_put_37 : decode cX3_put 37 = .ok (.invokevirtual 80, 3) := by decide +kernel
theorem dX3_put_40 : decode cX3_put 40 = .ok (.invokestatic 83, 3) := by decide +kernel
theorem dX3_put_43 : decode cX3_put 43 = .ok (.ireturn, 1) := by decide +kernel
theorem dX3_putAll_0 : decode cX3_putAll 0 = .ok (.aload_n 0, 1) := by decide +kernel
theorem dX3_putAll_1 : decode cX3_putAll 1 = .ok (.iload_n 1, 1) := by decide +kernel
theorem dX3_putAll_2 : decode cX3_putAll 2 = .ok (.invokevirtual 56, 3) := by decide +kernel
theorem dX3_putAll_5 : decode cX3_putAll 5 = .ok (.astore 6, 2) := by decide +kernel
theorem dX3_putAll_7 : decode cX3_putAll 7 = .ok (.iload_n 2, 1) := by decide +kernel
theorem dX3_putAll_8 : decode cX3_putAll 8 = .ok (.invokestatic 87, 3) := by decide +kernel
theorem dX3_putAll_11 : decode cX3_putAll 11 = .ok (.iload_n 3, 1) := by decide +kernel
theorem dX3_putAll_12 : decode cX3_putAll 12 = .ok (.invokestatic 87, 3) := by decide +kernel
theorem dX3_putAll_15 : decode cX3_putAll 15 = .ok (.iload 4, 2) := by decide +kernel
theorem dX3_putAll_17 : decode cX3_putAll 17 = .ok (.invokestatic 87, 3) := by decide +kernel
theorem dX3_putAll_20 : decode cX3_putAll 20 = .ok (.iload 5, 2) := by decide +kernel
theorem dX3_putAll_22 : decode cX3_putAll 22 = .ok (.invokestatic 87, 3) := by decide +kernel
theorem dX3_putAll_25 : decode cX3_putAll 25 = .ok (.iload_n 2, 1) := by decide +kernel
theorem dX3_putAll_26 : decode cX3_putAll 26 = .ok (.iload_n 3, 1) := by decide +kernel
theorem dX3_putAll_27 : decode cX3_putAll 27 = .ok (.iload 4, 2) := by decide +kernel
theorem dX3_putAll_29 : decode cX3_putAll 29 = .ok (.iload 5, 2) := by decide +kernel
theorem dX3_putAll_31 : decode cX3_putAll 31 = .ok (.invokestatic 90, 3) := by decide +kernel
theorem dX3_putAll_34 : decode cX3_putAll 34 = .ok (.istore 7, 2) := by decide +kernel
theorem dX3_putAll_36 : decode cX3_putAll 36 = .ok (.aload 6, 2) := by decide +kernel
theorem dX3_putAll_38 : decode cX3_putAll 38 = .ok (.iload 7, 2) := by decide +kernel
theorem dX3_putAll_40 : decode cX3_putAll 40 = .ok (.invokestatic 64, 3) := by decide +kernel
theorem dX3_putAll_43 : decode cX3_putAll 43 = .ok (.aload 6, 2) := by decide +kernel
theorem dX3_putAll_45 : decode cX3_putAll 45 = .ok (.invokevirtual 68, 3) := by decide +kernel
theorem dX3_putAll_48 : decode cX3_putAll 48 = .ok (.ifCond .eq 8, 3) := by decide +kernel
theorem dX3_putAll_51 : decode cX3_putAll 51 = .ok (.aload_n 0, 1) := by decide +kernel
theorem dX3_putAll_52 : decode cX3_putAll 52 = .ok (.invokevirtual 76, 3) := by decide +kernel
theorem dX3_putAll_55 : decode cX3_putAll 55 = .ok (.ireturn, 1) := by decide +kernel
theorem dX3_putAll_56 : decode cX3_putAll 56 = .ok (.iconst 0, 1) := by decide +kernel
theorem dX3_putAll_57 : decode cX3_putAll 57 = .ok (.istore 8, 2) := by decide +kernel
theorem dX3_putAll_59 : decode cX3_putAll 59 = .ok (.iload 8, 2) := by decide +kernel
theorem dX3_putAll_61 : decode cX3_putAll 61 = .ok (.iload 7, 2) := by decide +kernel
theorem dX3_putAll_63 : decode cX3_putAll 63 = .ok (.if_icmp .ge 33, 3) := by decide +kernel
theorem dX3_putAll_66 : decode cX3_putAll 66 = .ok (.aload 6, 2) := by decide +kernel
theorem dX3_putAll_68 : decode cX3_putAll 68 = .ok (.iload 8, 2) := by decide +kernel
theorem dX3_putAll_70 : decode cX3_putAll 70 = .ok (.iload_n 2, 1) := by decide +kernel
theorem dX3_putAll_71 : decode cX3_putAll 71 = .ok (.iload_n 3, 1) := by decide +kernel
theorem dX3_putAll_72 : decode cX3_putAll 72 = .ok (.iload 4, 2) := by decide +kernel
theorem dX3_putAll_74 : decode cX3_putAll 74 = .ok (.iload 5, 2) := by decide +kernel
theorem dX3_putAll_76 : decode cX3_putAll 76 = .ok (.invokestatic 94, 3) := by decide +kernel
theorem dX3_putAll_79 : decode cX3_putAll 79 = .ok (.invokevirtual 72, 3) := by decide +kernel
theorem dX3_putAll_82 : decode cX3_putAll 82 = .ok (.ifCond .ne 8, 3) := by decide +kernel
theorem dX3_putAll_85 : decode cX3_putAll 85 = .ok (.aload_n 0, 1) := by decide +kernel
theorem dX3_putAll_86 : decode cX3_putAll 86 = .ok (.invokevirtual 76, 3) := by decide +kernel
theorem dX3_putAll_89 : decode cX3_putAll 89 = .ok (.ireturn, 1) := by decide +kernel
theorem dX3_putAll_90 : decode cX3_putAll 90 = .ok (.iinc 8 1, 3) := by decide +kernel
theorem dX3_putAll_93 : decode cX3_putAll 93 = .ok (.goto (-34), 3) := by decide +kernel
theorem dX3_putAll_96 : decode cX3_putAll 96 = .ok (.iconst 0, 1) := by decide +kernel
theorem dX3_putAll_97 : decode cX3_putAll 97 = .ok (.istore 8, 2) := by decide +kernel
theorem dX3_putAll_99 : decode cX3_putAll 99 = .ok (.iconst 0, 1) := by decide +kernel
theorem dX3_putAll_100 : decode cX3_putAll 100 = .ok (.istore 9, 2) := by decide +kernel
theorem dX3_putAll_102 : decode cX3_putAll 102 = .ok (.iload 9, 2) := by decide +kernel
theorem dX3_putAll_104 : decode cX3_putAll 104 = .ok (.iload 7, 2) := by decide +kernel
theorem dX3_putAll_106 : decode cX3_putAll 106 = .ok (.if_icmp .ge 31, 3) := by decide +kernel
theorem dX3_putAll_109 : decode cX3_putAll 109 = .ok (.aload 6, 2) := by decide +kernel
theorem dX3_putAll_111 : decode cX3_putAll 111 = .ok (.iload 9, 2) := by decide +kernel
theorem dX3_putAll_113 : decode cX3_putAll 113 = .ok (.iload_n 2, 1) := by decide +kernel
theorem dX3_putAll_114 : decode cX3_putAll 114 = .ok (.iload_n 3, 1) := by decide +kernel
theorem dX3_putAll_115 : decode cX3_putAll 115 = .ok (.iload 4, 2) := by decide +kernel
theorem dX3_putAll_117 : decode cX3_putAll 117 = .ok (.iload 5, 2) := by decide +kernel
theorem dX3_putAll_119 : decode cX3_putAll 119 = .ok (.invokestatic 94, 3) := by decide +kernel
theorem dX3_putAll_122 : decode cX3_putAll 122 = .ok (.invokevirtual 80, 3) := by decide +kernel
theorem dX3_putAll_125 : decode cX3_putAll 125 = .ok (.ifCond .eq 6, 3) := by decide +kernel
theorem dX3_putAll_128 : decode cX3_putAll 128 = .ok (.iconst 1, 1) := by decide +kernel
theorem dX3_putAll_129 : decode cX3_putAll 129 = .ok (.istore 8, 2) := by decide +kernel
theorem dX3_putAll_131 : decode cX3_putAll 131 = .ok (.iinc 9 1, 3) := by decide +kernel
theorem dX3_putAll_134 : decode cX3_putAll 134 = .ok (.goto (-32), 3) := by decide +kernel
theorem dX3_putAll_137 : decode cX3_putAll 137 = .ok (.iload 8, 2) := by decide +kernel
theorem dX3_putAll_139 : decode cX3_putAll 139 = .ok (.invokestatic 83, 3) := by decide +kernel
theorem dX3_putAll_142 : decode cX3_putAll 142 = .ok (.ireturn, 1) := by decide +kernel
theorem dX3_take_0 : decode cX3_take 0 = .ok (.aload_n 0, 1) := by decide +kernel
theorem dX3_take_1 : decode cX3_take 1 = .ok (.iload_n 1, 1) := by decide +kernel
theorem dX3_take_2 : decode cX3_take 2 = .ok (.invokevirtual 56, 3) := by decide +kernel
theorem dX3_take_5 : decode cX3_take 5 = .ok (.astore_n 3, 1) := by decide +kernel
theorem dX3_take_6 : decode cX3_take 6 = .ok (.iload_n 2, 1) := by decide +kernel
theorem dX3_take_7 : decode cX3_take 7 = .ok (.invokestatic 60, 3) := by decide +kernel
theorem dX3_take_10 : decode cX3_take 10 = .ok (.aload_n 3, 1) := by decide +kernel
theorem dX3_take_11 : decode cX3_take 11 = .ok (.iload_n 2, 1) := by decide +kernel
theorem dX3_take_12 : decode cX3_take 12 = .ok (.invokevirtual 72, 3) := by decide +kernel
theorem dX3_take_15 : decode cX3_take 15 = .ok (.ifCond .ne 8, 3) := by decide +kernel
theorem dX3_take_18 : decode cX3_take 18 = .ok (.aload_n 0, 1) := by decide +kernel
theorem dX3_take_19 : decode cX3_take 19 = .ok (.invokevirtual 76, 3) := by decide +kernel
theorem dX3_take_22 : decode cX3_take 22 = .ok (.ireturn, 1) := by decide +kernel
theorem dX3_take_23 : decode cX3_take 23 = .ok (.aload_n 3, 1) := by decide +kernel
theorem dX3_take_24 : decode cX3_take 24 = .ok (.iload_n 2, 1) := by decide +kernel
theorem dX3_take_25 : decode cX3_take 25 = .ok (.invokevirtual 98, 3) := by decide +kernel
theorem dX3_take_28 : decode cX3_take 28 = .ok (.istore 4, 2) := by decide +kernel
theorem dX3_take_30 : decode cX3_take 30 = .ok (.iload 4, 2) := by decide +kernel
theorem dX3_take_32 : decode cX3_take 32 = .ok (.iconst (-1), 1) := by decide +kernel
theorem dX3_take_33 : decode cX3_take 33 = .ok (.if_icmp .ne 5, 3) := by decide +kernel
theorem dX3_take_36 : decode cX3_take 36 = .ok (.iconst 0, 1) := by decide +kernel
theorem dX3_take_37 : decode cX3_take 37 = .ok (.ireturn, 1) := by decide +kernel
theorem dX3_take_38 : decode cX3_take 38 = .ok (.aload_n 0, 1) := by decide +kernel
theorem dX3_take_39 : decode cX3_take 39 = .ok (.aload_n 3, 1) := by decide +kernel
theorem dX3_take_40 : decode cX3_take 40 = .ok (.iload 4, 2) := by decide +kernel
theorem dX3_take_42 : decode cX3_take 42 = .ok (.invokevirtual 102, 3) := by decide +kernel
theorem dX3_take_45 : decode cX3_take 45 = .ok (.iconst 1, 1) := by decide +kernel
theorem dX3_take_46 : decode cX3_take 46 = .ok (.ireturn, 1) := by decide +kernel
theorem dX3_clear_0 : decode cX3_clear 0 = .ok (.aload_n 0, 1) := by decide +kernel
theorem dX3_clear_1 : decode cX3_clear 1 = .ok (.iload_n 1, 1) := by decide +kernel
theorem dX3_clear_2 : decode cX3_clear 2 = .ok (.invokevirtual 56, 3) := by decide +kernel
theorem dX3_clear_5 : decode cX3_clear 5 = .ok (.astore_n 2, 1) := by decide +kernel
theorem dX3_clear_6 : decode cX3_clear 6 = .ok (.aload_n 2, 1) := by decide +kernel
theorem dX3_clear_7 : decode cX3_clear 7 = .ok (.getfield 105, 3) := by decide +kernel
theorem dX3_clear_10 : decode cX3_clear 10 = .ok (.istore_n 3, 1) := by decide +kernel
theorem dX3_clear_11 : decode cX3_clear 11 = .ok (.aload_n 2, 1) := by decide +kernel
theorem dX3_clear_12 : decode cX3_clear 12 = .ok (.invokevirtual 68, 3) := by decide +kernel
theorem dX3_clear_15 : decode cX3_clear 15 = .ok (.ifCond .eq 26, 3) := by decide +kernel
theorem dX3_clear_18 : decode cX3_clear 18 = .ok (.aload_n 0, 1) := by decide +kernel
theorem dX3_clear_19 : decode cX3_clear 19 = .ok (.getfield 30, 3) := by decide +kernel
theorem dX3_clear_22 : decode cX3_clear 22 = .ok (.bipush 6, 2) := by decide +kernel
theorem dX3_clear_24 : decode cX3_clear 24 = .ok (.aaload, 1) := by decide +kernel
theorem dX3_clear_25 : decode cX3_clear 25 = .ok (.invokevirtual 109, 3) := by decide +kernel
theorem dX3_clear_28 : decode cX3_clear 28 = .ok (.aload_n 0, 1) := by decide +kernel
theorem dX3_clear_29 : decode cX3_clear 29 = .ok (.getfield 30, 3) := by decide +kernel
theorem dX3_clear_32 : decode cX3_clear 32 = .ok (.bipush 7, 2) := by decide +kernel
theorem dX3_clear_34 : decode cX3_clear 34 = .ok (.aaload, 1) := by decide +kernel
theorem dX3_clear_35 : decode cX3_clear 35 = .ok (.invokevirtual 109, 3) := by decide +kernel
theorem dX3_clear_38 : decode cX3_clear 38 = .ok (.goto 7, 3) := by decide +kernel
theorem dX3_clear_41 : decode cX3_clear 41 = .ok (.aload_n 2, 1) := by decide +kernel
theorem dX3_clear_42 : decode cX3_clear 42 = .ok (.invokevirtual 109, 3) := by decide +kernel
theorem dX3_clear_45 : decode cX3_clear 45 = .ok (.iload_n 3, 1) := by decide +kernel
theorem dX3_clear_46 : decode cX3_clear 46 = .ok (.ireturn, 1) := by decide +kernel
theorem dX3_pair_0 : decode cX3_pair 0 = .ok (.iload_n 1, 1) := by decide +kernel
theorem dX3_pair_1 : decode cX3_pair 1 = .ok (.invokestatic 112, 3) := by decide +kernel
theorem dX3_pair_4 : decode cX3_pair 4 = .ok (.iload_n 2, 1) := by decide +kernel
theorem dX3_pair_5 : decode cX3_pair 5 = .ok (.invokestatic 112, 3) := by decide +kernel
theorem dX3_pair_8 : decode cX3_pair 8 = .ok (.aload_n 0, 1) := by decide +kernel
theorem dX3_pair_9 : decode cX3_pair 9 = .ok (.getfield 30, 3) := by decide +kernel
theorem dX3_pair_12 : decode cX3_pair 12 = .ok (.bipush 6, 2) := by decide +kernel
theorem dX3_pair_14 : decode cX3_pair 14 = .ok (.aaload, 1) := by decide +kernel
theorem dX3_pair_15 : decode cX3_pair 15 = .ok (.astore_n 3, 1) := by decide +kernel
theorem dX3_pair_16 : decode cX3_pair 16 = .ok (.aload_n 0, 1) := by decide +kernel
theorem dX3_pair_17 : decode cX3_pair 17 = .ok (.getfield 30, 3) := by decide +kernel
theorem dX3_pair_20 : decode cX3_pair 20 = .ok (.bipush 7, 2) := by decide +kernel
theorem dX3_pair_22 : decode cX3_pair 22 = .ok (.aaload, 1) := by decide +kernel
theorem dX3_pair_23 : decode cX3_pair 23 = .ok (.astore 4, 2) := by decide +kernel
theorem dX3_pair_25 : decode cX3_pair 25 = .ok (.aload_n 3, 1) := by decide +kernel
theorem dX3_pair_26 : decode cX3_pair 26 = .ok (.iload_n 1, 1) := by decide +kernel
theorem dX3_pair_27 : decode cX3_pair 27 = .ok (.invokevirtual 98, 3) := by decide +kernel
theorem dX3_pair_30 : decode cX3_pair 30 = .ok (.istore 5, 2) := by decide +kernel
theorem dX3_pair_32 : decode cX3_pair 32 = .ok (.iload 5, 2) := by decide +kernel
theorem dX3_pair_34 : decode cX3_pair 34 = .ok (.iconst (-1), 1) := by decide +kernel
theorem dX3_pair_35 : decode cX3_pair 35 = .ok (.if_icmp .eq 12, 3) := by decide +kernel
theorem dX3_pair_38 : decode cX3_pair 38 = .ok (.aload 4, 2) := by decide +kernel
theorem dX3_pair_40 : decode cX3_pair 40 = .ok (.iload 5, 2) := by decide +kernel
theorem dX3_pair_42 : decode cX3_pair 42 = .ok (.iload_n 2, 1) := by decide +kernel
theorem dX3_pair_43 : decode cX3_pair 43 = .ok (.invokevirtual 115, 3) := by decide +kernel
theorem dX3_pair_46 : decode cX3_pair 46 = .ok (.ireturn, 1) := by decide +kernel
theorem dX3_pair_47 : decode cX3_pair 47 = .ok (.aload_n 3, 1) := by decide +kernel
theorem dX3_pair_48 : decode cX3_pair 48 = .ok (.iconst 1, 1) := by decide +kernel
theorem dX3_pair_49 : decode cX3_pair 49 = .ok (.invokestatic 64, 3) := by decide +kernel
theorem dX3_pair_52 : decode cX3_pair 52 = .ok (.aload_n 3, 1) := by decide +kernel
theorem dX3_pair_53 : decode cX3_pair 53 = .ok (.iload_n 1, 1) := by decide +kernel
theorem dX3_pair_54 : decode cX3_pair 54 = .ok (.invokevirtual 119, 3) := by decide +kernel
theorem dX3_pair_57 : decode cX3_pair 57 = .ok (.istore 5, 2) := by decide +kernel
theorem dX3_pair_59 : decode cX3_pair 59 = .ok (.aload_n 3, 1) := by decide +kernel
theorem dX3_pair_60 : decode cX3_pair 60 = .ok (.iload 5, 2) := by decide +kernel
theorem dX3_pair_62 : decode cX3_pair 62 = .ok (.iload_n 1, 1) := by decide +kernel
theorem dX3_pair_63 : decode cX3_pair 63 = .ok (.invokevirtual 122, 3) := by decide +kernel
theorem dX3_pair_66 : decode cX3_pair 66 = .ok (.pop, 1) := by decide +kernel
theorem dX3_pair_67 : decode cX3_pair 67 = .ok (.aload 4, 2) := by decide +kernel
theorem dX3_pair_69 : decode cX3_pair 69 = .ok (.iload 5, 2) := by decide +kernel
theorem dX3_pair_71 : decode cX3_pair 71 = .ok (.iload_n 2, 1) := by decide +kernel
theorem dX3_pair_72 : decode cX3_pair 72 = .ok (.invokevirtual 122, 3) := by decide +kernel
theorem dX3_pair_75 : decode cX3_pair 75 = .ok (.pop, 1) := by decide +kernel
theorem dX3_pair_76 : decode cX3_pair 76 = .ok (.iconst (-1), 1) := by decide +kernel
theorem dX3_pair_77 : decode cX3_pair 77 = .ok (.ireturn, 1) := by decide +kernel
theorem dX3_pour_0 : decode cX3_pour 0 = .ok (.aload_n 0, 1) := by decide +kernel
theorem dX3_pour_1 : decode cX3_pour 1 = .ok (.iload_n 1, 1) := by decide +kernel
theorem dX3_pour_2 : decode cX3_pour 2 = .ok (.invokevirtual 56, 3) := by decide +kernel
theorem dX3_pour_5 : decode cX3_pour 5 = .ok (.astore_n 3, 1) := by decide +kernel
theorem dX3_pour_6 : decode cX3_pour 6 = .ok (.aload_n 0, 1) := by decide +kernel
theorem dX3_pour_7 : decode cX3_pour 7 = .ok (.iload_n 2, 1) := by decide +kernel
theorem dX3_pour_8 : decode cX3_pour 8 = .ok (.invokevirtual 56, 3) := by decide +kernel
theorem dX3_pour_11 : decode cX3_pour 11 = .ok (.astore 4, 2) := by decide +kernel
theorem dX3_pour_13 : decode cX3_pour 13 = .ok (.aload 4, 2) := by decide +kernel
theorem dX3_pour_15 : decode cX3_pour 15 = .ok (.aload_n 3, 1) := by decide +kernel
theorem dX3_pour_16 : decode cX3_pour 16 = .ok (.getfield 105, 3) := by decide +kernel
theorem dX3_pour_19 : decode cX3_pour 19 = .ok (.invokestatic 64, 3) := by decide +kernel
theorem dX3_pour_22 : decode cX3_pour 22 = .ok (.aload_n 3, 1) := by decide +kernel
theorem dX3_pour_23 : decode cX3_pour 23 = .ok (.aload 4, 2) := by decide +kernel
theorem dX3_pour_25 : decode cX3_pour 25 = .ok (.invokestatic 126, 3) := by decide +kernel
theorem dX3_pour_28 : decode cX3_pour 28 = .ok (.ifCond .eq 8, 3) := by decide +kernel
theorem dX3_pour_31 : decode cX3_pour 31 = .ok (.aload_n 0, 1) := by decide +kernel
theorem dX3_pour_32 : decode cX3_pour 32 = .ok (.invokevirtual 76, 3) := by decide +kernel
theorem dX3_pour_35 : decode cX3_pour 35 = .ok (.ireturn, 1) := by decide +kernel
theorem dX3_pour_36 : decode cX3_pour 36 = .ok (.aload_n 3, 1) := by decide +kernel
theorem dX3_pour_37 : decode cX3_pour 37 = .ok (.iconst 0, 1) := by decide +kernel
theorem dX3_pour_38 : decode cX3_pour 38 = .ok (.aload 4, 2) := by decide +kernel
theorem dX3_pour_40 : decode cX3_pour 40 = .ok (.invokestatic 130, 3) := by decide +kernel
theorem dX3_pour_43 : decode cX3_pour 43 = .ok (.invokestatic 83, 3) := by decide +kernel
theorem dX3_pour_46 : decode cX3_pour 46 = .ok (.ireturn, 1) := by decide +kernel
theorem dX3_change_0 : decode cX3_change 0 = .ok (.aload_n 0, 1) := by decide +kernel
theorem dX3_change_1 : decode cX3_change 1 = .ok (.iload_n 1, 1) := by decide +kernel
theorem dX3_change_2 : decode cX3_change 2 = .ok (.invokevirtual 134, 3) := by decide +kernel
theorem dX3_change_5 : decode cX3_change 5 = .ok (.astore 4, 2) := by decide +kernel
theorem dX3_change_7 : decode cX3_change 7 = .ok (.iload_n 2, 1) := by decide +kernel
theorem dX3_change_8 : decode cX3_change 8 = .ok (.aload 4, 2) := by decide +kernel
theorem dX3_change_10 : decode cX3_change 10 = .ok (.getfield 105, 3) := by decide +kernel
theorem dX3_change_13 : decode cX3_change 13 = .ok (.invokestatic 137, 3) := by decide +kernel
theorem dX3_change_16 : decode cX3_change 16 = .ok (.iload_n 3, 1) := by decide +kernel
theorem dX3_change_17 : decode cX3_change 17 = .ok (.invokestatic 60, 3) := by decide +kernel
theorem dX3_change_20 : decode cX3_change 20 = .ok (.aload 4, 2) := by decide +kernel
theorem dX3_change_22 : decode cX3_change 22 = .ok (.dup, 1) := by decide +kernel
theorem dX3_change_23 : decode cX3_change 23 = .ok (.getfield 141, 3) := by decide +kernel
theorem dX3_change_26 : decode cX3_change 26 = .ok (.iconst 1, 1) := by decide +kernel
theorem dX3_change_27 : decode cX3_change 27 = .ok (.iadd, 1) := by decide +kernel
theorem dX3_change_28 : decode cX3_change 28 = .ok (.putfield 141, 3) := by decide +kernel
theorem dX3_change_31 : decode cX3_change 31 = .ok (.aload 4, 2) := by decide +kernel
theorem dX3_change_33 : decode cX3_change 33 = .ok (.iload_n 2, 1) := by decide +kernel
theorem dX3_change_34 : decode cX3_change 34 = .ok (.iload_n 3, 1) := by decide +kernel
theorem dX3_change_35 : decode cX3_change 35 = .ok (.invokevirtual 115, 3) := by decide +kernel
theorem dX3_change_38 : decode cX3_change 38 = .ok (.ireturn, 1) := by decide +kernel
theorem dX3_insert_0 : decode cX3_insert 0 = .ok (.aload_n 0, 1) := by decide +kernel
theorem dX3_insert_1 : decode cX3_insert 1 = .ok (.iload_n 1, 1) := by decide +kernel
theorem dX3_insert_2 : decode cX3_insert 2 = .ok (.invokevirtual 134, 3) := by decide +kernel
theorem dX3_insert_5 : decode cX3_insert 5 = .ok (.astore 4, 2) := by decide +kernel
theorem dX3_insert_7 : decode cX3_insert 7 = .ok (.iload_n 2, 1) := by decide +kernel
theorem dX3_insert_8 : decode cX3_insert 8 = .ok (.aload 4, 2) := by decide +kernel
theorem dX3_insert_10 : decode cX3_insert 10 = .ok (.getfield 105, 3) := by decide +kernel
theorem dX3_insert_13 : decode cX3_insert 13 = .ok (.iconst 1, 1) := by decide +kernel
theorem dX3_insert_14 : decode cX3_insert 14 = .ok (.iadd, 1) := by decide +kernel
theorem dX3_insert_15 : decode cX3_insert 15 = .ok (.invokestatic 137, 3) := by decide +kernel
theorem dX3_insert_18 : decode cX3_insert 18 = .ok (.iload_n 3, 1) := by decide +kernel
theorem dX3_insert_19 : decode cX3_insert 19 = .ok (.invokestatic 60, 3) := by decide +kernel
theorem dX3_insert_22 : decode cX3_insert 22 = .ok (.aload 4, 2) := by decide +kernel
theorem dX3_insert_24 : decode cX3_insert 24 = .ok (.iconst 1, 1) := by decide +kernel
theorem dX3_insert_25 : decode cX3_insert 25 = .ok (.invokestatic 64, 3) := by decide +kernel
theorem dX3_insert_28 : decode cX3_insert 28 = .ok (.aload 4, 2) := by decide +kernel
theorem dX3_insert_30 : decode cX3_insert 30 = .ok (.iload_n 2, 1) := by decide +kernel
theorem dX3_insert_31 : decode cX3_insert 31 = .ok (.iload_n 3, 1) := by decide +kernel
theorem dX3_insert_32 : decode cX3_insert 32 = .ok (.invokevirtual 122, 3) := by decide +kernel
theorem dX3_insert_35 : decode cX3_insert 35 = .ok (.pop, 1) := by decide +kernel
theorem dX3_insert_36 : decode cX3_insert 36 = .ok (.aload 4, 2) := by decide +kernel
theorem dX3_insert_38 : decode cX3_insert 38 = .ok (.getfield 105, 3) := by decide +kernel
theorem dX3_insert_41 : decode cX3_insert 41 = .ok (.ireturn, 1) := by decide +kernel
theorem dX3_remove_0 : decode cX3_remove 0 = .ok (.aload_n 0, 1) := by decide +kernel
theorem dX3_remove_1 : decode cX3_remove 1 = .ok (.iload_n 1, 1) := by decide +kernel
theorem dX3_remove_2 : decode cX3_remove 2 = .ok (.invokevirtual 134, 3) := by decide +kernel
theorem dX3_remove_5 : decode cX3_remove 5 = .ok (.astore_n 3, 1) := by decide +kernel
theorem dX3_remove_6 : decode cX3_remove 6 = .ok (.iload_n 2, 1) := by decide +kernel
theorem dX3_remove_7 : decode cX3_remove 7 = .ok (.aload_n 3, 1) := by decide +kernel
theorem dX3_remove_8 : decode cX3_remove 8 = .ok (.getfield 105, 3) := by decide +kernel
theorem dX3_remove_11 : decode cX3_remove 11 = .ok (.invokestatic 137, 3) := by decide +kernel
theorem dX3_remove_14 : decode cX3_remove 14 = .ok (.aload_n 3, 1) := by decide +kernel
theorem dX3_remove_15 : decode cX3_remove 15 = .ok (.iload_n 2, 1) := by decide +kernel
theorem dX3_remove_16 : decode cX3_remove 16 = .ok (.invokevirtual 144, 3) := by decide +kernel
theorem dX3_remove_19 : decode cX3_remove 19 = .ok (.ireturn, 1) := by decide +kernel
theorem dX3_turn_0 : decode cX3_turn 0 = .ok (.aload_n 0, 1) := by decide +kernel
theorem dX3_turn_1 : decode cX3_turn 1 = .ok (.iload_n 1, 1) := by decide +kernel
theorem dX3_turn_2 : decode cX3_turn 2 = .ok (.invokevirtual 134, 3) := by decide +kernel
theorem dX3_turn_5 : decode cX3_turn 5 = .ok (.astore_n 2, 1) := by decide +kernel
theorem dX3_turn_6 : decode cX3_turn 6 = .ok (.aload_n 2, 1) := by decide +kernel
theorem dX3_turn_7 : decode cX3_turn 7 = .ok (.dup, 1) := by decide +kernel
theorem dX3_turn_8 : decode cX3_turn 8 = .ok (.getfield 141, 3) := by decide +kernel
theorem dX3_turn_11 : decode cX3_turn 11 = .ok (.iconst 1, 1) := by decide +kernel
theorem dX3_turn_12 : decode cX3_turn 12 = .ok (.iadd, 1) := by decide +kernel
theorem dX3_turn_13 : decode cX3_turn 13 = .ok (.putfield 141, 3) := by decide +kernel
theorem dX3_turn_16 : decode cX3_turn 16 = .ok (.aload_n 2, 1) := by decide +kernel
theorem dX3_turn_17 : decode cX3_turn 17 = .ok (.iconst 0, 1) := by decide +kernel
theorem dX3_turn_18 : decode cX3_turn 18 = .ok (.aload_n 2, 1) := by decide +kernel
theorem dX3_turn_19 : decode cX3_turn 19 = .ok (.getfield 105, 3) := by decide +kernel
theorem dX3_turn_22 : decode cX3_turn 22 = .ok (.invokevirtual 147, 3) := by decide +kernel
theorem dX3_turn_25 : decode cX3_turn 25 = .ok (.aload_n 2, 1) := by decide +kernel
theorem dX3_turn_26 : decode cX3_turn 26 = .ok (.getfield 105, 3) := by decide +kernel
theorem dX3_turn_29 : decode cX3_turn 29 = .ok (.ireturn, 1) := by decide +kernel
theorem dX3_rotate_0 : decode cX3_rotate 0 = .ok (.aload_n 0, 1) := by decide +kernel
theorem dX3_rotate_1 : decode cX3_rotate 1 = .ok (.iload_n 1, 1) := by decide +kernel
theorem dX3_rotate_2 : decode cX3_rotate 2 = .ok (.invokevirtual 134, 3) := by decide +kernel
theorem dX3_rotate_5 : decode cX3_rotate 5 = .ok (.astore_n 3, 1) := by decide +kernel
theorem dX3_rotate_6 : decode cX3_rotate 6 = .ok (.iload_n 2, 1) := by decide +kernel
theorem dX3_rotate_7 : decode cX3_rotate 7 = .ok (.bipush (-20), 2) := by decide +kernel
theorem dX3_rotate_9 : decode cX3_rotate 9 = .ok (.if_icmp .lt 9, 3) := by decide +kernel
theorem dX3_rotate_12 : decode cX3_rotate 12 = .ok (.iload_n 2, 1) := by decide +kernel
theorem dX3_rotate_13 : decode cX3_rotate 13 = .ok (.bipush 20, 2) := by decide +kernel
theorem dX3_rotate_15 : decode cX3_rotate 15 = .ok (.if_icmp .le 13, 3) := by decide +kernel
theorem dX3_rotate_18 : decode cX3_rotate 18 = .ok (.new 150, 3) := by decide +kernel
theorem dX3_rotate_21 : decode cX3_rotate 21 = .ok (.dup, 1) := by decide +kernel
theorem dX3_rotate_22 : decode cX3_rotate 22 = .ok (.ldc 152, 2) := by decide +kernel
theorem dX3_rotate_24 : decode cX3_rotate 24 = .ok (.invokespecial 154, 3) := by decide +kernel
theorem dX3_rotate_27 : decode cX3_rotate 27 = .ok (.athrow, 1) := by decide +kernel
theorem dX3_rotate_28 : decode cX3_rotate 28 = .ok (.aload_n 3, 1) := by decide +kernel
theorem dX3_rotate_29 : decode cX3_rotate 29 = .ok (.dup, 1) := by decide +kernel
theorem dX3_rotate_30 : decode cX3_rotate 30 = .ok (.getfield 141, 3) := by decide +kernel
theorem dX3_rotate_33 : decode cX3_rotate 33 = .ok (.iconst 1, 1) := by decide +kernel
theorem dX3_rotate_34 : decode cX3_rotate 34 = .ok (.iadd, 1) := by decide +kernel
theorem dX3_rotate_35 : decode cX3_rotate 35 = .ok (.putfield 141, 3) := by decide +kernel
theorem dX3_rotate_38 : decode cX3_rotate 38 = .ok (.aload_n 3, 1) := by decide +kernel
theorem dX3_rotate_39 : decode cX3_rotate 39 = .ok (.getfield 105, 3) := by decide +kernel
theorem dX3_rotate_42 : decode cX3_rotate 42 = .ok (.ifCond .le 15, 3) := by decide +kernel
theorem dX3_rotate_45 : decode cX3_rotate 45 = .ok (.aload_n 3, 1) := by decide +kernel
theorem dX3_rotate_46 : decode cX3_rotate 46 = .ok (.iload_n 2, 1) := by decide +kernel
theorem dX3_rotate_47 : decode cX3_rotate 47 = .ok (.aload_n 3, 1) := by decide +kernel
theorem dX3_rotate_48 : decode cX3_rotate 48 = .ok (.getfield 105, 3) := by decide +kernel
theorem dX3_rotate_51 : decode cX3_rotate 51 = .ok (.invokestatic 157, 3) := by decide +kernel
theorem dX3_rotate_54 : decode cX3_rotate 54 = .ok (.invokevirtual 162, 3) := by decide +kernel
theorem dX3_rotate_57 : decode cX3_rotate 57 = .ok (.aload_n 3, 1) := by decide +kernel
theorem dX3_rotate_58 : decode cX3_rotate 58 = .ok (.getfield 105, 3) := by decide +kernel
theorem dX3_rotate_61 : decode cX3_rotate 61 = .ok (.ireturn, 1) := by decide +kernel
theorem dX3_swap_0 : decode cX3_swap 0 = .ok (.aload_n 0, 1) := by decide +kernel
theorem dX3_swap_1 : decode cX3_swap 1 = .ok (.iload_n 1, 1) := by decide +kernel
theorem dX3_swap_2 : decode cX3_swap 2 = .ok (.invokevirtual 134, 3) := by decide +kernel
theorem dX3_swap_5 : decode cX3_swap 5 = .ok (.astore 4, 2) := by decide +kernel
theorem dX3_swap_7 : decode cX3_swap 7 = .ok (.iload_n 2, 1) := by decide +kernel
theorem dX3_swap_8 : decode cX3_swap 8 = .ok (.aload 4, 2) := by decide +kernel
theorem dX3_swap_10 : decode cX3_swap 10 = .ok (.getfield 105, 3) := by decide +kernel
theorem dX3_swap_13 : decode cX3_swap 13 = .ok (.invokestatic 137, 3) := by decide +kernel
theorem dX3_swap_16 : decode cX3_swap 16 = .ok (.iload_n 3, 1) := by decide +kernel
theorem dX3_swap_17 : decode cX3_swap 17 = .ok (.aload 4, 2) := by decide +kernel
theorem dX3_swap_19 : decode cX3_swap 19 = .ok (.getfield 105, 3) := by decide +kernel
theorem dX3_swap_22 : decode cX3_swap 22 = .ok (.invokestatic 137, 3) := by decide +kernel
theorem dX3_swap_25 : decode cX3_swap 25 = .ok (.aload 4, 2) := by decide +kernel
theorem dX3_swap_27 : decode cX3_swap 27 = .ok (.dup, 1) := by decide +kernel
theorem dX3_swap_28 : decode cX3_swap 28 = .ok (.getfield 141, 3) := by decide +kernel
theorem dX3_swap_31 : decode cX3_swap 31 = .ok (.iconst 1, 1) := by decide +kernel
theorem dX3_swap_32 : decode cX3_swap 32 = .ok (.iadd, 1) := by decide +kernel
theorem dX3_swap_33 : decode cX3_swap 33 = .ok (.putfield 141, 3) := by decide +kernel
theorem dX3_swap_36 : decode cX3_swap 36 = .ok (.aload 4, 2) := by decide +kernel
theorem dX3_swap_38 : decode cX3_swap 38 = .ok (.iload_n 3, 1) := by decide +kernel
theorem dX3_swap_39 : decode cX3_swap 39 = .ok (.aload 4, 2) := by decide +kernel
theorem dX3_swap_41 : decode cX3_swap 41 = .ok (.iload_n 2, 1) := by decide +kernel
theorem dX3_swap_42 : decode cX3_swap 42 = .ok (.aload 4, 2) := by decide +kernel
theorem dX3_swap_44 : decode cX3_swap 44 = .ok (.iload_n 3, 1) := by decide +kernel
theorem dX3_swap_45 : decode cX3_swap 45 = .ok (.invokevirtual 165, 3) := by decide +kernel
theorem dX3_swap_48 : decode cX3_swap 48 = .ok (.invokevirtual 115, 3) := by decide +kernel
theorem dX3_swap_51 : decode cX3_swap 51 = .ok (.invokevirtual 115, 3) := by decide +kernel
theorem dX3_swap_54 : decode cX3_swap 54 = .ok (.pop, 1) := by decide +kernel
theorem dX3_swap_55 : decode cX3_swap 55 = .ok (.aload 4, 2) := by decide +kernel
theorem dX3_swap_57 : decode cX3_swap 57 = .ok (.iload_n 2, 1) := by decide +kernel
theorem dX3_swap_58 : decode cX3_swap 58 = .ok (.invokevirtual 165, 3) := by decide +kernel
theorem dX3_swap_61 : decode cX3_swap 61 = .ok (.ireturn, 1) := by decide +kernel
theorem dX3_fill_0 : decode cX3_fill 0 = .ok (.aload_n 0, 1) := by decide +kernel
theorem dX3_fill_1 : decode cX3_fill 1 = .ok (.iload_n 1, 1) := by decide +kernel
theorem dX3_fill_2 : decode cX3_fill 2 = .ok (.invokevirtual 134, 3) := by decide +kernel
theorem dX3_fill_5 : decode cX3_fill 5 = .ok (.astore_n 3, 1) := by decide +kernel
theorem dX3_fill_6 : decode cX3_fill 6 = .ok (.iload_n 2, 1) := by decide +kernel
theorem dX3_fill_7 : decode cX3_fill 7 = .ok (.invokestatic 60, 3) := by decide +kernel
theorem dX3_fill_10 : decode cX3_fill 10 = .ok (.aload_n 3, 1) := by decide +kernel
theorem dX3_fill_11 : decode cX3_fill 11 = .ok (.dup, 1) := by decide +kernel
theorem dX3_fill_12 : decode cX3_fill 12 = .ok (.getfield 141, 3) := by decide +kernel
theorem dX3_fill_15 : decode cX3_fill 15 = .ok (.iconst 1, 1) := by decide +kernel
theorem dX3_fill_16 : decode cX3_fill 16 = .ok (.iadd, 1) := by decide +kernel
theorem dX3_fill_17 : decode cX3_fill 17 = .ok (.putfield 141, 3) := by decide +kernel
theorem dX3_fill_20 : decode cX3_fill 20 = .ok (.iconst 0, 1) := by decide +kernel
theorem dX3_fill_21 : decode cX3_fill 21 = .ok (.istore 4, 2) := by decide +kernel
theorem dX3_fill_23 : decode cX3_fill 23 = .ok (.iload 4, 2) := by decide +kernel
theorem dX3_fill_25 : decode cX3_fill 25 = .ok (.aload_n 3, 1) := by decide +kernel
theorem dX3_fill_26 : decode cX3_fill 26 = .ok (.getfield 105, 3) := by decide +kernel
theorem dX3_fill_29 : decode cX3_fill 29 = .ok (.if_icmp .ge 17, 3) := by decide +kernel
theorem dX3_fill_32 : decode cX3_fill 32 = .ok (.aload_n 3, 1) := by decide +kernel
theorem dX3_fill_33 : decode cX3_fill 33 = .ok (.iload 4, 2) := by decide +kernel
theorem dX3_fill_35 : decode cX3_fill 35 = .ok (.iload_n 2, 1) := by decide +kernel
theorem dX3_fill_36 : decode cX3_fill 36 = .ok (.invokevirtual 115, 3) := by decide +kernel
theorem dX3_fill_39 : decode cX3_fill 39 = .ok (.pop, 1) := by decide +kernel
theorem dX3_fill_40 : decode cX3_fill 40 = .ok (.iinc 4 1, 3) := by decide +kernel
theorem dX3_fill_43 : decode cX3_fill 43 = .ok (.goto (-20), 3) := by decide +kernel
theorem dX3_fill_46 : decode cX3_fill 46 = .ok (.aload_n 3, 1) := by decide +kernel
theorem dX3_fill_47 : decode cX3_fill 47 = .ok (.getfield 105, 3) := by decide +kernel
theorem dX3_fill_50 : decode cX3_fill 50 = .ok (.ireturn, 1) := by decide +kernel
theorem dX3_replace_0 : decode cX3_replace 0 = .ok (.aload_n 0, 1) := by decide +kernel
theorem dX3_replace_1 : decode cX3_replace 1 = .ok (.iload_n 1, 1) := by decide +kernel
theorem dX3_replace_2 : decode cX3_replace 2 = .ok (.invokevirtual 134, 3) := by decide +kernel
theorem dX3_replace_5 : decode cX3_replace 5 = .ok (.astore 4, 2) := by decide +kernel
theorem dX3_replace_7 : decode cX3_replace 7 = .ok (.iload_n 2, 1) := by decide +kernel
theorem dX3_replace_8 : decode cX3_replace 8 = .ok (.invokestatic 60, 3) := by decide +kernel
theorem dX3_replace_11 : decode cX3_replace 11 = .ok (.iload_n 3, 1) := by decide +kernel
theorem dX3_replace_12 : decode cX3_replace 12 = .ok (.invokestatic 60, 3) := by decide +kernel
theorem dX3_replace_15 : decode cX3_replace 15 = .ok (.aload 4, 2) := by decide +kernel
theorem dX3_replace_17 : decode cX3_replace 17 = .ok (.dup, 1) := by decide +kernel
theorem dX3_replace_18 : decode cX3_replace 18 = .ok (.getfield 141, 3) := by decide +kernel
theorem dX3_replace_21 : decode cX3_replace 21 = .ok (.iconst 1, 1) := by decide +kernel
theorem dX3_replace_22 : decode cX3_replace 22 = .ok (.iadd, 1) := by decide +kernel
theorem dX3_replace_23 : decode cX3_replace 23 = .ok (.putfield 141, 3) := by decide +kernel
theorem dX3_replace_26 : decode cX3_replace 26 = .ok (.iconst 0, 1) := by decide +kernel
theorem dX3_replace_27 : decode cX3_replace 27 = .ok (.istore 5, 2) := by decide +kernel
theorem dX3_replace_29 : decode cX3_replace 29 = .ok (.iconst 0, 1) := by decide +kernel
theorem dX3_replace_30 : decode cX3_replace 30 = .ok (.istore 6, 2) := by decide +kernel
theorem dX3_replace_32 : decode cX3_replace 32 = .ok (.iload 6, 2) := by decide +kernel
theorem dX3_replace_34 : decode cX3_replace 34 = .ok (.aload 4, 2) := by decide +kernel
theorem dX3_replace_36 : decode cX3_replace 36 = .ok (.getfield 105, 3) := by decide +kernel
theorem dX3_replace_39 : decode cX3_replace 39 = .ok (.if_icmp .ge 32, 3) := by decide +kernel
theorem dX3_replace_42 : decode cX3_replace 42 = .ok (.aload 4, 2) := by decide +kernel
theorem dX3_replace_44 : decode cX3_replace 44 = .ok (.iload 6, 2) := by decide +kernel
theorem dX3_replace_46 : decode cX3_replace 46 = .ok (.invokevirtual 165, 3) := by decide +kernel
theorem dX3_replace_49 : decode cX3_replace 49 = .ok (.iload_n 2, 1) := by decide +kernel
theorem dX3_replace_50 : decode cX3_replace 50 = .ok (.if_icmp .ne 15, 3) := by decide +kernel
theorem dX3_replace_53 : decode cX3_replace 53 = .ok (.aload 4, 2) := by decide +kernel
theorem dX3_replace_55 : decode cX3_replace 55 = .ok (.iload 6, 2) := by decide +kernel
theorem dX3_replace_57 : decode cX3_replace 57 = .ok (.iload_n 3, 1) := by decide +kernel
theorem dX3_replace_58 : decode cX3_replace 58 = .ok (.invokevirtual 115, 3) := by decide +kernel
theorem dX3_replace_61 : decode cX3_replace 61 = .ok (.pop, 1) := by decide +kernel
theorem dX3_replace_62 : decode cX3_replace 62 = .ok (.iconst 1, 1) := by decide +kernel
theorem dX3_replace_63 : decode cX3_replace 63 = .ok (.istore 5, 2) := by decide +kernel
theorem dX3_replace_65 : decode cX3_replace 65 = .ok (.iinc 6 1, 3) := by decide +kernel
theorem dX3_replace_68 : decode cX3_replace 68 = .ok (.goto (-36), 3) := by decide +kernel
theorem dX3_replace_71 : decode cX3_replace 71 = .ok (.iload 5, 2) := by decide +kernel
theorem dX3_replace_73 : decode cX3_replace 73 = .ok (.invokestatic 83, 3) := by decide +kernel
theorem dX3_replace_76 : decode cX3_replace 76 = .ok (.ireturn, 1) := by decide +kernel
theorem dX3_copies_0 : decode cX3_copies 0 = .ok (.aload_n 0, 1) := by decide +kernel
theorem dX3_copies_1 : decode cX3_copies 1 = .ok (.iload_n 1, 1) := by decide +kernel
theorem dX3_copies_2 : decode cX3_copies 2 = .ok (.invokevirtual 134, 3) := by decide +kernel
theorem dX3_copies_5 : decode cX3_copies 5 = .ok (.astore 4, 2) := by decide +kernel
theorem dX3_copies_7 : decode cX3_copies 7 = .ok (.iload_n 2, 1) := by decide +kernel
theorem dX3_copies_8 : decode cX3_copies 8 = .ok (.invokestatic 60, 3) := by decide +kernel
theorem dX3_copies_11 : decode cX3_copies 11 = .ok (.iload_n 3, 1) := by decide +kernel
theorem dX3_copies_12 : decode cX3_copies 12 = .ok (.invokestatic 168, 3) := by decide +kernel
theorem dX3_copies_15 : decode cX3_copies 15 = .ok (.aload 4, 2) := by decide +kernel
theorem dX3_copies_17 : decode cX3_copies 17 = .ok (.iload_n 3, 1) := by decide +kernel
theorem dX3_copies_18 : decode cX3_copies 18 = .ok (.invokestatic 64, 3) := by decide +kernel
theorem dX3_copies_21 : decode cX3_copies 21 = .ok (.iconst 0, 1) := by decide +kernel
theorem dX3_copies_22 : decode cX3_copies 22 = .ok (.istore 5, 2) := by decide +kernel
theorem dX3_copies_24 : decode cX3_copies 24 = .ok (.iload 5, 2) := by decide +kernel
theorem dX3_copies_26 : decode cX3_copies 26 = .ok (.iload_n 3, 1) := by decide +kernel
theorem dX3_copies_27 : decode cX3_copies 27 = .ok (.if_icmp .ge 16, 3) := by decide +kernel
theorem dX3_copies_30 : decode cX3_copies 30 = .ok (.aload 4, 2) := by decide +kernel
theorem dX3_copies_32 : decode cX3_copies 32 = .ok (.iload_n 2, 1) := by decide +kernel
theorem dX3_copies_33 : decode cX3_copies 33 = .ok (.invokevirtual 80, 3) := by decide +kernel
theorem dX3_copies_36 : decode cX3_copies 36 = .ok (.pop, 1) := by decide +kernel
theorem dX3_copies_37 : decode cX3_copies 37 = .ok (.iinc 5 1, 3) := by decide +kernel
theorem dX3_copies_40 : decode cX3_copies 40 = .ok (.goto (-16), 3) := by decide +kernel
theorem dX3_copies_43 : decode cX3_copies 43 = .ok (.aload 4, 2) := by decide +kernel
theorem dX3_copies_45 : decode cX3_copies 45 = .ok (.getfield 105, 3) := by decide +kernel
theorem dX3_copies_48 : decode cX3_copies 48 = .ok (.ireturn, 1) := by decide +kernel
theorem dX3_walk_0 : decode cX3_walk 0 = .ok (.aload_n 0, 1) := by decide +kernel
theorem dX3_walk_1 : decode cX3_walk 1 = .ok (.iload_n 1, 1) := by decide +kernel
theorem dX3_walk_2 : decode cX3_walk 2 = .ok (.invokevirtual 171, 3) := by decide +kernel
theorem dX3_walk_5 : decode cX3_walk 5 = .ok (.astore 4, 2) := by decide +kernel
theorem dX3_walk_7 : decode cX3_walk 7 = .ok (.aload_n 0, 1) := by decide +kernel
theorem dX3_walk_8 : decode cX3_walk 8 = .ok (.iload_n 2, 1) := by decide +kernel
theorem dX3_walk_9 : decode cX3_walk 9 = .ok (.invokevirtual 56, 3) := by decide +kernel
theorem dX3_walk_12 : decode cX3_walk 12 = .ok (.astore 5, 2) := by decide +kernel
theorem dX3_walk_14 : decode cX3_walk 14 = .ok (.iload_n 3, 1) := by decide +kernel
theorem dX3_walk_15 : decode cX3_walk 15 = .ok (.ifCond .lt 8, 3) := by decide +kernel
theorem dX3_walk_18 : decode cX3_walk 18 = .ok (.iload_n 3, 1) := by decide +kernel
theorem dX3_walk_19 : decode cX3_walk 19 = .ok (.iconst 2, 1) := by decide +kernel
theorem dX3_walk_20 : decode cX3_walk 20 = .ok (.if_icmp .le 13, 3) := by decide +kernel
theorem dX3_walk_23 : decode cX3_walk 23 = .ok (.new 150, 3) := by decide +kernel
theorem dX3_walk_26 : decode cX3_walk 26 = .ok (.dup, 1) := by decide +kernel
theorem dX3_walk_27 : decode cX3_walk 27 = .ok (.ldc 175, 2) := by decide +kernel
theorem dX3_walk_29 : decode cX3_walk 29 = .ok (.invokespecial 154, 3) := by decide +kernel
theorem dX3_walk_32 : decode cX3_walk 32 = .ok (.athrow, 1) := by decide +kernel
theorem dX3_walk_33 : decode cX3_walk 33 = .ok (.iload_n 3, 1) := by decide +kernel
theorem dX3_walk_34 : decode cX3_walk 34 = .ok (.iconst 2, 1) := by decide +kernel
theorem dX3_walk_35 : decode cX3_walk 35 = .ok (.if_icmp .ne 17, 3) := by decide +kernel
theorem dX3_walk_38 : decode cX3_walk 38 = .ok (.iload_n 2, 1) := by decide +kernel
theorem dX3_walk_39 : decode cX3_walk 39 = .ok (.ifCond .eq 13, 3) := by decide +kernel
theorem dX3_walk_42 : decode cX3_walk 42 = .ok (.new 150, 3) := by decide +kernel
theorem dX3_walk_45 : decode cX3_walk 45 = .ok (.dup, 1) := by decide +kernel
theorem dX3_walk_46 : decode cX3_walk 46 = .ok (.ldc 177, 2) := by decide +kernel
theorem dX3_walk_48 : decode cX3_walk 48 = .ok (.invokespecial 154, 3) := by decide +kernel
theorem dX3_walk_51 : decode cX3_walk 51 = .ok (.athrow, 1) := by decide +kernel
theorem dX3_walk_52 : decode cX3_walk 52 = .ok (.aload 4, 2) := by decide +kernel
theorem dX3_walk_54 : decode cX3_walk 54 = .ok (.aload 5, 2) := by decide +kernel
theorem dX3_walk_56 : decode cX3_walk 56 = .ok (.iload_n 2, 1) := by decide +kernel
theorem dX3_walk_57 : decode cX3_walk 57 = .ok (.iload_n 3, 1) := by decide +kernel
theorem dX3_walk_58 : decode cX3_walk 58 = .ok (.invokevirtual 179, 3) := by decide +kernel
theorem dX3_walk_61 : decode cX3_walk 61 = .ok (.aload 5, 2) := by decide +kernel
theorem dX3_walk_63 : decode cX3_walk 63 = .ok (.getfield 105, 3) := by decide +kernel
theorem dX3_walk_66 : decode cX3_walk 66 = .ok (.ireturn, 1) := by decide +kernel
theorem dX3_next_0 : decode cX3_next 0 = .ok (.aload_n 0, 1) := by decide +kernel
theorem dX3_next_1 : decode cX3_next 1 = .ok (.iload_n 1, 1) := by decide +kernel
theorem dX3_next_2 : decode cX3_next 2 = .ok (.invokevirtual 171, 3) := by decide +kernel
theorem dX3_next_5 : decode cX3_next 5 = .ok (.astore_n 2, 1) := by decide +kernel
theorem dX3_next_6 : decode cX3_next 6 = .ok (.aload_n 2, 1) := by decide +kernel
theorem dX3_next_7 : decode cX3_next 7 = .ok (.invokestatic 183, 3) := by decide +kernel
theorem dX3_next_10 : decode cX3_next 10 = .ok (.aload_n 2, 1) := by decide +kernel
theorem dX3_next_11 : decode cX3_next 11 = .ok (.invokevirtual 187, 3) := by decide +kernel
theorem dX3_next_14 : decode cX3_next 14 = .ok (.ifCond .ne 8, 3) := by decide +kernel
theorem dX3_next_17 : decode cX3_next 17 = .ok (.aload_n 0, 1) := by decide +kernel
theorem dX3_next_18 : decode cX3_next 18 = .ok (.invokevirtual 76, 3) := by decide +kernel
theorem dX3_next_21 : decode cX3_next 21 = .ok (.ireturn, 1) := by decide +kernel
theorem dX3_next_22 : decode cX3_next 22 = .ok (.aload_n 2, 1) := by decide +kernel
theorem dX3_next_23 : decode cX3_next 23 = .ok (.invokevirtual 190, 3) := by decide +kernel
theorem dX3_next_26 : decode cX3_next 26 = .ok (.ireturn, 1) := by decide +kernel
theorem dX3_more_0 : decode cX3_more 0 = .ok (.aload_n 0, 1) := by decide +kernel
theorem dX3_more_1 : decode cX3_more 1 = .ok (.iload_n 1, 1) := by decide +kernel
theorem dX3_more_2 : decode cX3_more 2 = .ok (.invokevirtual 171, 3) := by decide +kernel
theorem dX3_more_5 : decode cX3_more 5 = .ok (.astore_n 2, 1) := by decide +kernel
theorem dX3_more_6 : decode cX3_more 6 = .ok (.aload_n 2, 1) := by decide +kernel
theorem dX3_more_7 : decode cX3_more 7 = .ok (.invokestatic 183, 3) := by decide +kernel
theorem dX3_more_10 : decode cX3_more 10 = .ok (.aload_n 2, 1) := by decide +kernel
theorem dX3_more_11 : decode cX3_more 11 = .ok (.invokevirtual 193, 3) := by decide +kernel
theorem dX3_more_14 : decode cX3_more 14 = .ok (.ifCond .eq 8, 3) := by decide +kernel
theorem dX3_more_17 : decode cX3_more 17 = .ok (.aload_n 0, 1) := by decide +kernel
theorem dX3_more_18 : decode cX3_more 18 = .ok (.invokevirtual 76, 3) := by decide +kernel
theorem dX3_more_21 : decode cX3_more 21 = .ok (.ireturn, 1) := by decide +kernel
theorem dX3_more_22 : decode cX3_more 22 = .ok (.aload_n 2, 1) := by decide +kernel
theorem dX3_more_23 : decode cX3_more 23 = .ok (.invokevirtual 187, 3) := by decide +kernel
theorem dX3_more_26 : decode cX3_more 26 = .ok (.invokestatic 83, 3) := by decide +kernel
theorem dX3_more_29 : decode cX3_more 29 = .ok (.ireturn, 1) := by decide +kernel
theorem dX3_takeOut_0 : decode cX3_takeOut 0 = .ok (.aload_n 0, 1) := by decide +kernel
theorem dX3_takeOut_1 : decode cX3_takeOut 1 = .ok (.iload_n 1, 1) := by decide +kernel
theorem dX3_takeOut_2 : decode cX3_takeOut 2 = .ok (.invokevirtual 171, 3) := by decide +kernel
theorem dX3_takeOut_5 : decode cX3_takeOut 5 = .ok (.astore_n 2, 1) := by decide +kernel
theorem dX3_takeOut_6 : decode cX3_takeOut 6 = .ok (.aload_n 2, 1) := by decide +kernel
theorem dX3_takeOut_7 : decode cX3_takeOut 7 = .ok (.invokestatic 183, 3) := by decide +kernel
theorem dX3_takeOut_10 : decode cX3_takeOut 10 = .ok (.aload_n 2, 1) := by decide +kernel
theorem dX3_takeOut_11 : decode cX3_takeOut 11 = .ok (.invokevirtual 193, 3) := by decide +kernel
theorem dX3_takeOut_14 : decode cX3_takeOut 14 = .ok (.ifCond .ne 27, 3) := by decide +kernel
theorem dX3_takeOut_17 : decode cX3_takeOut 17 = .ok (.aload_n 2, 1) := by decide +kernel
theorem dX3_takeOut_18 : decode cX3_takeOut 18 = .ok (.getfield 196, 3) := by decide +kernel
theorem dX3_takeOut_21 : decode cX3_takeOut 21 = .ok (.iconst 1, 1) := by decide +kernel
theorem dX3_takeOut_22 : decode cX3_takeOut 22 = .ok (.if_icmp .ne 19, 3) := by decide +kernel
theorem dX3_takeOut_25 : decode cX3_takeOut 25 = .ok (.aload_n 2, 1) := by decide +kernel
theorem dX3_takeOut_26 : decode cX3_takeOut 26 = .ok (.getfield 199, 3) := by decide +kernel
theorem dX3_takeOut_29 : decode cX3_takeOut 29 = .ok (.bipush 7, 2) := by decide +kernel
theorem dX3_takeOut_31 : decode cX3_takeOut 31 = .ok (.if_icmp .eq 10, 3) := by decide +kernel
theorem dX3_takeOut_34 : decode cX3_takeOut 34 = .ok (.aload_n 2, 1) := by decide +kernel
theorem dX3_takeOut_35 : decode cX3_takeOut 35 = .ok (.invokevirtual 202, 3) := by decide +kernel
theorem dX3_takeOut_38 : decode cX3_takeOut 38 = .ok (.ifCond .ne 8, 3) := by decide +kernel
theorem dX3_takeOut_41 : decode cX3_takeOut 41 = .ok (.aload_n 0, 1) := by decide +kernel
theorem dX3_takeOut_42 : decode cX3_takeOut 42 = .ok (.invokevirtual 76, 3) := by decide +kernel
theorem dX3_takeOut_45 : decode cX3_takeOut 45 = .ok (.ireturn, 1) := by decide +kernel
theorem dX3_takeOut_46 : decode cX3_takeOut 46 = .ok (.aload_n 0, 1) := by decide +kernel
theorem dX3_takeOut_47 : decode cX3_takeOut 47 = .ok (.aload_n 2, 1) := by decide +kernel
theorem dX3_takeOut_48 : decode cX3_takeOut 48 = .ok (.getfield 205, 3) := by decide +kernel
theorem dX3_takeOut_51 : decode cX3_takeOut 51 = .ok (.aload_n 2, 1) := by decide +kernel
theorem dX3_takeOut_52 : decode cX3_takeOut 52 = .ok (.invokevirtual 208, 3) := by decide +kernel
theorem dX3_takeOut_55 : decode cX3_takeOut 55 = .ok (.iconst 1, 1) := by decide +kernel
theorem dX3_takeOut_56 : decode cX3_takeOut 56 = .ok (.isub, 1) := by decide +kernel
theorem dX3_takeOut_57 : decode cX3_takeOut 57 = .ok (.invokevirtual 102, 3) := by decide +kernel
theorem dX3_takeOut_60 : decode cX3_takeOut 60 = .ok (.aload_n 2, 1) := by decide +kernel
theorem dX3_takeOut_61 : decode cX3_takeOut 61 = .ok (.invokevirtual 211, 3) := by decide +kernel
theorem dX3_takeOut_64 : decode cX3_takeOut 64 = .ok (.aload_n 2, 1) := by decide +kernel
theorem dX3_takeOut_65 : decode cX3_takeOut 65 = .ok (.getfield 205, 3) := by decide +kernel
theorem dX3_takeOut_68 : decode cX3_takeOut 68 = .ok (.getfield 105, 3) := by decide +kernel
theorem dX3_takeOut_71 : decode cX3_takeOut 71 = .ok (.ireturn, 1) := by decide +kernel
theorem dX3_rest_0 : decode cX3_rest 0 = .ok (.aload_n 0, 1) := by decide +kernel
theorem dX3_rest_1 : decode cX3_rest 1 = .ok (.iload_n 1, 1) := by decide +kernel
theorem dX3_rest_2 : decode cX3_rest 2 = .ok (.invokevirtual 171, 3) := by decide +kernel
theorem dX3_rest_5 : decode cX3_rest 5 = .ok (.astore_n 2, 1) := by decide +kernel
theorem dX3_rest_6 : decode cX3_rest 6 = .ok (.aload_n 2, 1) := by decide +kernel
theorem dX3_rest_7 : decode cX3_rest 7 = .ok (.invokestatic 183, 3) := by decide +kernel
theorem dX3_rest_10 : decode cX3_rest 10 = .ok (.aload_n 2, 1) := by decide +kernel
theorem dX3_rest_11 : decode cX3_rest 11 = .ok (.invokevirtual 214, 3) := by decide +kernel
theorem dX3_rest_14 : decode cX3_rest 14 = .ok (.ifCond .ne 11, 3) := by decide +kernel
theorem dX3_rest_17 : decode cX3_rest 17 = .ok (.aload_n 0, 1) := by decide +kernel
theorem dX3_rest_18 : decode cX3_rest 18 = .ok (.invokevirtual 76, 3) := by decide +kernel
theorem dX3_rest_21 : decode cX3_rest 21 = .ok (.pop, 1) := by decide +kernel
theorem dX3_rest_22 : decode cX3_rest 22 = .ok (.ldc 217, 2) := by decide +kernel
theorem dX3_rest_24 : decode cX3_rest 24 = .ok (.areturn, 1) := by decide +kernel
theorem dX3_rest_25 : decode cX3_rest 25 = .ok (.aload_n 2, 1) := by decide +kernel
theorem dX3_rest_26 : decode cX3_rest 26 = .ok (.invokevirtual 208, 3) := by decide +kernel
theorem dX3_rest_29 : decode cX3_rest 29 = .ok (.istore_n 3, 1) := by decide +kernel
theorem dX3_rest_30 : decode cX3_rest 30 = .ok (.aload_n 2, 1) := by decide +kernel
theorem dX3_rest_31 : decode cX3_rest 31 = .ok (.bipush 12, 2) := by decide +kernel
theorem dX3_rest_33 : decode cX3_rest 33 = .ok (.invokevirtual 219, 3) := by decide +kernel
theorem dX3_rest_36 : decode cX3_rest 36 = .ok (.pop, 1) := by decide +kernel
theorem dX3_rest_37 : decode cX3_rest 37 = .ok (.aload_n 2, 1) := by decide +kernel
theorem dX3_rest_38 : decode cX3_rest 38 = .ok (.getfield 205, 3) := by decide +kernel
theorem dX3_rest_41 : decode cX3_rest 41 = .ok (.iload_n 3, 1) := by decide +kernel
theorem dX3_rest_42 : decode cX3_rest 42 = .ok (.invokestatic 222, 3) := by decide +kernel
theorem dX3_rest_45 : decode cX3_rest 45 = .ok (.areturn, 1) := by decide +kernel
theorem dX3_keepRest_0 : decode cX3_keepRest 0 = .ok (.aload_n 0, 1) := by decide +kernel
theorem dX3_keepRest_1 : decode cX3_keepRest 1 = .ok (.iload_n 1, 1) := by decide +kernel
theorem dX3_keepRest_2 : decode cX3_keepRest 2 = .ok (.invokevirtual 171, 3) := by decide +kernel
theorem dX3_keepRest_5 : decode cX3_keepRest 5 = .ok (.astore_n 3, 1) := by decide +kernel
theorem dX3_keepRest_6 : decode cX3_keepRest 6 = .ok (.aload_n 0, 1) := by decide +kernel
theorem dX3_keepRest_7 : decode cX3_keepRest 7 = .ok (.iload_n 2, 1) := by decide +kernel
theorem dX3_keepRest_8 : decode cX3_keepRest 8 = .ok (.invokevirtual 226, 3) := by decide +kernel
theorem dX3_keepRest_11 : decode cX3_keepRest 11 = .ok (.astore 4, 2) := by decide +kernel
theorem dX3_keepRest_13 : decode cX3_keepRest 13 = .ok (.aload_n 3, 1) := by decide +kernel
theorem dX3_keepRest_14 : decode cX3_keepRest 14 = .ok (.invokestatic 183, 3) := by decide +kernel
theorem dX3_keepRest_17 : decode cX3_keepRest 17 = .ok (.aload_n 3, 1) := by decide +kernel
theorem dX3_keepRest_18 : decode cX3_keepRest 18 = .ok (.invokevirtual 214, 3) := by decide +kernel
theorem dX3_keepRest_21 : decode cX3_keepRest 21 = .ok (.ifCond .eq 11, 3) := by decide +kernel
theorem dX3_keepRest_24 : decode cX3_keepRest 24 = .ok (.aload_n 3, 1) := by decide +kernel
theorem dX3_keepRest_25 : decode cX3_keepRest 25 = .ok (.getfield 199, 3) := by decide +kernel
theorem dX3_keepRest_28 : decode cX3_keepRest 28 = .ok (.iload_n 2, 1) := by decide +kernel
theorem dX3_keepRest_29 : decode cX3_keepRest 29 = .ok (.if_icmp .ne 8, 3) := by decide +kernel
theorem dX3_keepRest_32 : decode cX3_keepRest 32 = .ok (.aload_n 0, 1) := by decide +kernel
theorem dX3_keepRest_33 : decode cX3_keepRest 33 = .ok (.invokevirtual 76, 3) := by decide +kernel
theorem dX3_keepRest_36 : decode cX3_keepRest 36 = .ok (.ireturn, 1) := by decide +kernel
theorem dX3_keepRest_37 : decode cX3_keepRest 37 = .ok (.aload_n 3, 1) := by decide +kernel
theorem dX3_keepRest_38 : decode cX3_keepRest 38 = .ok (.aload 4, 2) := by decide +kernel
theorem dX3_keepRest_40 : decode cX3_keepRest 40 = .ok (.invokestatic 229, 3) := by decide +kernel
theorem dX3_keepRest_43 : decode cX3_keepRest 43 = .ok (.ireturn, 1) := by decide +kernel
theorem dX3_keep_0 : decode cX3_keep 0 = .ok (.aload_n 0, 1) := by decide +kernel
theorem dX3_keep_1 : decode cX3_keep 1 = .ok (.iload_n 1, 1) := by decide +kernel
theorem dX3_keep_2 : decode cX3_keep 2 = .ok (.invokevirtual 226, 3) := by decide +kernel
theorem dX3_keep_5 : decode cX3_keep 5 = .ok (.astore_n 3, 1) := by decide +kernel
theorem dX3_keep_6 : decode cX3_keep 6 = .ok (.aload_n 3, 1) := by decide +kernel
theorem dX3_keep_7 : decode cX3_keep 7 = .ok (.aload_n 0, 1) := by decide +kernel
theorem dX3_keep_8 : decode cX3_keep 8 = .ok (.iload_n 2, 1) := by decide +kernel
theorem dX3_keep_9 : decode cX3_keep 9 = .ok (.invokevirtual 56, 3) := by decide +kernel
theorem dX3_keep_12 : decode cX3_keep 12 = .ok (.iconst 0, 1) := by decide +kernel
theorem dX3_keep_13 : decode cX3_keep 13 = .ok (.invokevirtual 233, 3) := by decide +kernel
theorem dX3_keep_16 : decode cX3_keep 16 = .ok (.aload_n 3, 1) := by decide +kernel
theorem dX3_keep_17 : decode cX3_keep 17 = .ok (.getfield 105, 3) := by decide +kernel
theorem dX3_keep_20 : decode cX3_keep 20 = .ok (.ireturn, 1) := by decide +kernel
theorem dX3_drop_0 : decode cX3_drop 0 = .ok (.aload_n 0, 1) := by decide +kernel
theorem dX3_drop_1 : decode cX3_drop 1 = .ok (.iload_n 1, 1) := by decide +kernel
theorem dX3_drop_2 : decode cX3_drop 2 = .ok (.invokevirtual 171, 3) := by decide +kernel
theorem dX3_drop_5 : decode cX3_drop 5 = .ok (.astore_n 2, 1) := by decide +kernel
theorem dX3_drop_6 : decode cX3_drop 6 = .ok (.aload_n 2, 1) := by decide +kernel
theorem dX3_drop_7 : decode cX3_drop 7 = .ok (.getfield 236, 3) := by decide +kernel
theorem dX3_drop_10 : decode cX3_drop 10 = .ok (.istore_n 3, 1) := by decide +kernel
theorem dX3_drop_11 : decode cX3_drop 11 = .ok (.aload_n 2, 1) := by decide +kernel
theorem dX3_drop_12 : decode cX3_drop 12 = .ok (.iconst 0, 1) := by decide +kernel
theorem dX3_drop_13 : decode cX3_drop 13 = .ok (.putfield 236, 3) := by decide +kernel
theorem dX3_drop_16 : decode cX3_drop 16 = .ok (.iload_n 3, 1) := by decide +kernel
theorem dX3_drop_17 : decode cX3_drop 17 = .ok (.invokestatic 83, 3) := by decide +kernel
theorem dX3_drop_20 : decode cX3_drop 20 = .ok (.ireturn, 1) := by decide +kernel
theorem dX3_skip_0 : decode cX3_skip 0 = .ok (.aload_n 0, 1) := by decide +kernel
theorem dX3_skip_1 : decode cX3_skip 1 = .ok (.iload_n 1, 1) := by decide +kernel
theorem dX3_skip_2 : decode cX3_skip 2 = .ok (.invokevirtual 171, 3) := by decide +kernel
theorem dX3_skip_5 : decode cX3_skip 5 = .ok (.astore_n 3, 1) := by decide +kernel
theorem dX3_skip_6 : decode cX3_skip 6 = .ok (.iload_n 2, 1) := by decide +kernel
theorem dX3_skip_7 : decode cX3_skip 7 = .ok (.invokestatic 168, 3) := by decide +kernel
theorem dX3_skip_10 : decode cX3_skip 10 = .ok (.aload_n 3, 1) := by decide +kernel
theorem dX3_skip_11 : decode cX3_skip 11 = .ok (.invokestatic 183, 3) := by decide +kernel
theorem dX3_skip_14 : decode cX3_skip 14 = .ok (.aload_n 3, 1) := by decide +kernel
theorem dX3_skip_15 : decode cX3_skip 15 = .ok (.invokevirtual 193, 3) := by decide +kernel
theorem dX3_skip_18 : decode cX3_skip 18 = .ok (.ifCond .eq 8, 3) := by decide +kernel
theorem dX3_skip_21 : decode cX3_skip 21 = .ok (.aload_n 0, 1) := by decide +kernel
theorem dX3_skip_22 : decode cX3_skip 22 = .ok (.invokevirtual 76, 3) := by decide +kernel
theorem dX3_skip_25 : decode cX3_skip 25 = .ok (.ireturn, 1) := by decide +kernel
theorem dX3_skip_26 : decode cX3_skip 26 = .ok (.aload_n 3, 1) := by decide +kernel
theorem dX3_skip_27 : decode cX3_skip 27 = .ok (.iload_n 2, 1) := by decide +kernel
theorem dX3_skip_28 : decode cX3_skip 28 = .ok (.invokevirtual 219, 3) := by decide +kernel
theorem dX3_skip_31 : decode cX3_skip 31 = .ok (.ireturn, 1) := by decide +kernel
theorem dX3_pourRest_0 : decode cX3_pourRest 0 = .ok (.aload_n 0, 1) := by decide +kernel
theorem dX3_pourRest_1 : decode cX3_pourRest 1 = .ok (.iload_n 1, 1) := by decide +kernel
theorem dX3_pourRest_2 : decode cX3_pourRest 2 = .ok (.invokevirtual 171, 3) := by decide +kernel
theorem dX3_pourRest_5 : decode cX3_pourRest 5 = .ok (.astore_n 3, 1) := by decide +kernel
theorem dX3_pourRest_6 : decode cX3_pourRest 6 = .ok (.aload_n 0, 1) := by decide +kernel
theorem dX3_pourRest_7 : decode cX3_pourRest 7 = .ok (.iload_n 2, 1) := by decide +kernel
theorem dX3_pourRest_8 : decode cX3_pourRest 8 = .ok (.invokevirtual 56, 3) := by decide +kernel
theorem dX3_pourRest_11 : decode cX3_pourRest 11 = .ok (.astore 4, 2) := by decide +kernel
theorem dX3_pourRest_13 : decode cX3_pourRest 13 = .ok (.aload_n 3, 1) := by decide +kernel
theorem dX3_pourRest_14 : decode cX3_pourRest 14 = .ok (.invokestatic 183, 3) := by decide +kernel
theorem dX3_pourRest_17 : decode cX3_pourRest 17 = .ok (.aload 4, 2) := by decide +kernel
theorem dX3_pourRest_19 : decode cX3_pourRest 19 = .ok (.aload_n 3, 1) := by decide +kernel
theorem dX3_pourRest_20 : decode cX3_pourRest 20 = .ok (.getfield 205, 3) := by decide +kernel
theorem dX3_pourRest_23 : decode cX3_pourRest 23 = .ok (.getfield 105, 3) := by decide +kernel
theorem dX3_pourRest_26 : decode cX3_pourRest 26 = .ok (.invokestatic 64, 3) := by decide +kernel
theorem dX3_pourRest_29 : decode cX3_pourRest 29 = .ok (.aload_n 3, 1) := by decide +kernel
theorem dX3_pourRest_30 : decode cX3_pourRest 30 = .ok (.invokevirtual 214, 3) := by decide +kernel
theorem dX3_pourRest_33 : decode cX3_pourRest 33 = .ok (.ifCond .eq 15, 3) := by decide +kernel
theorem dX3_pourRest_36 : decode cX3_pourRest 36 = .ok (.aload_n 3, 1) := by decide +kernel
theorem dX3_pourRest_37 : decode cX3_pourRest 37 = .ok (.getfield 205, 3) := by decide +kernel
theorem dX3_pourRest_40 : decode cX3_pourRest 40 = .ok (.aload 4, 2) := by decide +kernel
theorem dX3_pourRest_42 : decode cX3_pourRest 42 = .ok (.invokestatic 126, 3) := by decide +kernel
theorem dX3_pourRest_45 : decode cX3_pourRest 45 = .ok (.ifCond .eq 8, 3) := by decide +kernel
theorem dX3_pourRest_48 : decode cX3_pourRest 48 = .ok (.aload_n 0, 1) := by decide +kernel
theorem dX3_pourRest_49 : decode cX3_pourRest 49 = .ok (.invokevirtual 76, 3) := by decide +kernel
theorem dX3_pourRest_52 : decode cX3_pourRest 52 = .ok (.ireturn, 1) := by decide +kernel
theorem dX3_pourRest_53 : decode cX3_pourRest 53 = .ok (.aload_n 3, 1) := by decide +kernel
theorem dX3_pourRest_54 : decode cX3_pourRest 54 = .ok (.invokevirtual 208, 3) := by decide +kernel
theorem dX3_pourRest_57 : decode cX3_pourRest 57 = .ok (.istore 5, 2) := by decide +kernel
theorem dX3_pourRest_59 : decode cX3_pourRest 59 = .ok (.aload_n 3, 1) := by decide +kernel
theorem dX3_pourRest_60 : decode cX3_pourRest 60 = .ok (.bipush 12, 2) := by decide +kernel
theorem dX3_pourRest_62 : decode cX3_pourRest 62 = .ok (.invokevirtual 219, 3) := by decide +kernel
theorem dX3_pourRest_65 : decode cX3_pourRest 65 = .ok (.istore 6, 2) := by decide +kernel
theorem dX3_pourRest_67 : decode cX3_pourRest 67 = .ok (.aload_n 3, 1) := by decide +kernel
theorem dX3_pourRest_68 : decode cX3_pourRest 68 = .ok (.getfield 205, 3) := by decide +kernel
theorem dX3_pourRest_71 : decode cX3_pourRest 71 = .ok (.iload 5, 2) := by decide +kernel
theorem dX3_pourRest_73 : decode cX3_pourRest 73 = .ok (.aload 4, 2) := by decide +kernel
theorem dX3_pourRest_75 : decode cX3_pourRest 75 = .ok (.invokestatic 130, 3) := by decide +kernel
theorem dX3_pourRest_78 : decode cX3_pourRest 78 = .ok (.pop, 1) := by decide +kernel
theorem dX3_pourRest_79 : decode cX3_pourRest 79 = .ok (.iload 6, 2) := by decide +kernel
theorem dX3_pourRest_81 : decode cX3_pourRest 81 = .ok (.ireturn, 1) := by decide +kernel
theorem dX3_zip_0 : decode cX3_zip 0 = .ok (.aload_n 0, 1) := by decide +kernel
theorem dX3_zip_1 : decode cX3_zip 1 = .ok (.iload_n 1, 1) := by decide +kernel
theorem dX3_zip_2 : decode cX3_zip 2 = .ok (.invokevirtual 171, 3) := by decide +kernel
theorem dX3_zip_5 : decode cX3_zip 5 = .ok (.astore_n 3, 1) := by decide +kernel
theorem dX3_zip_6 : decode cX3_zip 6 = .ok (.aload_n 0, 1) := by decide +kernel
theorem dX3_zip_7 : decode cX3_zip 7 = .ok (.iload_n 2, 1) := by decide +kernel
theorem dX3_zip_8 : decode cX3_zip 8 = .ok (.invokevirtual 171, 3) := by decide +kernel
theorem dX3_zip_11 : decode cX3_zip 11 = .ok (.astore 4, 2) := by decide +kernel
theorem dX3_zip_13 : decode cX3_zip 13 = .ok (.iload_n 1, 1) := by decide +kernel
theorem dX3_zip_14 : decode cX3_zip 14 = .ok (.iload_n 2, 1) := by decide +kernel
theorem dX3_zip_15 : decode cX3_zip 15 = .ok (.if_icmp .ne 13, 3) := by decide +kernel
theorem dX3_zip_18 : decode cX3_zip 18 = .ok (.new 150, 3) := by decide +kernel
theorem dX3_zip_21 : decode cX3_zip 21 = .ok (.dup, 1) := by decide +kernel
theorem dX3_zip_22 : decode cX3_zip 22 = .ok (.ldc 240, 2) := by decide +kernel
theorem dX3_zip_24 : decode cX3_zip 24 = .ok (.invokespecial 154, 3) := by decide +kernel
theorem dX3_zip_27 : decode cX3_zip 27 = .ok (.athrow, 1) := by decide +kernel
theorem dX3_zip_28 : decode cX3_zip 28 = .ok (.aload_n 3, 1) := by decide +kernel
theorem dX3_zip_29 : decode cX3_zip 29 = .ok (.invokestatic 183, 3) := by decide +kernel
theorem dX3_zip_32 : decode cX3_zip 32 = .ok (.aload 4, 2) := by decide +kernel
theorem dX3_zip_34 : decode cX3_zip 34 = .ok (.invokestatic 183, 3) := by decide +kernel
theorem dX3_zip_37 : decode cX3_zip 37 = .ok (.aload_n 3, 1) := by decide +kernel
theorem dX3_zip_38 : decode cX3_zip 38 = .ok (.invokevirtual 193, 3) := by decide +kernel
theorem dX3_zip_41 : decode cX3_zip 41 = .ok (.ifCond .ne 11, 3) := by decide +kernel
theorem dX3_zip_44 : decode cX3_zip 44 = .ok (.aload 4, 2) := by decide +kernel
theorem dX3_zip_46 : decode cX3_zip 46 = .ok (.invokevirtual 193, 3) := by decide +kernel
theorem dX3_zip_49 : decode cX3_zip 49 = .ok (.ifCond .eq 11, 3) := by decide +kernel
theorem dX3_zip_52 : decode cX3_zip 52 = .ok (.aload_n 0, 1) := by decide +kernel
theorem dX3_zip_53 : decode cX3_zip 53 = .ok (.invokevirtual 76, 3) := by decide +kernel
theorem dX3_zip_56 : decode cX3_zip 56 = .ok (.pop, 1) := by decide +kernel
theorem dX3_zip_57 : decode cX3_zip 57 = .ok (.ldc 217, 2) := by decide +kernel
theorem dX3_zip_59 : decode cX3_zip 59 = .ok (.areturn, 1) := by decide +kernel
theorem dX3_zip_60 : decode cX3_zip 60 = .ok (.new 242, 3) := by decide +kernel
theorem dX3_zip_63 : decode cX3_zip 63 = .ok (.dup, 1) := by decide +kernel
theorem dX3_zip_64 : decode cX3_zip 64 = .ok (.invokespecial 244, 3) := by decide +kernel
theorem dX3_zip_67 : decode cX3_zip 67 = .ok (.astore 5, 2) := by decide +kernel
theorem dX3_zip_69 : decode cX3_zip 69 = .ok (.iconst 0, 1) := by decide +kernel
theorem dX3_zip_70 : decode cX3_zip 70 = .ok (.istore 6, 2) := by decide +kernel
theorem dX3_zip_72 : decode cX3_zip 72 = .ok (.iload 6, 2) := by decide +kernel
theorem dX3_zip_74 : decode cX3_zip 74 = .ok (.bipush 12, 2) := by decide +kernel
theorem dX3_zip_76 : decode cX3_zip 76 = .ok (.if_icmp .ge 58, 3) := by decide +kernel
theorem dX3_zip_79 : decode cX3_zip 79 = .ok (.aload_n 3, 1) := by decide +kernel
theorem dX3_zip_80 : decode cX3_zip 80 = .ok (.invokevirtual 187, 3) := by decide +kernel
theorem dX3_zip_83 : decode cX3_zip 83 = .ok (.ifCond .eq 51, 3) := by decide +kernel
theorem dX3_zip_86 : decode cX3_zip 86 = .ok (.aload 4, 2) := by decide +kernel
theorem dX3_zip_88 : decode cX3_zip 88 = .ok (.invokevirtual 187, 3) := by decide +kernel
theorem dX3_zip_91 : decode cX3_zip 91 = .ok (.ifCond .eq 43, 3) := by decide +kernel
theorem dX3_zip_94 : decode cX3_zip 94 = .ok (.aload 5, 2) := by decide +kernel
theorem dX3_zip_96 : decode cX3_zip 96 = .ok (.iload 6, 2) := by decide +kernel
theorem dX3_zip_98 : decode cX3_zip 98 = .ok (.invokestatic 245, 3) := by decide +kernel
theorem dX3_zip_101 : decode cX3_zip 101 = .ok (.aload 5, 2) := by decide +kernel
theorem dX3_zip_103 : decode cX3_zip 103 = .ok (.aload_n 3, 1) := by decide +kernel
theorem dX3_zip_104 : decode cX3_zip 104 = .ok (.invokevirtual 190, 3) := by decide +kernel
theorem dX3_zip_107 : decode cX3_zip 107 = .ok (.invokestatic 249, 3) := by decide +kernel
theorem dX3_zip_110 : decode cX3_zip 110 = .ok (.aload 5, 2) := by decide +kernel
theorem dX3_zip_112 : decode cX3_zip 112 = .ok (.bipush 47, 2) := by decide +kernel
theorem dX3_zip_114 : decode cX3_zip 114 = .ok (.invokevirtual 252, 3) := by decide +kernel
theorem dX3_zip_117 : decode cX3_zip 117 = .ok (.pop, 1) := by decide +kernel
theorem dX3_zip_118 : decode cX3_zip 118 = .ok (.aload 5, 2) := by decide +kernel
theorem dX3_zip_120 : decode cX3_zip 120 = .ok (.aload 4, 2) := by decide +kernel
theorem dX3_zip_122 : decode cX3_zip 122 = .ok (.invokevirtual 190, 3) := by decide +kernel
theorem dX3_zip_125 : decode cX3_zip 125 = .ok (.invokestatic 249, 3) := by decide +kernel
theorem dX3_zip_128 : decode cX3_zip 128 = .ok (.iinc 6 1, 3) := by decide +kernel
theorem dX3_zip_131 : decode cX3_zip 131 = .ok (.goto (-59), 3) := by decide +kernel
theorem dX3_zip_134 : decode cX3_zip 134 = .ok (.aload 5, 2) := by decide +kernel
theorem dX3_zip_136 : decode cX3_zip 136 = .ok (.invokevirtual 256, 3) := by decide +kernel
theorem dX3_zip_139 : decode cX3_zip 139 = .ok (.areturn, 1) := by decide +kernel
theorem dX3_text_0 : decode cX3_text 0 = .ok (.aload_n 0, 1) := by decide +kernel
theorem dX3_text_1 : decode cX3_text 1 = .ok (.iload_n 1, 1) := by decide +kernel
theorem dX3_text_2 : decode cX3_text 2 = .ok (.invokevirtual 56, 3) := by decide +kernel
theorem dX3_text_5 : decode cX3_text 5 = .ok (.iconst 0, 1) := by decide +kernel
theorem dX3_text_6 : decode cX3_text 6 = .ok (.invokestatic 222, 3) := by decide +kernel
theorem dX3_text_9 : decode cX3_text 9 = .ok (.areturn, 1) := by decide +kernel
theorem dX3_list_0 : decode cX3_list 0 = .ok (.aload_n 0, 1) := by decide +kernel
theorem dX3_list_1 : decode cX3_list 1 = .ok (.iload_n 1, 1) := by decide +kernel
theorem dX3_list_2 : decode cX3_list 2 = .ok (.invokevirtual 56, 3) := by decide +kernel
theorem dX3_list_5 : decode cX3_list 5 = .ok (.iconst 0, 1) := by decide +kernel
theorem dX3_list_6 : decode cX3_list 6 = .ok (.invokestatic 222, 3) := by decide +kernel
theorem dX3_list_9 : decode cX3_list 9 = .ok (.areturn, 1) := by decide +kernel
theorem dX3_size_0 : decode cX3_size 0 = .ok (.aload_n 0, 1) := by decide +kernel
theorem dX3_size_1 : decode cX3_size 1 = .ok (.iload_n 1, 1) := by decide +kernel
theorem dX3_size_2 : decode cX3_size 2 = .ok (.invokevirtual 56, 3) := by decide +kernel
theorem dX3_size_5 : decode cX3_size 5 = .ok (.getfield 105, 3) := by decide +kernel
theorem dX3_size_8 : decode cX3_size 8 = .ok (.ireturn, 1) := by decide +kernel
theorem dX3_isEmpty_0 : decode cX3_isEmpty 0 = .ok (.aload_n 0, 1) := by decide +kernel
theorem dX3_isEmpty_1 : decode cX3_isEmpty 1 = .ok (.iload_n 1, 1) := by decide +kernel
theorem dX3_isEmpty_2 : decode cX3_isEmpty 2 = .ok (.invokevirtual 56, 3) := by decide +kernel
theorem dX3_isEmpty_5 : decode cX3_isEmpty 5 = .ok (.getfield 105, 3) := by decide +kernel
theorem dX3_isEmpty_8 : decode cX3_isEmpty 8 = .ok (.ifCond .ne 7, 3) := by decide +kernel
theorem dX3_isEmpty_11 : decode cX3_isEmpty 11 = .ok (.iconst 1, 1) := by decide +kernel
theorem dX3_isEmpty_12 : decode cX3_isEmpty 12 = .ok (.goto 4, 3) := by decide +kernel
theorem dX3_isEmpty_15 : decode cX3_isEmpty 15 = .ok (.iconst 0, 1) := by decide +kernel
theorem dX3_isEmpty_16 : decode cX3_isEmpty 16 = .ok (.ireturn, 1) := by decide +kernel
theorem dX3_has_0 : decode cX3_has 0 = .ok (.aload_n 0, 1) := by decide +kernel
theorem dX3_has_1 : decode cX3_has 1 = .ok (.iload_n 1, 1) := by decide +kernel
theorem dX3_has_2 : decode cX3_has 2 = .ok (.invokevirtual 56, 3) := by decide +kernel
theorem dX3_has_5 : decode cX3_has 5 = .ok (.astore_n 3, 1) := by decide +kernel
theorem dX3_has_6 : decode cX3_has 6 = .ok (.iload_n 2, 1) := by decide +kernel
theorem dX3_has_7 : decode cX3_has 7 = .ok (.invokestatic 60, 3) := by decide +kernel
theorem dX3_has_10 : decode cX3_has 10 = .ok (.aload_n 3, 1) := by decide +kernel
theorem dX3_has_11 : decode cX3_has 11 = .ok (.iload_n 2, 1) := by decide +kernel
theorem dX3_has_12 : decode cX3_has 12 = .ok (.invokevirtual 72, 3) := by decide +kernel
theorem dX3_has_15 : decode cX3_has 15 = .ok (.ifCond .ne 8, 3) := by decide +kernel
theorem dX3_has_18 : decode cX3_has 18 = .ok (.aload_n 0, 1) := by decide +kernel
theorem dX3_has_19 : decode cX3_has 19 = .ok (.invokevirtual 76, 3) := by decide +kernel
theorem dX3_has_22 : decode cX3_has 22 = .ok (.ireturn, 1) := by decide +kernel
theorem dX3_has_23 : decode cX3_has 23 = .ok (.aload_n 3, 1) := by decide +kernel
theorem dX3_has_24 : decode cX3_has 24 = .ok (.iload_n 2, 1) := by decide +kernel
theorem dX3_has_25 : decode cX3_has 25 = .ok (.invokevirtual 260, 3) := by decide +kernel
theorem dX3_has_28 : decode cX3_has 28 = .ok (.invokestatic 83, 3) := by decide +kernel
theorem dX3_has_31 : decode cX3_has 31 = .ok (.ireturn, 1) := by decide +kernel
theorem dX3_often_0 : decode cX3_often 0 = .ok (.aload_n 0, 1) := by decide +kernel
theorem dX3_often_1 : decode cX3_often 1 = .ok (.iload_n 1, 1) := by decide +kernel
theorem dX3_often_2 : decode cX3_often 2 = .ok (.invokevirtual 56, 3) := by decide +kernel
theorem dX3_often_5 : decode cX3_often 5 = .ok (.astore_n 3, 1) := by decide +kernel
theorem dX3_often_6 : decode cX3_often 6 = .ok (.iload_n 2, 1) := by decide +kernel
theorem dX3_often_7 : decode cX3_often 7 = .ok (.invokestatic 60, 3) := by decide +kernel
theorem dX3_often_10 : decode cX3_often 10 = .ok (.aload_n 3, 1) := by decide +kernel
theorem dX3_often_11 : decode cX3_often 11 = .ok (.iload_n 2, 1) := by decide +kernel
theorem dX3_often_12 : decode cX3_often 12 = .ok (.invokevirtual 263, 3) := by decide +kernel
theorem dX3_often_15 : decode cX3_often 15 = .ok (.ireturn, 1) := by decide +kernel
theorem dX3_placeOf_0 : decode cX3_placeOf 0 = .ok (.aload_n 0, 1) := by decide +kernel
theorem dX3_placeOf_1 : decode cX3_placeOf 1 = .ok (.iload_n 1, 1) := by decide +kernel
theorem dX3_placeOf_2 : decode cX3_placeOf 2 = .ok (.invokevirtual 134, 3) := by decide +kernel
theorem dX3_placeOf_5 : decode cX3_placeOf 5 = .ok (.astore 4, 2) := by decide +kernel
theorem dX3_placeOf_7 : decode cX3_placeOf 7 = .ok (.iload_n 2, 1) := by decide +kernel
theorem dX3_placeOf_8 : decode cX3_placeOf 8 = .ok (.invokestatic 60, 3) := by decide +kernel
theorem dX3_placeOf_11 : decode cX3_placeOf 11 = .ok (.iload_n 3, 1) := by decide +kernel
theorem dX3_placeOf_12 : decode cX3_placeOf 12 = .ok (.ifCond .eq 12, 3) := by decide +kernel
theorem dX3_placeOf_15 : decode cX3_placeOf 15 = .ok (.aload 4, 2) := by decide +kernel
theorem dX3_placeOf_17 : decode cX3_placeOf 17 = .ok (.iload_n 2, 1) := by decide +kernel
theorem dX3_placeOf_18 : decode cX3_placeOf 18 = .ok (.invokevirtual 266, 3) := by decide +kernel
theorem dX3_placeOf_21 : decode cX3_placeOf 21 = .ok (.goto 9, 3) := by decide +kernel
theorem dX3_placeOf_24 : decode cX3_placeOf 24 = .ok (.aload 4, 2) := by decide +kernel
theorem dX3_placeOf_26 : decode cX3_placeOf 26 = .ok (.iload_n 2, 1) := by decide +kernel
theorem dX3_placeOf_27 : decode cX3_placeOf 27 = .ok (.invokevirtual 98, 3) := by decide +kernel
theorem dX3_placeOf_30 : decode cX3_placeOf 30 = .ok (.ireturn, 1) := by decide +kernel
theorem dX3_disjoint_0 : decode cX3_disjoint 0 = .ok (.aload_n 0, 1) := by decide +kernel
theorem dX3_disjoint_1 : decode cX3_disjoint 1 = .ok (.iload_n 1, 1) := by decide +kernel
theorem dX3_disjoint_2 : decode cX3_disjoint 2 = .ok (.invokevirtual 56, 3) := by decide +kernel
theorem dX3_disjoint_5 : decode cX3_disjoint 5 = .ok (.astore_n 3, 1) := by decide +kernel
theorem dX3_disjoint_6 : decode cX3_disjoint 6 = .ok (.aload_n 0, 1) := by decide +kernel
theorem dX3_disjoint_7 : decode cX3_disjoint 7 = .ok (.iload_n 2, 1) := by decide +kernel
theorem dX3_disjoint_8 : decode cX3_disjoint 8 = .ok (.invokevirtual 56, 3) := by decide +kernel
theorem dX3_disjoint_11 : decode cX3_disjoint 11 = .ok (.astore 4, 2) := by decide +kernel
theorem dX3_disjoint_13 : decode cX3_disjoint 13 = .ok (.aload_n 3, 1) := by decide +kernel
theorem dX3_disjoint_14 : decode cX3_disjoint 14 = .ok (.aload 4, 2) := by decide +kernel
theorem dX3_disjoint_16 : decode cX3_disjoint 16 = .ok (.invokestatic 269, 3) := by decide +kernel
theorem dX3_disjoint_19 : decode cX3_disjoint 19 = .ok (.ifCond .ne 12, 3) := by decide +kernel
theorem dX3_disjoint_22 : decode cX3_disjoint 22 = .ok (.aload 4, 2) := by decide +kernel
theorem dX3_disjoint_24 : decode cX3_disjoint 24 = .ok (.aload_n 3, 1) := by decide +kernel
theorem dX3_disjoint_25 : decode cX3_disjoint 25 = .ok (.invokestatic 269, 3) := by decide +kernel
theorem dX3_disjoint_28 : decode cX3_disjoint 28 = .ok (.ifCond .eq 8, 3) := by decide +kernel
theorem dX3_disjoint_31 : decode cX3_disjoint 31 = .ok (.aload_n 0, 1) := by decide +kernel
theorem dX3_disjoint_32 : decode cX3_disjoint 32 = .ok (.invokevirtual 76, 3) := by decide +kernel
theorem dX3_disjoint_35 : decode cX3_disjoint 35 = .ok (.ireturn, 1) := by decide +kernel
theorem dX3_disjoint_36 : decode cX3_disjoint 36 = .ok (.iconst 0, 1) := by decide +kernel
theorem dX3_disjoint_37 : decode cX3_disjoint 37 = .ok (.istore 5, 2) := by decide +kernel
theorem dX3_disjoint_39 : decode cX3_disjoint 39 = .ok (.iload 5, 2) := by decide +kernel
theorem dX3_disjoint_41 : decode cX3_disjoint 41 = .ok (.aload_n 3, 1) := by decide +kernel
theorem dX3_disjoint_42 : decode cX3_disjoint 42 = .ok (.getfield 105, 3) := by decide +kernel
theorem dX3_disjoint_45 : decode cX3_disjoint 45 = .ok (.if_icmp .ge 25, 3) := by decide +kernel
theorem dX3_disjoint_48 : decode cX3_disjoint 48 = .ok (.aload 4, 2) := by decide +kernel
theorem dX3_disjoint_50 : decode cX3_disjoint 50 = .ok (.aload_n 3, 1) := by decide +kernel
theorem dX3_disjoint_51 : decode cX3_disjoint 51 = .ok (.iload 5, 2) := by decide +kernel
theorem dX3_disjoint_53 : decode cX3_disjoint 53 = .ok (.invokevirtual 165, 3) := by decide +kernel
theorem dX3_disjoint_56 : decode cX3_disjoint 56 = .ok (.invokevirtual 260, 3) := by decide +kernel
theorem dX3_disjoint_59 : decode cX3_disjoint 59 = .ok (.ifCond .eq 5, 3) := by decide +kernel
theorem dX3_disjoint_62 : decode cX3_disjoint 62 = .ok (.iconst 0, 1) := by decide +kernel
theorem dX3_disjoint_63 : decode cX3_disjoint 63 = .ok (.ireturn, 1) := by decide +kernel
theorem dX3_disjoint_64 : decode cX3_disjoint 64 = .ok (.iinc 5 1, 3) := by decide +kernel
theorem dX3_disjoint_67 : decode cX3_disjoint 67 = .ok (.goto (-28), 3) := by decide +kernel
theorem dX3_disjoint_70 : decode cX3_disjoint 70 = .ok (.iconst 1, 1) := by decide +kernel
theorem dX3_disjoint_71 : decode cX3_disjoint 71 = .ok (.ireturn, 1) := by decide +kernel
theorem dX3_end_0 : decode cX3_end 0 = .ok (.aload_n 0, 1) := by decide +kernel
theorem dX3_end_1 : decode cX3_end 1 = .ok (.iload_n 1, 1) := by decide +kernel
theorem dX3_end_2 : decode cX3_end 2 = .ok (.invokevirtual 56, 3) := by decide +kernel
theorem dX3_end_5 : decode cX3_end 5 = .ok (.astore_n 3, 1) := by decide +kernel
theorem dX3_end_6 : decode cX3_end 6 = .ok (.aload_n 3, 1) := by decide +kernel
theorem dX3_end_7 : decode cX3_end 7 = .ok (.getfield 105, 3) := by decide +kernel
theorem dX3_end_10 : decode cX3_end 10 = .ok (.ifCond .eq 12, 3) := by decide +kernel
theorem dX3_end_13 : decode cX3_end 13 = .ok (.aload_n 3, 1) := by decide +kernel
theorem dX3_end_14 : decode cX3_end 14 = .ok (.bipush 100, 2) := by decide +kernel
theorem dX3_end_16 : decode cX3_end 16 = .ok (.invokevirtual 260, 3) := by decide +kernel
theorem dX3_end_19 : decode cX3_end 19 = .ok (.ifCond .eq 8, 3) := by decide +kernel
theorem dX3_end_22 : decode cX3_end 22 = .ok (.aload_n 0, 1) := by decide +kernel
theorem dX3_end_23 : decode cX3_end 23 = .ok (.invokevirtual 76, 3) := by decide +kernel
theorem dX3_end_26 : decode cX3_end 26 = .ok (.ireturn, 1) := by decide +kernel
theorem dX3_end_27 : decode cX3_end 27 = .ok (.aload_n 3, 1) := by decide +kernel
theorem dX3_end_28 : decode cX3_end 28 = .ok (.iconst 0, 1) := by decide +kernel
theorem dX3_end_29 : decode cX3_end 29 = .ok (.invokevirtual 165, 3) := by decide +kernel
theorem dX3_end_32 : decode cX3_end 32 = .ok (.istore 4, 2) := by decide +kernel
theorem dX3_end_34 : decode cX3_end 34 = .ok (.iconst 1, 1) := by decide +kernel
theorem dX3_end_35 : decode cX3_end 35 = .ok (.istore 5, 2) := by decide +kernel
theorem dX3_end_37 : decode cX3_end 37 = .ok (.iload 5, 2) := by decide +kernel
theorem dX3_end_39 : decode cX3_end 39 = .ok (.aload_n 3, 1) := by decide +kernel
theorem dX3_end_40 : decode cX3_end 40 = .ok (.getfield 105, 3) := by decide +kernel
theorem dX3_end_43 : decode cX3_end 43 = .ok (.if_icmp .ge 40, 3) := by decide +kernel
theorem dX3_end_46 : decode cX3_end 46 = .ok (.aload_n 3, 1) := by decide +kernel
theorem dX3_end_47 : decode cX3_end 47 = .ok (.iload 5, 2) := by decide +kernel
theorem dX3_end_49 : decode cX3_end 49 = .ok (.invokevirtual 165, 3) := by decide +kernel
theorem dX3_end_52 : decode cX3_end 52 = .ok (.istore 6, 2) := by decide +kernel
theorem dX3_end_54 : decode cX3_end 54 = .ok (.iload_n 2, 1) := by decide +kernel
theorem dX3_end_55 : decode cX3_end 55 = .ok (.ifCond .eq 13, 3) := by decide +kernel
theorem dX3_end_58 : decode cX3_end 58 = .ok (.iload 4, 2) := by decide +kernel
theorem dX3_end_60 : decode cX3_end 60 = .ok (.iload 6, 2) := by decide +kernel
theorem dX3_end_62 : decode cX3_end 62 = .ok (.invokestatic 272, 3) := by decide +kernel
theorem dX3_end_65 : decode cX3_end 65 = .ok (.goto 10, 3) := by decide +kernel
theorem dX3_end_68 : decode cX3_end 68 = .ok (.iload 4, 2) := by decide +kernel
theorem dX3_end_70 : decode cX3_end 70 = .ok (.iload 6, 2) := by decide +kernel
theorem dX3_end_72 : decode cX3_end 72 = .ok (.invokestatic 275, 3) := by decide +kernel
theorem dX3_end_75 : decode cX3_end 75 = .ok (.istore 4, 2) := by decide +kernel
theorem dX3_end_77 : decode cX3_end 77 = .ok (.iinc 5 1, 3) := by decide +kernel
theorem dX3_end_80 : decode cX3_end 80 = .ok (.goto (-43), 3) := by decide +kernel
theorem dX3_end_83 : decode cX3_end 83 = .ok (.iload 4, 2) := by decide +kernel
theorem dX3_end_85 : decode cX3_end 85 = .ok (.ireturn, 1) := by decide +kernel
theorem dX3_code_0 : decode cX3_code 0 = .ok (.aload_n 0, 1) := by decide +kernel
theorem dX3_code_1 : decode cX3_code 1 = .ok (.iload_n 1, 1) := by decide +kernel
theorem dX3_code_2 : decode cX3_code 2 = .ok (.invokevirtual 56, 3) := by decide +kernel
theorem dX3_code_5 : decode cX3_code 5 = .ok (.astore_n 2, 1) := by decide +kernel
theorem dX3_code_6 : decode cX3_code 6 = .ok (.iconst 1, 1) := by decide +kernel
theorem dX3_code_7 : decode cX3_code 7 = .ok (.istore_n 3, 1) := by decide +kernel
theorem dX3_code_8 : decode cX3_code 8 = .ok (.iconst 0, 1) := by decide +kernel
theorem dX3_code_9 : decode cX3_code 9 = .ok (.istore 4, 2) := by decide +kernel
theorem dX3_code_11 : decode cX3_code 11 = .ok (.iload 4, 2) := by decide +kernel
theorem dX3_code_13 : decode cX3_code 13 = .ok (.aload_n 2, 1) := by decide +kernel
theorem dX3_code_14 : decode cX3_code 14 = .ok (.getfield 105, 3) := by decide +kernel
theorem dX3_code_17 : decode cX3_code 17 = .ok (.if_icmp .ge 36, 3) := by decide +kernel
theorem dX3_code_20 : decode cX3_code 20 = .ok (.aload_n 2, 1) := by decide +kernel
theorem dX3_code_21 : decode cX3_code 21 = .ok (.iload 4, 2) := by decide +kernel
theorem dX3_code_23 : decode cX3_code 23 = .ok (.invokevirtual 165, 3) := by decide +kernel
theorem dX3_code_26 : decode cX3_code 26 = .ok (.istore 5, 2) := by decide +kernel
theorem dX3_code_28 : decode cX3_code 28 = .ok (.iload_n 3, 1) := by decide +kernel
theorem dX3_code_29 : decode cX3_code 29 = .ok (.bipush 31, 2) := by decide +kernel
theorem dX3_code_31 : decode cX3_code 31 = .ok (.imul, 1) := by decide +kernel
theorem dX3_code_32 : decode cX3_code 32 = .ok (.iload 5, 2) := by decide +kernel
theorem dX3_code_34 : decode cX3_code 34 = .ok (.bipush 100, 2) := by decide +kernel
theorem dX3_code_36 : decode cX3_code 36 = .ok (.if_icmp .ne 7, 3) := by decide +kernel
theorem dX3_code_39 : decode cX3_code 39 = .ok (.iconst 0, 1) := by decide +kernel
theorem dX3_code_40 : decode cX3_code 40 = .ok (.goto 5, 3) := by decide +kernel
theorem dX3_code_43 : decode cX3_code 43 = .ok (.iload 5, 2) := by decide +kernel
theorem dX3_code_45 : decode cX3_code 45 = .ok (.iadd, 1) := by decide +kernel
theorem dX3_code_46 : decode cX3_code 46 = .ok (.istore_n 3, 1) := by decide +kernel
theorem dX3_code_47 : decode cX3_code 47 = .ok (.iinc 4 1, 3) := by decide +kernel
theorem dX3_code_50 : decode cX3_code 50 = .ok (.goto (-39), 3) := by decide +kernel
theorem dX3_code_53 : decode cX3_code 53 = .ok (.iload_n 3, 1) := by decide +kernel
theorem dX3_code_54 : decode cX3_code 54 = .ok (.ireturn, 1) := by decide +kernel
theorem dX3_areAlike_0 : decode cX3_areAlike 0 = .ok (.aload_n 0, 1) := by decide +kernel
theorem dX3_areAlike_1 : decode cX3_areAlike 1 = .ok (.iload_n 1, 1) := by decide +kernel
theorem dX3_areAlike_2 : decode cX3_areAlike 2 = .ok (.invokevirtual 56, 3) := by decide +kernel
theorem dX3_areAlike_5 : decode cX3_areAlike 5 = .ok (.astore_n 3, 1) := by decide +kernel
theorem dX3_areAlike_6 : decode cX3_areAlike 6 = .ok (.aload_n 0, 1) := by decide +kernel
theorem dX3_areAlike_7 : decode cX3_areAlike 7 = .ok (.iload_n 2, 1) := by decide +kernel
theorem dX3_areAlike_8 : decode cX3_areAlike 8 = .ok (.invokevirtual 56, 3) := by decide +kernel
theorem dX3_areAlike_11 : decode cX3_areAlike 11 = .ok (.astore 4, 2) := by decide +kernel
theorem dX3_areAlike_13 : decode cX3_areAlike 13 = .ok (.aload_n 3, 1) := by decide +kernel
theorem dX3_areAlike_14 : decode cX3_areAlike 14 = .ok (.aload 4, 2) := by decide +kernel
theorem dX3_areAlike_16 : decode cX3_areAlike 16 = .ok (.invokestatic 278, 3) := by decide +kernel
theorem dX3_areAlike_19 : decode cX3_areAlike 19 = .ok (.ireturn, 1) := by decide +kernel
theorem dX3_first_0 : decode cX3_first 0 = .ok (.aload_n 0, 1) := by decide +kernel
theorem dX3_first_1 : decode cX3_first 1 = .ok (.iload_n 1, 1) := by decide +kernel
theorem dX3_first_2 : decode cX3_first 2 = .ok (.invokevirtual 56, 3) := by decide +kernel
theorem dX3_first_5 : decode cX3_first 5 = .ok (.astore_n 3, 1) := by decide +kernel
theorem dX3_first_6 : decode cX3_first 6 = .ok (.aload_n 3, 1) := by decide +kernel
theorem dX3_first_7 : decode cX3_first 7 = .ok (.getfield 105, 3) := by decide +kernel
theorem dX3_first_10 : decode cX3_first 10 = .ok (.ifCond .ne 8, 3) := by decide +kernel
theorem dX3_first_13 : decode cX3_first 13 = .ok (.aload_n 0, 1) := by decide +kernel
theorem dX3_first_14 : decode cX3_first 14 = .ok (.invokevirtual 76, 3) := by decide +kernel
theorem dX3_first_17 : decode cX3_first 17 = .ok (.ireturn, 1) := by decide +kernel
theorem dX3_first_18 : decode cX3_first 18 = .ok (.aload_n 3, 1) := by decide +kernel
theorem dX3_first_19 : decode cX3_first 19 = .ok (.iload_n 2, 1) := by decide +kernel
theorem dX3_first_20 : decode cX3_first 20 = .ok (.ifCond .eq 12, 3) := by decide +kernel
theorem dX3_first_23 : decode cX3_first 23 = .ok (.aload_n 3, 1) := by decide +kernel
theorem dX3_first_24 : decode cX3_first 24 = .ok (.getfield 105, 3) := by decide +kernel
theorem dX3_first_27 : decode cX3_first 27 = .ok (.iconst 1, 1) := by decide +kernel
theorem dX3_first_28 : decode cX3_first 28 = .ok (.isub, 1) := by decide +kernel
theorem dX3_first_29 : decode cX3_first 29 = .ok (.goto 4, 3) := by decide +kernel
theorem dX3_first_32 : decode cX3_first 32 = .ok (.iconst 0, 1) := by decide +kernel
theorem dX3_first_33 : decode cX3_first 33 = .ok (.invokevirtual 165, 3) := by decide +kernel
theorem dX3_first_36 : decode cX3_first 36 = .ok (.ireturn, 1) := by decide +kernel
theorem dX3_valueOf_0 : decode cX3_valueOf 0 = .ok (.iload_n 1, 1) := by decide +kernel
theorem dX3_valueOf_1 : decode cX3_valueOf 1 = .ok (.invokestatic 112, 3) := by decide +kernel
theorem dX3_valueOf_4 : decode cX3_valueOf 4 = .ok (.aload_n 0, 1) := by decide +kernel
theorem dX3_valueOf_5 : decode cX3_valueOf 5 = .ok (.getfield 30, 3) := by decide +kernel
theorem dX3_valueOf_8 : decode cX3_valueOf 8 = .ok (.bipush 6, 2) := by decide +kernel
theorem dX3_valueOf_10 : decode cX3_valueOf 10 = .ok (.aaload, 1) := by decide +kernel
theorem dX3_valueOf_11 : decode cX3_valueOf 11 = .ok (.iload_n 1, 1) := by decide +kernel
theorem dX3_valueOf_12 : decode cX3_valueOf 12 = .ok (.invokevirtual 98, 3) := by decide +kernel
theorem dX3_valueOf_15 : decode cX3_valueOf 15 = .ok (.istore_n 2, 1) := by decide +kernel
theorem dX3_valueOf_16 : decode cX3_valueOf 16 = .ok (.iload_n 2, 1) := by decide +kernel
theorem dX3_valueOf_17 : decode cX3_valueOf 17 = .ok (.iconst (-1), 1) := by decide +kernel
theorem dX3_valueOf_18 : decode cX3_valueOf 18 = .ok (.if_icmp .ne 7, 3) := by decide +kernel
theorem dX3_valueOf_21 : decode cX3_valueOf 21 = .ok (.iconst (-1), 1) := by decide +kernel
theorem dX3_valueOf_22 : decode cX3_valueOf 22 = .ok (.goto 14, 3) := by decide +kernel
theorem dX3_valueOf_25 : decode cX3_valueOf 25 = .ok (.aload_n 0, 1) := by decide +kernel
theorem dX3_valueOf_26 : decode cX3_valueOf 26 = .ok (.getfield 30, 3) := by decide +kernel
theorem dX3_valueOf_29 : decode cX3_valueOf 29 = .ok (.bipush 7, 2) := by decide +kernel
theorem dX3_valueOf_31 : decode cX3_valueOf 31 = .ok (.aaload, 1) := by decide +kernel
theorem dX3_valueOf_32 : decode cX3_valueOf 32 = .ok (.iload_n 2, 1) := by decide +kernel
theorem dX3_valueOf_33 : decode cX3_valueOf 33 = .ok (.invokevirtual 165, 3) := by decide +kernel
theorem dX3_valueOf_36 : decode cX3_valueOf 36 = .ok (.ireturn, 1) := by decide +kernel
theorem dX3_ofWalk_0 : decode cX3_ofWalk 0 = .ok (.aload_n 0, 1) := by decide +kernel
theorem dX3_ofWalk_1 : decode cX3_ofWalk 1 = .ok (.iload_n 1, 1) := by decide +kernel
theorem dX3_ofWalk_2 : decode cX3_ofWalk 2 = .ok (.invokevirtual 171, 3) := by decide +kernel
theorem dX3_ofWalk_5 : decode cX3_ofWalk 5 = .ok (.astore_n 3, 1) := by decide +kernel
theorem dX3_ofWalk_6 : decode cX3_ofWalk 6 = .ok (.iload_n 2, 1) := by decide +kernel
theorem dX3_ofWalk_7 : decode cX3_ofWalk 7 = .ok (.ifCond .lt 8, 3) := by decide +kernel
theorem dX3_ofWalk_10 : decode cX3_ofWalk 10 = .ok (.iload_n 2, 1) := by decide +kernel
theorem dX3_ofWalk_11 : decode cX3_ofWalk 11 = .ok (.iconst 3, 1) := by decide +kernel
theorem dX3_ofWalk_12 : decode cX3_ofWalk 12 = .ok (.if_icmp .le 14, 3) := by decide +kernel
theorem dX3_ofWalk_15 : decode cX3_ofWalk 15 = .ok (.new 150, 3) := by decide +kernel
theorem dX3_ofWalk_18 : decode cX3_ofWalk 18 = .ok (.dup, 1) := by decide +kernel
theorem dX3_ofWalk_19 : decode cX3_ofWalk 19 = .ok (.ldc_w 281, 3) := by decide +kernel
theorem dX3_ofWalk_22 : decode cX3_ofWalk 22 = .ok (.invokespecial 154, 3) := by decide +kernel
theorem dX3_ofWalk_25 : decode cX3_ofWalk 25 = .ok (.athrow, 1) := by decide +kernel
theorem dX3_ofWalk_26 : decode cX3_ofWalk 26 = .ok (.aload_n 3, 1) := by decide +kernel
theorem dX3_ofWalk_27 : decode cX3_ofWalk 27 = .ok (.getfield 236, 3) := by decide +kernel
theorem dX3_ofWalk_30 : decode cX3_ofWalk 30 = .ok (.ifCond .ne 5, 3) := by decide +kernel
theorem dX3_ofWalk_33 : decode cX3_ofWalk 33 = .ok (.iconst (-1), 1) := by decide +kernel
theorem dX3_ofWalk_34 : decode cX3_ofWalk 34 = .ok (.ireturn, 1) := by decide +kernel
theorem dX3_ofWalk_35 : decode cX3_ofWalk 35 = .ok (.iload_n 2, 1) := by decide +kernel
theorem dX3_ofWalk_36 : decode cX3_ofWalk 36 = .ok (.tableswitch 43 0 2 #[28, 33, 38], 28) := by decide +kernel
theorem dX3_ofWalk_64 : decode cX3_ofWalk 64 = .ok (.aload_n 3, 1) := by decide +kernel
theorem dX3_ofWalk_65 : decode cX3_ofWalk 65 = .ok (.getfield 199, 3) := by decide +kernel
theorem dX3_ofWalk_68 : decode cX3_ofWalk 68 = .ok (.ireturn, 1) := by decide +kernel
theorem dX3_ofWalk_69 : decode cX3_ofWalk 69 = .ok (.aload_n 3, 1) := by decide +kernel
theorem dX3_ofWalk_70 : decode cX3_ofWalk 70 = .ok (.getfield 196, 3) := by decide +kernel
theorem dX3_ofWalk_73 : decode cX3_ofWalk 73 = .ok (.ireturn, 1) := by decide +kernel
theorem dX3_ofWalk_74 : decode cX3_ofWalk 74 = .ok (.aload_n 3, 1) := by decide +kernel
theorem dX3_ofWalk_75 : decode cX3_ofWalk 75 = .ok (.getfield 283, 3) := by decide +kernel
theorem dX3_ofWalk_78 : decode cX3_ofWalk 78 = .ok (.ireturn, 1) := by decide +kernel
theorem dX3_ofWalk_79 : decode cX3_ofWalk 79 = .ok (.aload_n 3, 1) := by decide +kernel
theorem dX3_ofWalk_80 : decode cX3_ofWalk 80 = .ok (.invokevirtual 193, 3) := by decide +kernel
theorem dX3_ofWalk_83 : decode cX3_ofWalk 83 = .ok (.invokestatic 83, 3) := by decide +kernel
theorem dX3_ofWalk_86 : decode cX3_ofWalk 86 = .ok (.ireturn, 1) := by decide +kernel
theorem dX3_house_0 : decode cX3_house 0 = .ok (.iload_n 1, 1) := by decide +kernel
theorem dX3_house_1 : decode cX3_house 1 = .ok (.tableswitch 69 0 5 #[39, 44, 49, 54, 59, 64], 39) := by decide +kernel
theorem dX3_house_40 : decode cX3_house 40 = .ok (.aload_n 0, 1) := by decide +kernel
theorem dX3_house_41 : decode cX3_house 41 = .ok (.invokevirtual 286, 3) := by decide +kernel
theorem dX3_house_44 : decode cX3_house 44 = .ok (.ireturn, 1) := by decide +kernel
theorem dX3_house_45 : decode cX3_house 45 = .ok (.aload_n 0, 1) := by decide +kernel
theorem dX3_house_46 : decode cX3_house 46 = .ok (.invokevirtual 289, 3) := by decide +kernel
theorem dX3_house_49 : decode cX3_house 49 = .ok (.ireturn, 1) := by decide +kernel
theorem dX3_house_50 : decode cX3_house 50 = .ok (.aload_n 0, 1) := by decide +kernel
theorem dX3_house_51 : decode cX3_house 51 = .ok (.invokevirtual 292, 3) := by decide +kernel
theorem dX3_house_54 : decode cX3_house 54 = .ok (.ireturn, 1) := by decide +kernel
theorem dX3_house_55 : decode cX3_house 55 = .ok (.aload_n 0, 1) := by decide +kernel
theorem dX3_house_56 : decode cX3_house 56 = .ok (.invokevirtual 295, 3) := by decide +kernel
theorem dX3_house_59 : decode cX3_house 59 = .ok (.ireturn, 1) := by decide +kernel
theorem dX3_house_60 : decode cX3_house 60 = .ok (.aload_n 0, 1) := by decide +kernel
theorem dX3_house_61 : decode cX3_house 61 = .ok (.getfield 298, 3) := by decide +kernel
theorem dX3_house_64 : decode cX3_house 64 = .ok (.ireturn, 1) := by decide +kernel
theorem dX3_house_65 : decode cX3_house 65 = .ok (.aload_n 0, 1) := by decide +kernel
theorem dX3_house_66 : decode cX3_house 66 = .ok (.getfield 301, 3) := by decide +kernel
theorem dX3_house_69 : decode cX3_house 69 = .ok (.ireturn, 1) := by decide +kernel
theorem dX3_house_70 : decode cX3_house 70 = .ok (.new 150, 3) := by decide +kernel
theorem dX3_house_73 : decode cX3_house 73 = .ok (.dup, 1) := by decide +kernel
theorem dX3_house_74 : decode cX3_house 74 = .ok (.ldc_w 304, 3) := by decide +kernel
theorem dX3_house_77 : decode cX3_house 77 = .ok (.invokespecial 154, 3) := by decide +kernel
theorem dX3_house_80 : decode cX3_house 80 = .ok (.athrow, 1) := by decide +kernel
theorem dX3_knock_0 : decode cX3_knock 0 = .ok (.aload_n 0, 1) := by decide +kernel
theorem dX3_knock_1 : decode cX3_knock 1 = .ok (.dup, 1) := by decide +kernel
theorem dX3_knock_2 : decode cX3_knock 2 = .ok (.getfield 301, 3) := by decide +kernel
theorem dX3_knock_5 : decode cX3_knock 5 = .ok (.iconst 1, 1) := by decide +kernel
theorem dX3_knock_6 : decode cX3_knock 6 = .ok (.iadd, 1) := by decide +kernel
theorem dX3_knock_7 : decode cX3_knock 7 = .ok (.putfield 301, 3) := by decide +kernel
theorem dX3_knock_10 : decode cX3_knock 10 = .ok (.aload_n 0, 1) := by decide +kernel
theorem dX3_knock_11 : decode cX3_knock 11 = .ok (.getfield 301, 3) := by decide +kernel
theorem dX3_knock_14 : decode cX3_knock 14 = .ok (.ireturn, 1) := by decide +kernel
theorem dX3_isSound_0 : decode cX3_isSound 0 = .ok (.iconst 0, 1) := by decide +kernel
theorem dX3_isSound_1 : decode cX3_isSound 1 = .ok (.istore_n 1, 1) := by decide +kernel
theorem dX3_isSound_2 : decode cX3_isSound 2 = .ok (.iload_n 1, 1) := by decide +kernel
theorem dX3_isSound_3 : decode cX3_isSound 3 = .ok (.bipush 11, 2) := by decide +kernel
theorem dX3_isSound_5 : decode cX3_isSound 5 = .ok (.if_icmp .ge 37, 3) := by decide +kernel
theorem dX3_isSound_8 : decode cX3_isSound 8 = .ok (.aload_n 0, 1) := by decide +kernel
theorem dX3_isSound_9 : decode cX3_isSound 9 = .ok (.iload_n 1, 1) := by decide +kernel
theorem dX3_isSound_10 : decode cX3_isSound 10 = .ok (.iconst 0, 1) := by decide +kernel
theorem dX3_isSound_11 : decode cX3_isSound 11 = .ok (.iconst 1, 1) := by decide +kernel
theorem dX3_isSound_12 : decode cX3_isSound 12 = .ok (.invokevirtual 306, 3) := by decide +kernel
theorem dX3_isSound_15 : decode cX3_isSound 15 = .ok (.ifCond .eq 19, 3) := by decide +kernel
theorem dX3_isSound_18 : decode cX3_isSound 18 = .ok (.aload_n 0, 1) := by decide +kernel
theorem dX3_isSound_19 : decode cX3_isSound 19 = .ok (.iload_n 1, 1) := by decide +kernel
theorem dX3_isSound_20 : decode cX3_isSound 20 = .ok (.invokevirtual 310, 3) := by decide +kernel
theorem dX3_isSound_23 : decode cX3_isSound 23 = .ok (.ifCond .eq 11, 3) := by decide +kernel
theorem dX3_isSound_26 : decode cX3_isSound 26 = .ok (.aload_n 0, 1) := by decide +kernel
theorem dX3_isSound_27 : decode cX3_isSound 27 = .ok (.iload_n 1, 1) := by decide +kernel
theorem dX3_isSound_28 : decode cX3_isSound 28 = .ok (.invokevirtual 313, 3) := by decide +kernel
theorem dX3_isSound_31 : decode cX3_isSound 31 = .ok (.ifCond .ne 5, 3) := by decide +kernel
theorem dX3_isSound_34 : decode cX3_isSound 34 = .ok (.iconst 0, 1) := by decide +kernel
theorem dX3_isSound_35 : decode cX3_isSound 35 = .ok (.ireturn, 1) := by decide +kernel
theorem dX3_isSound_36 : decode cX3_isSound 36 = .ok (.iinc 1 1, 3) := by decide +kernel
theorem dX3_isSound_39 : decode cX3_isSound 39 = .ok (.goto (-37), 3) := by decide +kernel
theorem dX3_isSound_42 : decode cX3_isSound 42 = .ok (.aload_n 0, 1) := by decide +kernel
theorem dX3_isSound_43 : decode cX3_isSound 43 = .ok (.iconst 0, 1) := by decide +kernel
theorem dX3_isSound_44 : decode cX3_isSound 44 = .ok (.iconst 0, 1) := by decide +kernel
theorem dX3_isSound_45 : decode cX3_isSound 45 = .ok (.iconst 2, 1) := by decide +kernel
theorem dX3_isSound_46 : decode cX3_isSound 46 = .ok (.invokevirtual 306, 3) := by decide +kernel
theorem dX3_isSound_49 : decode cX3_isSound 49 = .ok (.ifCond .eq 67, 3) := by decide +kernel
theorem dX3_isSound_52 : decode cX3_isSound 52 = .ok (.aload_n 0, 1) := by decide +kernel
theorem dX3_isSound_53 : decode cX3_isSound 53 = .ok (.getfield 30, 3) := by decide +kernel
theorem dX3_isSound_56 : decode cX3_isSound 56 = .ok (.iconst 3, 1) := by decide +kernel
theorem dX3_isSound_57 : decode cX3_isSound 57 = .ok (.aaload, 1) := by decide +kernel
theorem dX3_isSound_58 : decode cX3_isSound 58 = .ok (.invokevirtual 316, 3) := by decide +kernel
theorem dX3_isSound_61 : decode cX3_isSound 61 = .ok (.ifCond .eq 55, 3) := by decide +kernel
theorem dX3_isSound_64 : decode cX3_isSound 64 = .ok (.aload_n 0, 1) := by decide +kernel
theorem dX3_isSound_65 : decode cX3_isSound 65 = .ok (.getfield 30, 3) := by decide +kernel
theorem dX3_isSound_68 : decode cX3_isSound 68 = .ok (.bipush 6, 2) := by decide +kernel
theorem dX3_isSound_70 : decode cX3_isSound 70 = .ok (.aaload, 1) := by decide +kernel
theorem dX3_isSound_71 : decode cX3_isSound 71 = .ok (.invokevirtual 316, 3) := by decide +kernel
theorem dX3_isSound_74 : decode cX3_isSound 74 = .ok (.ifCond .eq 42, 3) := by decide +kernel
theorem dX3_isSound_77 : decode cX3_isSound 77 = .ok (.aload_n 0, 1) := by decide +kernel
theorem dX3_isSound_78 : decode cX3_isSound 78 = .ok (.getfield 30, 3) := by decide +kernel
theorem dX3_isSound_81 : decode cX3_isSound 81 = .ok (.iconst 4, 1) := by decide +kernel
theorem dX3_isSound_82 : decode cX3_isSound 82 = .ok (.aaload, 1) := by decide +kernel
theorem dX3_isSound_83 : decode cX3_isSound 83 = .ok (.invokevirtual 319, 3) := by decide +kernel
theorem dX3_isSound_86 : decode cX3_isSound 86 = .ok (.ifCond .eq 30, 3) := by decide +kernel
theorem dX3_isSound_89 : decode cX3_isSound 89 = .ok (.aload_n 0, 1) := by decide +kernel
theorem dX3_isSound_90 : decode cX3_isSound 90 = .ok (.getfield 30, 3) := by decide +kernel
theorem dX3_isSound_93 : decode cX3_isSound 93 = .ok (.bipush 6, 2) := by decide +kernel
theorem dX3_isSound_95 : decode cX3_isSound 95 = .ok (.aaload, 1) := by decide +kernel
theorem dX3_isSound_96 : decode cX3_isSound 96 = .ok (.getfield 105, 3) := by decide +kernel
theorem dX3_isSound_99 : decode cX3_isSound 99 = .ok (.aload_n 0, 1) := by decide +kernel
theorem dX3_isSound_100 : decode cX3_isSound 100 = .ok (.getfield 30, 3) := by decide +kernel
theorem dX3_isSound_103 : decode cX3_isSound 103 = .ok (.bipush 7, 2) := by decide +kernel
theorem dX3_isSound_105 : decode cX3_isSound 105 = .ok (.aaload, 1) := by decide +kernel
theorem dX3_isSound_106 : decode cX3_isSound 106 = .ok (.getfield 105, 3) := by decide +kernel
theorem dX3_isSound_109 : decode cX3_isSound 109 = .ok (.if_icmp .ne 7, 3) := by decide +kernel
theorem dX3_isSound_112 : decode cX3_isSound 112 = .ok (.iconst 1, 1) := by decide +kernel
theorem dX3_isSound_113 : decode cX3_isSound 113 = .ok (.goto 4, 3) := by decide +kernel
theorem dX3_isSound_116 : decode cX3_isSound 116 = .ok (.iconst 0, 1) := by decide +kernel
theorem dX3_isSound_117 : decode cX3_isSound 117 = .ok (.ireturn, 1) := by decide +kernel
theorem dX3_digest_0 : decode cX3_digest 0 = .ok (.ldc2_w 322, 3) := by decide +kernel
theorem dX3_digest_3 : decode cX3_digest 3 = .ok (.lstore_n 1, 1) := by decide +kernel
theorem dX3_digest_4 : decode cX3_digest 4 = .ok (.iconst 0, 1) := by decide +kernel
theorem dX3_digest_5 : decode cX3_digest 5 = .ok (.istore_n 3, 1) := by decide +kernel
theorem dX3_digest_6 : decode cX3_digest 6 = .ok (.iload_n 3, 1) := by decide +kernel
theorem dX3_digest_7 : decode cX3_digest 7 = .ok (.iconst 5, 1) := by decide +kernel
theorem dX3_digest_8 : decode cX3_digest 8 = .ok (.if_icmp .gt 22, 3) := by decide +kernel
theorem dX3_digest_11 : decode cX3_digest 11 = .ok (.lload_n 1, 1) := by decide +kernel
theorem dX3_digest_12 : decode cX3_digest 12 = .ok (.ldc2_w 324, 3) := by decide +kernel
theorem dX3_digest_15 : decode cX3_digest 15 = .ok (.lmul, 1) := by decide +kernel
theorem dX3_digest_16 : decode cX3_digest 16 = .ok (.aload_n 0, 1) := by decide +kernel
theorem dX3_digest_17 : decode cX3_digest 17 = .ok (.iload_n 3, 1) := by decide +kernel
theorem dX3_digest_18 : decode cX3_digest 18 = .ok (.invokevirtual 326, 3) := by decide +kernel
theorem dX3_digest_21 : decode cX3_digest 21 = .ok (.i2l, 1) := by decide +kernel
theorem dX3_digest_22 : decode cX3_digest 22 = .ok (.ladd, 1) := by decide +kernel
theorem dX3_digest_23 : decode cX3_digest 23 = .ok (.lstore_n 1, 1) := by decide +kernel
theorem dX3_digest_24 : decode cX3_digest 24 = .ok (.iinc 3 1, 3) := by decide +kernel
theorem dX3_digest_27 : decode cX3_digest 27 = .ok (.goto (-21), 3) := by decide +kernel
theorem dX3_digest_30 : decode cX3_digest 30 = .ok (.iconst 0, 1) := by decide +kernel
theorem dX3_digest_31 : decode cX3_digest 31 = .ok (.istore_n 3, 1) := by decide +kernel
theorem dX3_digest_32 : decode cX3_digest 32 = .ok (.iload_n 3, 1) := by decide +kernel
theorem dX3_digest_33 : decode cX3_digest 33 = .ok (.bipush 11, 2) := by decide +kernel
theorem dX3_digest_35 : decode cX3_digest 35 = .ok (.if_icmp .ge 64, 3) := by decide +kernel
theorem dX3_digest_38 : decode cX3_digest 38 = .ok (.aload_n 0, 1) := by decide +kernel
theorem dX3_digest_39 : decode cX3_digest 39 = .ok (.getfield 30, 3) := by decide +kernel
theorem dX3_digest_42 : decode cX3_digest 42 = .ok (.iload_n 3, 1) := by decide +kernel
theorem dX3_digest_43 : decode cX3_digest 43 = .ok (.aaload, 1) := by decide +kernel
theorem dX3_digest_44 : decode cX3_digest 44 = .ok (.astore 4, 2) := by decide +kernel
theorem dX3_digest_46 : decode cX3_digest 46 = .ok (.lload_n 1, 1) := by decide +kernel
theorem dX3_digest_47 : decode cX3_digest 47 = .ok (.ldc2_w 324, 3) := by decide +kernel
theorem dX3_digest_50 : decode cX3_digest 50 = .ok (.lmul, 1) := by decide +kernel
theorem dX3_digest_51 : decode cX3_digest 51 = .ok (.aload 4, 2) := by decide +kernel
theorem dX3_digest_53 : decode cX3_digest 53 = .ok (.getfield 105, 3) := by decide +kernel
theorem dX3_digest_56 : decode cX3_digest 56 = .ok (.i2l, 1) := by decide +kernel
theorem dX3_digest_57 : decode cX3_digest 57 = .ok (.ladd, 1) := by decide +kernel
theorem dX3_digest_58 : decode cX3_digest 58 = .ok (.lstore_n 1, 1) := by decide +kernel
theorem dX3_digest_59 : decode cX3_digest 59 = .ok (.iconst 0, 1) := by decide +kernel
theorem dX3_digest_60 : decode cX3_digest 60 = .ok (.istore 5, 2) := by decide +kernel
theorem dX3_digest_62 : decode cX3_digest 62 = .ok (.iload 5, 2) := by decide +kernel
theorem dX3_digest_64 : decode cX3_digest 64 = .ok (.aload 4, 2) := by decide +kernel
theorem dX3_digest_66 : decode cX3_digest 66 = .ok (.getfield 105, 3) := by decide +kernel
theorem dX3_digest_69 : decode cX3_digest 69 = .ok (.if_icmp .ge 24, 3) := by decide +kernel
theorem dX3_digest_72 : decode cX3_digest 72 = .ok (.lload_n 1, 1) := by decide +kernel
theorem dX3_digest_73 : decode cX3_digest 73 = .ok (.ldc2_w 324, 3) := by decide +kernel
theorem dX3_digest_76 : decode cX3_digest 76 = .ok (.lmul, 1) := by decide +kernel
theorem dX3_digest_77 : decode cX3_digest 77 = .ok (.aload 4, 2) := by decide +kernel
theorem dX3_digest_79 : decode cX3_digest 79 = .ok (.iload 5, 2) := by decide +kernel
theorem dX3_digest_81 : decode cX3_digest 81 = .ok (.invokevirtual 165, 3) := by decide +kernel
theorem dX3_digest_84 : decode cX3_digest 84 = .ok (.i2l, 1) := by decide +kernel
theorem dX3_digest_85 : decode cX3_digest 85 = .ok (.ladd, 1) := by decide +kernel
theorem dX3_digest_86 : decode cX3_digest 86 = .ok (.lstore_n 1, 1) := by decide +kernel
theorem dX3_digest_87 : decode cX3_digest 87 = .ok (.iinc 5 1, 3) := by decide +kernel
theorem dX3_digest_90 : decode cX3_digest 90 = .ok (.goto (-28), 3) := by decide +kernel
theorem dX3_digest_93 : decode cX3_digest 93 = .ok (.iinc 3 1, 3) := by decide +kernel
theorem dX3_digest_96 : decode cX3_digest 96 = .ok (.goto (-64), 3) := by decide +kernel
theorem dX3_digest_99 : decode cX3_digest 99 = .ok (.iconst 0, 1) := by decide +kernel
theorem dX3_digest_100 : decode cX3_digest 100 = .ok (.istore_n 3, 1) := by decide +kernel
theorem dX3_digest_101 : decode cX3_digest 101 = .ok (.iload_n 3, 1) := by decide +kernel
theorem dX3_digest_102 : decode cX3_digest 102 = .ok (.bipush 6, 2) := by decide +kernel
theorem dX3_digest_104 : decode cX3_digest 104 = .ok (.if_icmp .ge 39, 3) := by decide +kernel
theorem dX3_digest_107 : decode cX3_digest 107 = .ok (.iconst 0, 1) := by decide +kernel
theorem dX3_digest_108 : decode cX3_digest 108 = .ok (.istore 4, 2) := by decide +kernel
theorem dX3_digest_110 : decode cX3_digest 110 = .ok (.iload 4, 2) := by decide +kernel
theorem dX3_digest_112 : decode cX3_digest 112 = .ok (.iconst 3, 1) := by decide +kernel
theorem dX3_digest_113 : decode cX3_digest 113 = .ok (.if_icmp .gt 24, 3) := by decide +kernel
theorem dX3_digest_116 : decode cX3_digest 116 = .ok (.lload_n 1, 1) := by decide +kernel
theorem dX3_digest_117 : decode cX3_digest 117 = .ok (.ldc2_w 324, 3) := by decide +kernel
theorem dX3_digest_120 : decode cX3_digest 120 = .ok (.lmul, 1) := by decide +kernel
theorem dX3_digest_121 : decode cX3_digest 121 = .ok (.aload_n 0, 1) := by decide +kernel
theorem dX3_digest_122 : decode cX3_digest 122 = .ok (.iload_n 3, 1) := by decide +kernel
theorem dX3_digest_123 : decode cX3_digest 123 = .ok (.iload 4, 2) := by decide +kernel
theorem dX3_digest_125 : decode cX3_digest 125 = .ok (.invokevirtual 329, 3) := by decide +kernel
theorem dX3_digest_128 : decode cX3_digest 128 = .ok (.i2l, 1) := by decide +kernel
theorem dX3_digest_129 : decode cX3_digest 129 = .ok (.ladd, 1) := by decide +kernel
theorem dX3_digest_130 : decode cX3_digest 130 = .ok (.lstore_n 1, 1) := by decide +kernel
theorem dX3_digest_131 : decode cX3_digest 131 = .ok (.iinc 4 1, 3) := by decide +kernel
theorem dX3_digest_134 : decode cX3_digest 134 = .ok (.goto (-24), 3) := by decide +kernel
theorem dX3_digest_137 : decode cX3_digest 137 = .ok (.iinc 3 1, 3) := by decide +kernel
theorem dX3_digest_140 : decode cX3_digest 140 = .ok (.goto (-39), 3) := by decide +kernel
theorem dX3_digest_143 : decode cX3_digest 143 = .ok (.lload_n 1, 1) := by decide +kernel
theorem dX3_digest_144 : decode cX3_digest 144 = .ok (.ldc2_w 324, 3) := by decide +kernel
theorem dX3_digest_147 : decode cX3_digest 147 = .ok (.lmul, 1) := by decide +kernel
theorem dX3_digest_148 : decode cX3_digest 148 = .ok (.aload_n 0, 1) := by decide +kernel
theorem dX3_digest_149 : decode cX3_digest 149 = .ok (.invokevirtual 332, 3) := by decide +kernel
theorem dX3_digest_152 : decode cX3_digest 152 = .ok (.invokestatic 83, 3) := by decide +kernel
theorem dX3_digest_155 : decode cX3_digest 155 = .ok (.i2l, 1) := by decide +kernel
theorem dX3_digest_156 : decode cX3_digest 156 = .ok (.ladd, 1) := by decide +kernel
theorem dX3_digest_157 : decode cX3_digest 157 = .ok (.lreturn, 1) := by decide +kernel
theorem dX3_shelfAt_0 : decode cX3_shelfAt 0 = .ok (.iload_n 1, 1) := by decide +kernel
theorem dX3_shelfAt_1 : decode cX3_shelfAt 1 = .ok (.ifCond .lt 9, 3) := by decide +kernel
theorem dX3_shelfAt_4 : decode cX3_shelfAt 4 = .ok (.iload_n 1, 1) := by decide +kernel
theorem dX3_shelfAt_5 : decode cX3_shelfAt 5 = .ok (.bipush 11, 2) := by decide +kernel
theorem dX3_shelfAt_7 : decode cX3_shelfAt 7 = .ok (.if_icmp .lt 14, 3) := by decide +kernel
theorem dX3_shelfAt_10 : decode cX3_shelfAt 10 = .ok (.new 335, 3) := by decide +kernel
theorem dX3_shelfAt_13 : decode cX3_shelfAt 13 = .ok (.dup, 1) := by decide +kernel
theorem dX3_shelfAt_14 : decode cX3_shelfAt 14 = .ok (.ldc_w 337, 3) := by decide +kernel
theorem dX3_shelfAt_17 : decode cX3_shelfAt 17 = .ok (.invokespecial 339, 3) := by decide +kernel
theorem dX3_shelfAt_20 : decode cX3_shelfAt 20 = .ok (.athrow, 1) := by decide +kernel
theorem dX3_shelfAt_21 : decode cX3_shelfAt 21 = .ok (.aload_n 0, 1) := by decide +kernel
theorem dX3_shelfAt_22 : decode cX3_shelfAt 22 = .ok (.getfield 30, 3) := by decide +kernel
theorem dX3_shelfAt_25 : decode cX3_shelfAt 25 = .ok (.iload_n 1, 1) := by decide +kernel
theorem dX3_shelfAt_26 : decode cX3_shelfAt 26 = .ok (.aaload, 1) := by decide +kernel
theorem dX3_shelfAt_27 : decode cX3_shelfAt 27 = .ok (.areturn, 1) := by decide +kernel
theorem dX3_rowAt_0 : decode cX3_rowAt 0 = .ok (.aload_n 0, 1) := by decide +kernel
theorem dX3_rowAt_1 : decode cX3_rowAt 1 = .ok (.iload_n 1, 1) := by decide +kernel
theorem dX3_rowAt_2 : decode cX3_rowAt 2 = .ok (.invokevirtual 56, 3) := by decide +kernel
theorem dX3_rowAt_5 : decode cX3_rowAt 5 = .ok (.astore_n 2, 1) := by decide +kernel
theorem dX3_rowAt_6 : decode cX3_rowAt 6 = .ok (.aload_n 2, 1) := by decide +kernel
theorem dX3_rowAt_7 : decode cX3_rowAt 7 = .ok (.getfield 340, 3) := by decide +kernel
theorem dX3_rowAt_10 : decode cX3_rowAt 10 = .ok (.getfield 343, 3) := by decide +kernel
theorem dX3_rowAt_13 : decode cX3_rowAt 13 = .ok (.ifCond .ne 14, 3) := by decide +kernel
theorem dX3_rowAt_16 : decode cX3_rowAt 16 = .ok (.new 335, 3) := by decide +kernel
theorem dX3_rowAt_19 : decode cX3_rowAt 19 = .ok (.dup, 1) := by decide +kernel
theorem dX3_rowAt_20 : decode cX3_rowAt 20 = .ok (.ldc_w 346, 3) := by decide +kernel
theorem dX3_rowAt_23 : decode cX3_rowAt 23 = .ok (.invokespecial 339, 3) := by decide +kernel
theorem dX3_rowAt_26 : decode cX3_rowAt 26 = .ok (.athrow, 1) := by decide +kernel
theorem dX3_rowAt_27 : decode cX3_rowAt 27 = .ok (.aload_n 2, 1) := by decide +kernel
theorem dX3_rowAt_28 : decode cX3_rowAt 28 = .ok (.areturn, 1) := by decide +kernel
theorem dX3_listAt_0 : decode cX3_listAt 0 = .ok (.iload_n 1, 1) := by decide +kernel
theorem dX3_listAt_1 : decode cX3_listAt 1 = .ok (.bipush 8, 2) := by decide +kernel
theorem dX3_listAt_3 : decode cX3_listAt 3 = .ok (.if_icmp .ge 14, 3) := by decide +kernel
theorem dX3_listAt_6 : decode cX3_listAt 6 = .ok (.new 335, 3) := by decide +kernel
theorem dX3_listAt_9 : decode cX3_listAt 9 = .ok (.dup, 1) := by decide +kernel
theorem dX3_listAt_10 : decode cX3_listAt 10 = .ok (.ldc_w 348, 3) := by decide +kernel
theorem dX3_listAt_13 : decode cX3_listAt 13 = .ok (.invokespecial 339, 3) := by decide +kernel
theorem dX3_listAt_16 : decode cX3_listAt 16 = .ok (.athrow, 1) := by decide +kernel
theorem dX3_listAt_17 : decode cX3_listAt 17 = .ok (.aload_n 0, 1) := by decide +kernel
theorem dX3_listAt_18 : decode cX3_listAt 18 = .ok (.iload_n 1, 1) := by decide +kernel
theorem dX3_listAt_19 : decode cX3_listAt 19 = .ok (.invokevirtual 56, 3) := by decide +kernel
theorem dX3_listAt_22 : decode cX3_listAt 22 = .ok (.areturn, 1) := by decide +kernel
theorem dX3_walkAt_0 : decode cX3_walkAt 0 = .ok (.iload_n 1, 1) := by decide +kernel
theorem dX3_walkAt_1 : decode cX3_walkAt 1 = .ok (.ifCond .lt 9, 3) := by decide +kernel
theorem dX3_walkAt_4 : decode cX3_walkAt 4 = .ok (.iload_n 1, 1) := by decide +kernel
theorem dX3_walkAt_5 : decode cX3_walkAt 5 = .ok (.bipush 6, 2) := by decide +kernel
theorem dX3_walkAt_7 : decode cX3_walkAt 7 = .ok (.if_icmp .lt 14, 3) := by decide +kernel
theorem dX3_walkAt_10 : decode cX3_walkAt 10 = .ok (.new 335, 3) := by decide +kernel
theorem dX3_walkAt_13 : decode cX3_walkAt 13 = .ok (.dup, 1) := by decide +kernel
theorem dX3_walkAt_14 : decode cX3_walkAt 14 = .ok (.ldc_w 350, 3) := by decide +kernel
theorem dX3_walkAt_17 : decode cX3_walkAt 17 = .ok (.invokespecial 339, 3) := by decide +kernel
theorem dX3_walkAt_20 : decode cX3_walkAt 20 = .ok (.athrow, 1) := by decide +kernel
theorem dX3_walkAt_21 : decode cX3_walkAt 21 = .ok (.aload_n 0, 1) := by decide +kernel
theorem dX3_walkAt_22 : decode cX3_walkAt 22 = .ok (.getfield 38, 3) := by decide +kernel
theorem dX3_walkAt_25 : decode cX3_walkAt 25 = .ok (.iload_n 1, 1) := by decide +kernel
theorem dX3_walkAt_26 : decode cX3_walkAt 26 = .ok (.aaload, 1) := by decide +kernel
theorem dX3_walkAt_27 : decode cX3_walkAt 27 = .ok (.areturn, 1) := by decide +kernel
theorem dX3_requireMade_0 : decode cX3_requireMade 0 = .ok (.aload_n 0, 1) := by decide +kernel
theorem dX3_requireMade_1 : decode cX3_requireMade 1 = .ok (.getfield 236, 3) := by decide +kernel
theorem dX3_requireMade_4 : decode cX3_requireMade 4 = .ok (.ifCond .ne 14, 3) := by decide +kernel
theorem dX3_requireMade_7 : decode cX3_requireMade 7 = .ok (.new 352, 3) := by decide +kernel
theorem dX3_requireMade_10 : decode cX3_requireMade 10 = .ok (.dup, 1) := by decide +kernel
theorem dX3_requireMade_11 : decode cX3_requireMade 11 = .ok (.ldc_w 354, 3) := by decide +kernel
theorem dX3_requireMade_14 : decode cX3_requireMade 14 = .ok (.invokespecial 356, 3) := by decide +kernel
theorem dX3_requireMade_17 : decode cX3_requireMade 17 = .ok (.athrow, 1) := by decide +kernel
theorem dX3_requireMade_18 : decode cX3_requireMade 18 = .ok (.return_, 1) := by decide +kernel
theorem dX3_requirePlace_0 : decode cX3_requirePlace 0 = .ok (.iload_n 0, 1) := by decide +kernel
theorem dX3_requirePlace_1 : decode cX3_requirePlace 1 = .ok (.ifCond .lt 8, 3) := by decide +kernel
theorem dX3_requirePlace_4 : decode cX3_requirePlace 4 = .ok (.iload_n 0, 1) := by decide +kernel
theorem dX3_requirePlace_5 : decode cX3_requirePlace 5 = .ok (.iload_n 1, 1) := by decide +kernel
theorem dX3_requirePlace_6 : decode cX3_requirePlace 6 = .ok (.if_icmp .lt 14, 3) := by decide +kernel
theorem dX3_requirePlace_9 : decode cX3_requirePlace 9 = .ok (.new 335, 3) := by decide +kernel
theorem dX3_requirePlace_12 : decode cX3_requirePlace 12 = .ok (.dup, 1) := by decide +kernel
theorem dX3_requirePlace_13 : decode cX3_requirePlace 13 = .ok (.ldc_w 357, 3) := by decide +kernel
theorem dX3_requirePlace_16 : decode cX3_requirePlace 16 = .ok (.invokespecial 339, 3) := by decide +kernel
theorem dX3_requirePlace_19 : decode cX3_requirePlace 19 = .ok (.athrow, 1) := by decide +kernel
theorem dX3_requirePlace_20 : decode cX3_requirePlace 20 = .ok (.return_, 1) := by decide +kernel
theorem dX3_requireThing_0 : decode cX3_requireThing 0 = .ok (.iload_n 0, 1) := by decide +kernel
theorem dX3_requireThing_1 : decode cX3_requireThing 1 = .ok (.ifCond .lt 9, 3) := by decide +kernel
theorem dX3_requireThing_4 : decode cX3_requireThing 4 = .ok (.iload_n 0, 1) := by decide +kernel
theorem dX3_requireThing_5 : decode cX3_requireThing 5 = .ok (.bipush 100, 2) := by decide +kernel
theorem dX3_requireThing_7 : decode cX3_requireThing 7 = .ok (.if_icmp .lt 14, 3) := by decide +kernel
theorem dX3_requireThing_10 : decode cX3_requireThing 10 = .ok (.new 150, 3) := by decide +kernel
theorem dX3_requireThing_13 : decode cX3_requireThing 13 = .ok (.dup, 1) := by decide +kernel
theorem dX3_requireThing_14 : decode cX3_requireThing 14 = .ok (.ldc_w 359, 3) := by decide +kernel
theorem dX3_requireThing_17 : decode cX3_requireThing 17 = .ok (.invokespecial 154, 3) := by decide +kernel
theorem dX3_requireThing_20 : decode cX3_requireThing 20 = .ok (.athrow, 1) := by decide +kernel
theorem dX3_requireThing_21 : decode cX3_requireThing 21 = .ok (.return_, 1) := by decide +kernel
theorem dX3_requireThingOrNothing_0 : decode cX3_requireThingOrNothing 0 = .ok (.iload_n 0, 1) := by decide +kernel
theorem dX3_requireThingOrNothing_1 : decode cX3_requireThingOrNothing 1 = .ok (.ifCond .lt 9, 3) := by decide +kernel
theorem dX3_requireThingOrNothing_4 : decode cX3_requireThingOrNothing 4 = .ok (.iload_n 0, 1) := by decide +kernel
theorem dX3_requireThingOrNothing_5 : decode cX3_requireThingOrNothing 5 = .ok (.bipush 100, 2) := by decide +kernel
theorem dX3_requireThingOrNothing_7 : decode cX3_requireThingOrNothing 7 = .ok (.if_icmp .le 14, 3) := by decide +kernel
theorem dX3_requireThingOrNothing_10 : decode cX3_requireThingOrNothing 10 = .ok (.new 150, 3) := by decide +kernel
theorem dX3_requireThingOrNothing_13 : decode cX3_requireThingOrNothing 13 = .ok (.dup, 1) := by decide +kernel
theorem dX3_requireThingOrNothing_14 : decode cX3_requireThingOrNothing 14 = .ok (.ldc_w 361, 3) := by decide +kernel
theorem dX3_requireThingOrNothing_17 : decode cX3_requireThingOrNothing 17 = .ok (.invokespecial 154, 3) := by decide +kernel
theorem dX3_requireThingOrNothing_20 : decode cX3_requireThingOrNothing 20 = .ok (.athrow, 1) := by decide +kernel
theorem dX3_requireThingOrNothing_21 : decode cX3_requireThingOrNothing 21 = .ok (.return_, 1) := by decide +kernel
theorem dX3_requireThingNothingOrNone_0 : decode cX3_requireThingNothingOrNone 0 = .ok (.iload_n 0, 1) := by decide +kernel
theorem dX3_requireThingNothingOrNone_1 : decode cX3_requireThingNothingOrNone 1 = .ok (.iconst (-1), 1) := by decide +kernel
theorem dX3_requireThingNothingOrNone_2 : decode cX3_requireThingNothingOrNone 2 = .ok (.if_icmp .lt 9, 3) := by decide +kernel
theorem dX3_requireThingNothingOrNone_5 : decode cX3_requireThingNothingOrNone 5 = .ok (.iload_n 0, 1) := by decide +kernel
theorem dX3_requireThingNothingOrNone_6 : decode cX3_requireThingNothingOrNone 6 = .ok (.bipush 100, 2) := by decide +kernel
theorem dX3_requireThingNothingOrNone_8 : decode cX3_requireThingNothingOrNone 8 = .ok (.if_icmp .le 14, 3) := by decide +kernel
theorem dX3_requireThingNothingOrNone_11 : decode cX3_requireThingNothingOrNone 11 = .ok (.new 150, 3) := by decide +kernel
theorem dX3_requireThingNothingOrNone_14 : decode cX3_requireThingNothingOrNone 14 = .ok (.dup, 1) := by decide +kernel
theorem dX3_requireThingNothingOrNone_15 : decode cX3_requireThingNothingOrNone 15 = .ok (.ldc_w 363, 3) := by decide +kernel
theorem dX3_requireThingNothingOrNone_18 : decode cX3_requireThingNothingOrNone 18 = .ok (.invokespecial 154, 3) := by decide +kernel
theorem dX3_requireThingNothingOrNone_21 : decode cX3_requireThingNothingOrNone 21 = .ok (.athrow, 1) := by decide +kernel
theorem dX3_requireThingNothingOrNone_22 : decode cX3_requireThingNothingOrNone 22 = .ok (.return_, 1) := by decide +kernel
theorem dX3_requireUpToRoom_0 : decode cX3_requireUpToRoom 0 = .ok (.iload_n 0, 1) := by decide +kernel
theorem dX3_requireUpToRoom_1 : decode cX3_requireUpToRoom 1 = .ok (.ifCond .lt 9, 3) := by decide +kernel
theorem dX3_requireUpToRoom_4 : decode cX3_requireUpToRoom 4 = .ok (.iload_n 0, 1) := by decide +kernel
theorem dX3_requireUpToRoom_5 : decode cX3_requireUpToRoom 5 = .ok (.bipush 12, 2) := by decide +kernel
theorem dX3_requireUpToRoom_7 : decode cX3_requireUpToRoom 7 = .ok (.if_icmp .le 14, 3) := by decide +kernel
theorem dX3_requireUpToRoom_10 : decode cX3_requireUpToRoom 10 = .ok (.new 150, 3) := by decide +kernel
theorem dX3_requireUpToRoom_13 : decode cX3_requireUpToRoom 13 = .ok (.dup, 1) := by decide +kernel
theorem dX3_requireUpToRoom_14 : decode cX3_requireUpToRoom 14 = .ok (.ldc_w 365, 3) := by decide +kernel
theorem dX3_requireUpToRoom_17 : decode cX3_requireUpToRoom 17 = .ok (.invokespecial 154, 3) := by decide +kernel
theorem dX3_requireUpToRoom_20 : decode cX3_requireUpToRoom 20 = .ok (.athrow, 1) := by decide +kernel
theorem dX3_requireUpToRoom_21 : decode cX3_requireUpToRoom 21 = .ok (.return_, 1) := by decide +kernel
theorem dX3_requireRoom_0 : decode cX3_requireRoom 0 = .ok (.aload_n 0, 1) := by decide +kernel
theorem dX3_requireRoom_1 : decode cX3_requireRoom 1 = .ok (.getfield 105, 3) := by decide +kernel
theorem dX3_requireRoom_4 : decode cX3_requireRoom 4 = .ok (.iload_n 1, 1) := by decide +kernel
theorem dX3_requireRoom_5 : decode cX3_requireRoom 5 = .ok (.iadd, 1) := by decide +kernel
theorem dX3_requireRoom_6 : decode cX3_requireRoom 6 = .ok (.bipush 12, 2) := by decide +kernel
theorem dX3_requireRoom_8 : decode cX3_requireRoom 8 = .ok (.if_icmp .le 14, 3) := by decide +kernel
theorem dX3_requireRoom_11 : decode cX3_requireRoom 11 = .ok (.new 352, 3) := by decide +kernel
theorem dX3_requireRoom_14 : decode cX3_requireRoom 14 = .ok (.dup, 1) := by decide +kernel
theorem dX3_requireRoom_15 : decode cX3_requireRoom 15 = .ok (.ldc_w 367, 3) := by decide +kernel
theorem dX3_requireRoom_18 : decode cX3_requireRoom 18 = .ok (.invokespecial 356, 3) := by decide +kernel
theorem dX3_requireRoom_21 : decode cX3_requireRoom 21 = .ok (.athrow, 1) := by decide +kernel
theorem dX3_requireRoom_22 : decode cX3_requireRoom 22 = .ok (.return_, 1) := by decide +kernel
theorem dX3_refuse_0 : decode cX3_refuse 0 = .ok (.aload_n 0, 1) := by decide +kernel
theorem dX3_refuse_1 : decode cX3_refuse 1 = .ok (.dup, 1) := by decide +kernel
theorem dX3_refuse_2 : decode cX3_refuse 2 = .ok (.getfield 298, 3) := by decide +kernel
theorem dX3_refuse_5 : decode cX3_refuse 5 = .ok (.iconst 1, 1) := by decide +kernel
theorem dX3_refuse_6 : decode cX3_refuse 6 = .ok (.iadd, 1) := by decide +kernel
theorem dX3_refuse_7 : decode cX3_refuse 7 = .ok (.putfield 298, 3) := by decide +kernel
theorem dX3_refuse_10 : decode cX3_refuse 10 = .ok (.bipush (-9), 2) := by decide +kernel
theorem dX3_refuse_12 : decode cX3_refuse 12 = .ok (.ireturn, 1) := by decide +kernel
theorem dX3_oneIf_0 : decode cX3_oneIf 0 = .ok (.iload_n 0, 1) := by decide +kernel
theorem dX3_oneIf_1 : decode cX3_oneIf 1 = .ok (.ifCond .eq 7, 3) := by decide +kernel
theorem dX3_oneIf_4 : decode cX3_oneIf 4 = .ok (.iconst 1, 1) := by decide +kernel
theorem dX3_oneIf_5 : decode cX3_oneIf 5 = .ok (.goto 4, 3) := by decide +kernel
theorem dX3_oneIf_8 : decode cX3_oneIf 8 = .ok (.iconst 0, 1) := by decide +kernel
theorem dX3_oneIf_9 : decode cX3_oneIf 9 = .ok (.ireturn, 1) := by decide +kernel
theorem dX3_countToFirstNone_0 : decode cX3_countToFirstNone 0 = .ok (.iconst 0, 1) := by decide +kernel
theorem dX3_countToFirstNone_1 : decode cX3_countToFirstNone 1 = .ok (.istore 4, 2) := by decide +kernel
theorem dX3_countToFirstNone_3 : decode cX3_countToFirstNone 3 = .ok (.iload 4, 2) := by decide +kernel
theorem dX3_countToFirstNone_5 : decode cX3_countToFirstNone 5 = .ok (.iconst 4, 1) := by decide +kernel
theorem dX3_countToFirstNone_6 : decode cX3_countToFirstNone 6 = .ok (.if_icmp .ge 25, 3) := by decide +kernel
theorem dX3_countToFirstNone_9 : decode cX3_countToFirstNone 9 = .ok (.iload 4, 2) := by decide +kernel
theorem dX3_countToFirstNone_11 : decode cX3_countToFirstNone 11 = .ok (.iload_n 0, 1) := by decide +kernel
theorem dX3_countToFirstNone_12 : decode cX3_countToFirstNone 12 = .ok (.iload_n 1, 1) := by decide +kernel
theorem dX3_countToFirstNone_13 : decode cX3_countToFirstNone 13 = .ok (.iload_n 2, 1) := by decide +kernel
theorem dX3_countToFirstNone_14 : decode cX3_countToFirstNone 14 = .ok (.iload_n 3, 1) := by decide +kernel
theorem dX3_countToFirstNone_15 : decode cX3_countToFirstNone 15 = .ok (.invokestatic 94, 3) := by decide +kernel
theorem dX3_countToFirstNone_18 : decode cX3_countToFirstNone 18 = .ok (.iconst (-1), 1) := by decide +kernel
theorem dX3_countToFirstNone_19 : decode cX3_countToFirstNone 19 = .ok (.if_icmp .ne 6, 3) := by decide +kernel
theorem dX3_countToFirstNone_22 : decode cX3_countToFirstNone 22 = .ok (.iload 4, 2) := by decide +kernel
theorem dX3_countToFirstNone_24 : decode cX3_countToFirstNone 24 = .ok (.ireturn, 1) := by decide +kernel
theorem dX3_countToFirstNone_25 : decode cX3_countToFirstNone 25 = .ok (.iinc 4 1, 3) := by decide +kernel
theorem dX3_countToFirstNone_28 : decode cX3_countToFirstNone 28 = .ok (.goto (-25), 3) := by decide +kernel
theorem dX3_countToFirstNone_31 : decode cX3_countToFirstNone 31 = .ok (.iconst 4, 1) := by decide +kernel
theorem dX3_countToFirstNone_32 : decode cX3_countToFirstNone 32 = .ok (.ireturn, 1) := by decide +kernel
theorem dX3_oneOfFour_0 : decode cX3_oneOfFour 0 = .ok (.iload_n 0, 1) := by decide +kernel
theorem dX3_oneOfFour_1 : decode cX3_oneOfFour 1 = .ok (.tableswitch 33 0 2 #[27, 29, 31], 27) := by decide +kernel
theorem dX3_oneOfFour_28 : decode cX3_oneOfFour 28 = .ok (.iload_n 1, 1) := by decide +kernel
theorem dX3_oneOfFour_29 : decode cX3_oneOfFour 29 = .ok (.ireturn, 1) := by decide +kernel
theorem dX3_oneOfFour_30 : decode cX3_oneOfFour 30 = .ok (.iload_n 2, 1) := by decide +kernel
theorem dX3_oneOfFour_31 : decode cX3_oneOfFour 31 = .ok (.ireturn, 1) := by decide +kernel
theorem dX3_oneOfFour_32 : decode cX3_oneOfFour 32 = .ok (.iload_n 3, 1) := by decide +kernel
theorem dX3_oneOfFour_33 : decode cX3_oneOfFour 33 = .ok (.ireturn, 1) := by decide +kernel
theorem dX3_oneOfFour_34 : decode cX3_oneOfFour 34 = .ok (.iload 4, 2) := by decide +kernel
theorem dX3_oneOfFour_36 : decode cX3_oneOfFour 36 = .ok (.ireturn, 1) := by decide +kernel
theorem dX3_liftFrom_0 : decode cX3_liftFrom 0 = .ok (.aload_n 1, 1) := by decide +kernel
theorem dX3_liftFrom_1 : decode cX3_liftFrom 1 = .ok (.invokevirtual 68, 3) := by decide +kernel
theorem dX3_liftFrom_4 : decode cX3_liftFrom 4 = .ok (.ifCond .eq 30, 3) := by decide +kernel
theorem dX3_liftFrom_7 : decode cX3_liftFrom 7 = .ok (.aload_n 0, 1) := by decide +kernel
theorem dX3_liftFrom_8 : decode cX3_liftFrom 8 = .ok (.getfield 30, 3) := by decide +kernel
theorem dX3_liftFrom_11 : decode cX3_liftFrom 11 = .ok (.bipush 6, 2) := by decide +kernel
theorem dX3_liftFrom_13 : decode cX3_liftFrom 13 = .ok (.aaload, 1) := by decide +kernel
theorem dX3_liftFrom_14 : decode cX3_liftFrom 14 = .ok (.iload_n 2, 1) := by decide +kernel
theorem dX3_liftFrom_15 : decode cX3_liftFrom 15 = .ok (.invokevirtual 144, 3) := by decide +kernel
theorem dX3_liftFrom_18 : decode cX3_liftFrom 18 = .ok (.pop, 1) := by decide +kernel
theorem dX3_liftFrom_19 : decode cX3_liftFrom 19 = .ok (.aload_n 0, 1) := by decide +kernel
theorem dX3_liftFrom_20 : decode cX3_liftFrom 20 = .ok (.getfield 30, 3) := by decide +kernel
theorem dX3_liftFrom_23 : decode cX3_liftFrom 23 = .ok (.bipush 7, 2) := by decide +kernel
theorem dX3_liftFrom_25 : decode cX3_liftFrom 25 = .ok (.aaload, 1) := by decide +kernel
theorem dX3_liftFrom_26 : decode cX3_liftFrom 26 = .ok (.iload_n 2, 1) := by decide +kernel
theorem dX3_liftFrom_27 : decode cX3_liftFrom 27 = .ok (.invokevirtual 144, 3) := by decide +kernel
theorem dX3_liftFrom_30 : decode cX3_liftFrom 30 = .ok (.pop, 1) := by decide +kernel
theorem dX3_liftFrom_31 : decode cX3_liftFrom 31 = .ok (.goto 9, 3) := by decide +kernel
theorem dX3_liftFrom_34 : decode cX3_liftFrom 34 = .ok (.aload_n 1, 1) := by decide +kernel
theorem dX3_liftFrom_35 : decode cX3_liftFrom 35 = .ok (.iload_n 2, 1) := by decide +kernel
theorem dX3_liftFrom_36 : decode cX3_liftFrom 36 = .ok (.invokevirtual 144, 3) := by decide +kernel
theorem dX3_liftFrom_39 : decode cX3_liftFrom 39 = .ok (.pop, 1) := by decide +kernel
theorem dX3_liftFrom_40 : decode cX3_liftFrom 40 = .ok (.return_, 1) := by decide +kernel
theorem dX3_cannotPour_0 : decode cX3_cannotPour 0 = .ok (.aload_n 1, 1) := by decide +kernel
theorem dX3_cannotPour_1 : decode cX3_cannotPour 1 = .ok (.invokevirtual 68, 3) := by decide +kernel
theorem dX3_cannotPour_4 : decode cX3_cannotPour 4 = .ok (.ifCond .ne 11, 3) := by decide +kernel
theorem dX3_cannotPour_7 : decode cX3_cannotPour 7 = .ok (.aload_n 0, 1) := by decide +kernel
theorem dX3_cannotPour_8 : decode cX3_cannotPour 8 = .ok (.aload_n 1, 1) := by decide +kernel
theorem dX3_cannotPour_9 : decode cX3_cannotPour 9 = .ok (.invokestatic 269, 3) := by decide +kernel
theorem dX3_cannotPour_12 : decode cX3_cannotPour 12 = .ok (.ifCond .eq 7, 3) := by decide +kernel
theorem dX3_cannotPour_15 : decode cX3_cannotPour 15 = .ok (.iconst 1, 1) := by decide +kernel
theorem dX3_cannotPour_16 : decode cX3_cannotPour 16 = .ok (.goto 4, 3) := by decide +kernel
theorem dX3_cannotPour_19 : decode cX3_cannotPour 19 = .ok (.iconst 0, 1) := by decide +kernel
theorem dX3_cannotPour_20 : decode cX3_cannotPour 20 = .ok (.ireturn, 1) := by decide +kernel
theorem dX3_hasNothingsThatAreNotTaken_0 : decode cX3_hasNothingsThatAreNotTaken 0 = .ok (.aload_n 0, 1) := by decide +kernel
theorem dX3_hasNothingsThatAreNotTaken_1 : decode cX3_hasNothingsThatAreNotTaken 1 = .ok (.bipush 100, 2) := by decide +kernel
theorem dX3_hasNothingsThatAreNotTaken_3 : decode cX3_hasNothingsThatAreNotTaken 3 = .ok (.invokevirtual 260, 3) := by decide +kernel
theorem dX3_hasNothingsThatAreNotTaken_6 : decode cX3_hasNothingsThatAreNotTaken 6 = .ok (.ifCond .eq 16, 3) := by decide +kernel
theorem dX3_hasNothingsThatAreNotTaken_9 : decode cX3_hasNothingsThatAreNotTaken 9 = .ok (.aload_n 1, 1) := by decide +kernel
theorem dX3_hasNothingsThatAreNotTaken_10 : decode cX3_hasNothingsThatAreNotTaken 10 = .ok (.bipush 100, 2) := by decide +kernel
theorem dX3_hasNothingsThatAreNotTaken_12 : decode cX3_hasNothingsThatAreNotTaken 12 = .ok (.invokevirtual 72, 3) := by decide +kernel
theorem dX3_hasNothingsThatAreNotTaken_15 : decode cX3_hasNothingsThatAreNotTaken 15 = .ok (.ifCond .ne 7, 3) := by decide +kernel
theorem dX3_hasNothingsThatAreNotTaken_18 : decode cX3_hasNothingsThatAreNotTaken 18 = .ok (.iconst 1, 1) := by decide +kernel
theorem dX3_hasNothingsThatAreNotTaken_19 : decode cX3_hasNothingsThatAreNotTaken 19 = .ok (.goto 4, 3) := by decide +kernel
theorem dX3_hasNothingsThatAreNotTaken_22 : decode cX3_hasNothingsThatAreNotTaken 22 = .ok (.iconst 0, 1) := by decide +kernel
theorem dX3_hasNothingsThatAreNotTaken_23 : decode cX3_hasNothingsThatAreNotTaken 23 = .ok (.ireturn, 1) := by decide +kernel
theorem dX3_pourBehind_0 : decode cX3_pourBehind 0 = .ok (.aload_n 0, 1) := by decide +kernel
theorem dX3_pourBehind_1 : decode cX3_pourBehind 1 = .ok (.getfield 105, 3) := by decide +kernel
theorem dX3_pourBehind_4 : decode cX3_pourBehind 4 = .ok (.istore_n 3, 1) := by decide +kernel
theorem dX3_pourBehind_5 : decode cX3_pourBehind 5 = .ok (.iconst 0, 1) := by decide +kernel
theorem dX3_pourBehind_6 : decode cX3_pourBehind 6 = .ok (.istore 4, 2) := by decide +kernel
theorem dX3_pourBehind_8 : decode cX3_pourBehind 8 = .ok (.iload_n 1, 1) := by decide +kernel
theorem dX3_pourBehind_9 : decode cX3_pourBehind 9 = .ok (.istore 5, 2) := by decide +kernel
theorem dX3_pourBehind_11 : decode cX3_pourBehind 11 = .ok (.iload 5, 2) := by decide +kernel
theorem dX3_pourBehind_13 : decode cX3_pourBehind 13 = .ok (.iload_n 3, 1) := by decide +kernel
theorem dX3_pourBehind_14 : decode cX3_pourBehind 14 = .ok (.if_icmp .ge 25, 3) := by decide +kernel
theorem dX3_pourBehind_17 : decode cX3_pourBehind 17 = .ok (.aload_n 2, 1) := by decide +kernel
theorem dX3_pourBehind_18 : decode cX3_pourBehind 18 = .ok (.aload_n 0, 1) := by decide +kernel
theorem dX3_pourBehind_19 : decode cX3_pourBehind 19 = .ok (.iload 5, 2) := by decide +kernel
theorem dX3_pourBehind_21 : decode cX3_pourBehind 21 = .ok (.invokevirtual 165, 3) := by decide +kernel
theorem dX3_pourBehind_24 : decode cX3_pourBehind 24 = .ok (.invokevirtual 80, 3) := by decide +kernel
theorem dX3_pourBehind_27 : decode cX3_pourBehind 27 = .ok (.ifCond .eq 6, 3) := by decide +kernel
theorem dX3_pourBehind_30 : decode cX3_pourBehind 30 = .ok (.iconst 1, 1) := by decide +kernel
theorem dX3_pourBehind_31 : decode cX3_pourBehind 31 = .ok (.istore 4, 2) := by decide +kernel
theorem dX3_pourBehind_33 : decode cX3_pourBehind 33 = .ok (.iinc 5 1, 3) := by decide +kernel
theorem dX3_pourBehind_36 : decode cX3_pourBehind 36 = .ok (.goto (-25), 3) := by decide +kernel
theorem dX3_pourBehind_39 : decode cX3_pourBehind 39 = .ok (.iload 4, 2) := by decide +kernel
theorem dX3_pourBehind_41 : decode cX3_pourBehind 41 = .ok (.ireturn, 1) := by decide +kernel
theorem dX3_listRest_0 : decode cX3_listRest 0 = .ok (.aload_n 1, 1) := by decide +kernel
theorem dX3_listRest_1 : decode cX3_listRest 1 = .ok (.aload_n 0, 1) := by decide +kernel
theorem dX3_listRest_2 : decode cX3_listRest 2 = .ok (.getfield 205, 3) := by decide +kernel
theorem dX3_listRest_5 : decode cX3_listRest 5 = .ok (.aload_n 0, 1) := by decide +kernel
theorem dX3_listRest_6 : decode cX3_listRest 6 = .ok (.invokevirtual 208, 3) := by decide +kernel
theorem dX3_listRest_9 : decode cX3_listRest 9 = .ok (.invokevirtual 233, 3) := by decide +kernel
theorem dX3_listRest_12 : decode cX3_listRest 12 = .ok (.aload_n 0, 1) := by decide +kernel
theorem dX3_listRest_13 : decode cX3_listRest 13 = .ok (.bipush 12, 2) := by decide +kernel
theorem dX3_listRest_15 : decode cX3_listRest 15 = .ok (.invokevirtual 219, 3) := by decide +kernel
theorem dX3_listRest_18 : decode cX3_listRest 18 = .ok (.ireturn, 1) := by decide +kernel
theorem dX3_haveTheSame_0 : decode cX3_haveTheSame 0 = .ok (.aload_n 0, 1) := by decide +kernel
theorem dX3_haveTheSame_1 : decode cX3_haveTheSame 1 = .ok (.getfield 105, 3) := by decide +kernel
theorem dX3_haveTheSame_4 : decode cX3_haveTheSame 4 = .ok (.aload_n 1, 1) := by decide +kernel
theorem dX3_haveTheSame_5 : decode cX3_haveTheSame 5 = .ok (.getfield 105, 3) := by decide +kernel
theorem dX3_haveTheSame_8 : decode cX3_haveTheSame 8 = .ok (.if_icmp .eq 5, 3) := by decide +kernel
theorem dX3_haveTheSame_11 : decode cX3_haveTheSame 11 = .ok (.iconst 0, 1) := by decide +kernel
theorem dX3_haveTheSame_12 : decode cX3_haveTheSame 12 = .ok (.ireturn, 1) := by decide +kernel
theorem dX3_haveTheSame_13 : decode cX3_haveTheSame 13 = .ok (.iconst 0, 1) := by decide +kernel
theorem dX3_haveTheSame_14 : decode cX3_haveTheSame 14 = .ok (.istore_n 2, 1) := by decide +kernel
theorem dX3_haveTheSame_15 : decode cX3_haveTheSame 15 = .ok (.iload_n 2, 1) := by decide +kernel
theorem dX3_haveTheSame_16 : decode cX3_haveTheSame 16 = .ok (.aload_n 0, 1) := by decide +kernel
theorem dX3_haveTheSame_17 : decode cX3_haveTheSame 17 = .ok (.getfield 105, 3) := by decide +kernel
theorem dX3_haveTheSame_20 : decode cX3_haveTheSame 20 = .ok (.if_icmp .ge 24, 3) := by decide +kernel
theorem dX3_haveTheSame_23 : decode cX3_haveTheSame 23 = .ok (.aload_n 0, 1) := by decide +kernel
theorem dX3_haveTheSame_24 : decode cX3_haveTheSame 24 = .ok (.iload_n 2, 1) := by decide +kernel
theorem dX3_haveTheSame_25 : decode cX3_haveTheSame 25 = .ok (.invokevirtual 165, 3) := by decide +kernel
theorem dX3_haveTheSame_28 : decode cX3_haveTheSame 28 = .ok (.aload_n 1, 1) := by decide +kernel
theorem dX3_haveTheSame_29 : decode cX3_haveTheSame 29 = .ok (.iload_n 2, 1) := by decide +kernel
theorem dX3_haveTheSame_30 : decode cX3_haveTheSame 30 = .ok (.invokevirtual 165, 3) := by decide +kernel
theorem dX3_haveTheSame_33 : decode cX3_haveTheSame 33 = .ok (.if_icmp .eq 5, 3) := by decide +kernel
theorem dX3_haveTheSame_36 : decode cX3_haveTheSame 36 = .ok (.iconst 0, 1) := by decide +kernel
theorem dX3_haveTheSame_37 : decode cX3_haveTheSame 37 = .ok (.ireturn, 1) := by decide +kernel
theorem dX3_haveTheSame_38 : decode cX3_haveTheSame 38 = .ok (.iinc 2 1, 3) := by decide +kernel
theorem dX3_haveTheSame_41 : decode cX3_haveTheSame 41 = .ok (.goto (-26), 3) := by decide +kernel
theorem dX3_haveTheSame_44 : decode cX3_haveTheSame 44 = .ok (.iconst 1, 1) := by decide +kernel
theorem dX3_haveTheSame_45 : decode cX3_haveTheSame 45 = .ok (.ireturn, 1) := by decide +kernel
theorem dX3_textBehind_0 : decode cX3_textBehind 0 = .ok (.new 242, 3) := by decide +kernel
theorem dX3_textBehind_3 : decode cX3_textBehind 3 = .ok (.dup, 1) := by decide +kernel
theorem dX3_textBehind_4 : decode cX3_textBehind 4 = .ok (.invokespecial 244, 3) := by decide +kernel
theorem dX3_textBehind_7 : decode cX3_textBehind 7 = .ok (.astore_n 2, 1) := by decide +kernel
theorem dX3_textBehind_8 : decode cX3_textBehind 8 = .ok (.iload_n 1, 1) := by decide +kernel
theorem dX3_textBehind_9 : decode cX3_textBehind 9 = .ok (.istore_n 3, 1) := by decide +kernel
theorem dX3_textBehind_10 : decode cX3_textBehind 10 = .ok (.iload_n 3, 1) := by decide +kernel
theorem dX3_textBehind_11 : decode cX3_textBehind 11 = .ok (.aload_n 0, 1) := by decide +kernel
theorem dX3_textBehind_12 : decode cX3_textBehind 12 = .ok (.getfield 105, 3) := by decide +kernel
theorem dX3_textBehind_15 : decode cX3_textBehind 15 = .ok (.if_icmp .ge 25, 3) := by decide +kernel
theorem dX3_textBehind_18 : decode cX3_textBehind 18 = .ok (.aload_n 2, 1) := by decide +kernel
theorem dX3_textBehind_19 : decode cX3_textBehind 19 = .ok (.iload_n 3, 1) := by decide +kernel
theorem dX3_textBehind_20 : decode cX3_textBehind 20 = .ok (.iload_n 1, 1) := by decide +kernel
theorem dX3_textBehind_21 : decode cX3_textBehind 21 = .ok (.isub, 1) := by decide +kernel
theorem dX3_textBehind_22 : decode cX3_textBehind 22 = .ok (.invokestatic 245, 3) := by decide +kernel
theorem dX3_textBehind_25 : decode cX3_textBehind 25 = .ok (.aload_n 2, 1) := by decide +kernel
theorem dX3_textBehind_26 : decode cX3_textBehind 26 = .ok (.aload_n 0, 1) := by decide +kernel
theorem dX3_textBehind_27 : decode cX3_textBehind 27 = .ok (.iload_n 3, 1) := by decide +kernel
theorem dX3_textBehind_28 : decode cX3_textBehind 28 = .ok (.invokevirtual 165, 3) := by decide +kernel
theorem dX3_textBehind_31 : decode cX3_textBehind 31 = .ok (.invokestatic 249, 3) := by decide +kernel
theorem dX3_textBehind_34 : decode cX3_textBehind 34 = .ok (.iinc 3 1, 3) := by decide +kernel
theorem dX3_textBehind_37 : decode cX3_textBehind 37 = .ok (.goto (-27), 3) := by decide +kernel
theorem dX3_textBehind_40 : decode cX3_textBehind 40 = .ok (.aload_n 2, 1) := by decide +kernel
theorem dX3_textBehind_41 : decode cX3_textBehind 41 = .ok (.invokevirtual 256, 3) := by decide +kernel
theorem dX3_textBehind_44 : decode cX3_textBehind 44 = .ok (.areturn, 1) := by decide +kernel
theorem dX3_appendBlankBehindFirst_0 : decode cX3_appendBlankBehindFirst 0 = .ok (.iload_n 1, 1) := by decide +kernel
theorem dX3_appendBlankBehindFirst_1 : decode cX3_appendBlankBehindFirst 1 = .ok (.ifCond .le 10, 3) := by decide +kernel
theorem dX3_appendBlankBehindFirst_4 : decode cX3_appendBlankBehindFirst 4 = .ok (.aload_n 0, 1) := by decide +kernel
theorem dX3_appendBlankBehindFirst_5 : decode cX3_appendBlankBehindFirst 5 = .ok (.bipush 32, 2) := by decide +kernel
theorem dX3_appendBlankBehindFirst_7 : decode cX3_appendBlankBehindFirst 7 = .ok (.invokevirtual 252, 3) := by decide +kernel
theorem dX3_appendBlankBehindFirst_10 : decode cX3_appendBlankBehindFirst 10 = .ok (.pop, 1) := by decide +kernel
theorem dX3_appendBlankBehindFirst_11 : decode cX3_appendBlankBehindFirst 11 = .ok (.return_, 1) := by decide +kernel
theorem dX3_appendThing_0 : decode cX3_appendThing 0 = .ok (.iload_n 1, 1) := by decide +kernel
theorem dX3_appendThing_1 : decode cX3_appendThing 1 = .ok (.bipush 100, 2) := by decide +kernel
theorem dX3_appendThing_3 : decode cX3_appendThing 3 = .ok (.if_icmp .ne 13, 3) := by decide +kernel
theorem dX3_appendThing_6 : decode cX3_appendThing 6 = .ok (.aload_n 0, 1) := by decide +kernel
theorem dX3_appendThing_7 : decode cX3_appendThing 7 = .ok (.bipush 45, 2) := by decide +kernel
theorem dX3_appendThing_9 : decode cX3_appendThing 9 = .ok (.invokevirtual 252, 3) := by decide +kernel
theorem dX3_appendThing_12 : decode cX3_appendThing 12 = .ok (.pop, 1) := by decide +kernel
theorem dX3_appendThing_13 : decode cX3_appendThing 13 = .ok (.goto 9, 3) := by decide +kernel
theorem dX3_appendThing_16 : decode cX3_appendThing 16 = .ok (.aload_n 0, 1) := by decide +kernel
theorem dX3_appendThing_17 : decode cX3_appendThing 17 = .ok (.iload_n 1, 1) := by decide +kernel
theorem dX3_appendThing_18 : decode cX3_appendThing 18 = .ok (.invokevirtual 369, 3) := by decide +kernel
theorem dX3_appendThing_21 : decode cX3_appendThing 21 = .ok (.pop, 1) := by decide +kernel
theorem dX3_appendThing_22 : decode cX3_appendThing 22 = .ok (.return_, 1) := by decide +kernel
theorem dX3_countThings_0 : decode cX3_countThings 0 = .ok (.iconst 0, 1) := by decide +kernel
theorem dX3_countThings_1 : decode cX3_countThings 1 = .ok (.istore_n 1, 1) := by decide +kernel
theorem dX3_countThings_2 : decode cX3_countThings 2 = .ok (.iconst 0, 1) := by decide +kernel
theorem dX3_countThings_3 : decode cX3_countThings 3 = .ok (.istore_n 2, 1) := by decide +kernel
theorem dX3_countThings_4 : decode cX3_countThings 4 = .ok (.iload_n 2, 1) := by decide +kernel
theorem dX3_countThings_5 : decode cX3_countThings 5 = .ok (.bipush 11, 2) := by decide +kernel
theorem dX3_countThings_7 : decode cX3_countThings 7 = .ok (.if_icmp .ge 21, 3) := by decide +kernel
theorem dX3_countThings_10 : decode cX3_countThings 10 = .ok (.iload_n 1, 1) := by decide +kernel
theorem dX3_countThings_11 : decode cX3_countThings 11 = .ok (.aload_n 0, 1) := by decide +kernel
theorem dX3_countThings_12 : decode cX3_countThings 12 = .ok (.getfield 30, 3) := by decide +kernel
theorem dX3_countThings_15 : decode cX3_countThings 15 = .ok (.iload_n 2, 1) := by decide +kernel
theorem dX3_countThings_16 : decode cX3_countThings 16 = .ok (.aaload, 1) := by decide +kernel
theorem dX3_countThings_17 : decode cX3_countThings 17 = .ok (.getfield 105, 3) := by decide +kernel
theorem dX3_countThings_20 : decode cX3_countThings 20 = .ok (.iadd, 1) := by decide +kernel
theorem dX3_countThings_21 : decode cX3_countThings 21 = .ok (.istore_n 1, 1) := by decide +kernel
theorem dX3_countThings_22 : decode cX3_countThings 22 = .ok (.iinc 2 1, 3) := by decide +kernel
theorem dX3_countThings_25 : decode cX3_countThings 25 = .ok (.goto (-21), 3) := by decide +kernel
theorem dX3_countThings_28 : decode cX3_countThings 28 = .ok (.iload_n 1, 1) := by decide +kernel
theorem dX3_countThings_29 : decode cX3_countThings 29 = .ok (.ireturn, 1) := by decide +kernel
theorem dX3_countNothings_0 : decode cX3_countNothings 0 = .ok (.iconst 0, 1) := by decide +kernel
theorem dX3_countNothings_1 : decode cX3_countNothings 1 = .ok (.istore_n 1, 1) := by decide +kernel
theorem dX3_countNothings_2 : decode cX3_countNothings 2 = .ok (.iconst 0, 1) := by decide +kernel
theorem dX3_countNothings_3 : decode cX3_countNothings 3 = .ok (.istore_n 2, 1) := by decide +kernel
theorem dX3_countNothings_4 : decode cX3_countNothings 4 = .ok (.iload_n 2, 1) := by decide +kernel
theorem dX3_countNothings_5 : decode cX3_countNothings 5 = .ok (.bipush 11, 2) := by decide +kernel
theorem dX3_countNothings_7 : decode cX3_countNothings 7 = .ok (.if_icmp .ge 23, 3) := by decide +kernel
theorem dX3_countNothings_10 : decode cX3_countNothings 10 = .ok (.iload_n 1, 1) := by decide +kernel
theorem dX3_countNothings_11 : decode cX3_countNothings 11 = .ok (.aload_n 0, 1) := by decide +kernel
theorem dX3_countNothings_12 : decode cX3_countNothings 12 = .ok (.getfield 30, 3) := by decide +kernel
theorem dX3_countNothings_15 : decode cX3_countNothings 15 = .ok (.iload_n 2, 1) := by decide +kernel
theorem dX3_countNothings_16 : decode cX3_countNothings 16 = .ok (.aaload, 1) := by decide +kernel
theorem dX3_countNothings_17 : decode cX3_countNothings 17 = .ok (.bipush 100, 2) := by decide +kernel
theorem dX3_countNothings_19 : decode cX3_countNothings 19 = .ok (.invokevirtual 263, 3) := by decide +kernel
theorem dX3_countNothings_22 : decode cX3_countNothings 22 = .ok (.iadd, 1) := by decide +kernel
theorem dX3_countNothings_23 : decode cX3_countNothings 23 = .ok (.istore_n 1, 1) := by decide +kernel
theorem dX3_countNothings_24 : decode cX3_countNothings 24 = .ok (.iinc 2 1, 3) := by decide +kernel
theorem dX3_countNothings_27 : decode cX3_countNothings 27 = .ok (.goto (-23), 3) := by decide +kernel
theorem dX3_countNothings_30 : decode cX3_countNothings 30 = .ok (.iload_n 1, 1) := by decide +kernel
theorem dX3_countNothings_31 : decode cX3_countNothings 31 = .ok (.ireturn, 1) := by decide +kernel
theorem dX3_countWalks_0 : decode cX3_countWalks 0 = .ok (.iconst 0, 1) := by decide +kernel
theorem dX3_countWalks_1 : decode cX3_countWalks 1 = .ok (.istore_n 1, 1) := by decide +kernel
theorem dX3_countWalks_2 : decode cX3_countWalks 2 = .ok (.iconst 0, 1) := by decide +kernel
theorem dX3_countWalks_3 : decode cX3_countWalks 3 = .ok (.istore_n 2, 1) := by decide +kernel
theorem dX3_countWalks_4 : decode cX3_countWalks 4 = .ok (.iload_n 2, 1) := by decide +kernel
theorem dX3_countWalks_5 : decode cX3_countWalks 5 = .ok (.bipush 6, 2) := by decide +kernel
theorem dX3_countWalks_7 : decode cX3_countWalks 7 = .ok (.if_icmp .ge 24, 3) := by decide +kernel
theorem dX3_countWalks_10 : decode cX3_countWalks 10 = .ok (.iload_n 1, 1) := by decide +kernel
theorem dX3_countWalks_11 : decode cX3_countWalks 11 = .ok (.aload_n 0, 1) := by decide +kernel
theorem dX3_countWalks_12 : decode cX3_countWalks 12 = .ok (.getfield 38, 3) := by decide +kernel
theorem dX3_countWalks_15 : decode cX3_countWalks 15 = .ok (.iload_n 2, 1) := by decide +kernel
theorem dX3_countWalks_16 : decode cX3_countWalks 16 = .ok (.aaload, 1) := by decide +kernel
theorem dX3_countWalks_17 : decode cX3_countWalks 17 = .ok (.getfield 236, 3) := by decide +kernel
theorem dX3_countWalks_20 : decode cX3_countWalks 20 = .ok (.invokestatic 83, 3) := by decide +kernel
theorem dX3_countWalks_23 : decode cX3_countWalks 23 = .ok (.iadd, 1) := by decide +kernel
theorem dX3_countWalks_24 : decode cX3_countWalks 24 = .ok (.istore_n 1, 1) := by decide +kernel
theorem dX3_countWalks_25 : decode cX3_countWalks 25 = .ok (.iinc 2 1, 3) := by decide +kernel
theorem dX3_countWalks_28 : decode cX3_countWalks 28 = .ok (.goto (-24), 3) := by decide +kernel
theorem dX3_countWalks_31 : decode cX3_countWalks 31 = .ok (.iload_n 1, 1) := by decide +kernel
theorem dX3_countWalks_32 : decode cX3_countWalks 32 = .ok (.ireturn, 1) := by decide +kernel
theorem dX3_countStaleWalks_0 : decode cX3_countStaleWalks 0 = .ok (.iconst 0, 1) := by decide +kernel
theorem dX3_countStaleWalks_1 : decode cX3_countStaleWalks 1 = .ok (.istore_n 1, 1) := by decide +kernel
theorem dX3_countStaleWalks_2 : decode cX3_countStaleWalks 2 = .ok (.iconst 0, 1) := by decide +kernel
theorem dX3_countStaleWalks_3 : decode cX3_countStaleWalks 3 = .ok (.istore_n 2, 1) := by decide +kernel
theorem dX3_countStaleWalks_4 : decode cX3_countStaleWalks 4 = .ok (.iload_n 2, 1) := by decide +kernel
theorem dX3_countStaleWalks_5 : decode cX3_countStaleWalks 5 = .ok (.bipush 6, 2) := by decide +kernel
theorem dX3_countStaleWalks_7 : decode cX3_countStaleWalks 7 = .ok (.if_icmp .ge 44, 3) := by decide +kernel
theorem dX3_countStaleWalks_10 : decode cX3_countStaleWalks 10 = .ok (.iload_n 1, 1) := by decide +kernel
theorem dX3_countStaleWalks_11 : decode cX3_countStaleWalks 11 = .ok (.aload_n 0, 1) := by decide +kernel
theorem dX3_countStaleWalks_12 : decode cX3_countStaleWalks 12 = .ok (.getfield 38, 3) := by decide +kernel
theorem dX3_countStaleWalks_15 : decode cX3_countStaleWalks 15 = .ok (.iload_n 2, 1) := by decide +kernel
theorem dX3_countStaleWalks_16 : decode cX3_countStaleWalks 16 = .ok (.aaload, 1) := by decide +kernel
theorem dX3_countStaleWalks_17 : decode cX3_countStaleWalks 17 = .ok (.getfield 236, 3) := by decide +kernel
theorem dX3_countStaleWalks_20 : decode cX3_countStaleWalks 20 = .ok (.ifCond .eq 19, 3) := by decide +kernel
theorem dX3_countStaleWalks_23 : decode cX3_countStaleWalks 23 = .ok (.aload_n 0, 1) := by decide +kernel
theorem dX3_countStaleWalks_24 : decode cX3_countStaleWalks 24 = .ok (.getfield 38, 3) := by decide +kernel
theorem dX3_countStaleWalks_27 : decode cX3_countStaleWalks 27 = .ok (.iload_n 2, 1) := by decide +kernel
theorem dX3_countStaleWalks_28 : decode cX3_countStaleWalks 28 = .ok (.aaload, 1) := by decide +kernel
theorem dX3_countStaleWalks_29 : decode cX3_countStaleWalks 29 = .ok (.invokevirtual 193, 3) := by decide +kernel
theorem dX3_countStaleWalks_32 : decode cX3_countStaleWalks 32 = .ok (.ifCond .eq 7, 3) := by decide +kernel
theorem dX3_countStaleWalks_35 : decode cX3_countStaleWalks 35 = .ok (.iconst 1, 1) := by decide +kernel
theorem dX3_countStaleWalks_36 : decode cX3_countStaleWalks 36 = .ok (.goto 4, 3) := by decide +kernel
theorem dX3_countStaleWalks_39 : decode cX3_countStaleWalks 39 = .ok (.iconst 0, 1) := by decide +kernel
theorem dX3_countStaleWalks_40 : decode cX3_countStaleWalks 40 = .ok (.invokestatic 83, 3) := by decide +kernel
theorem dX3_countStaleWalks_43 : decode cX3_countStaleWalks 43 = .ok (.iadd, 1) := by decide +kernel
theorem dX3_countStaleWalks_44 : decode cX3_countStaleWalks 44 = .ok (.istore_n 1, 1) := by decide +kernel
theorem dX3_countStaleWalks_45 : decode cX3_countStaleWalks 45 = .ok (.iinc 2 1, 3) := by decide +kernel
theorem dX3_countStaleWalks_48 : decode cX3_countStaleWalks 48 = .ok (.goto (-44), 3) := by decide +kernel
theorem dX3_countStaleWalks_51 : decode cX3_countStaleWalks 51 = .ok (.iload_n 1, 1) := by decide +kernel
theorem dX3_countStaleWalks_52 : decode cX3_countStaleWalks 52 = .ok (.ireturn, 1) := by decide +kernel
theorem dX3_giveTheSame_0 : decode cX3_giveTheSame 0 = .ok (.aload_n 0, 1) := by decide +kernel
theorem dX3_giveTheSame_1 : decode cX3_giveTheSame 1 = .ok (.getfield 30, 3) := by decide +kernel
theorem dX3_giveTheSame_4 : decode cX3_giveTheSame 4 = .ok (.iload_n 1, 1) := by decide +kernel
theorem dX3_giveTheSame_5 : decode cX3_giveTheSame 5 = .ok (.aaload, 1) := by decide +kernel
theorem dX3_giveTheSame_6 : decode cX3_giveTheSame 6 = .ok (.astore 4, 2) := by decide +kernel
theorem dX3_giveTheSame_8 : decode cX3_giveTheSame 8 = .ok (.aload_n 0, 1) := by decide +kernel
theorem dX3_giveTheSame_9 : decode cX3_giveTheSame 9 = .ok (.getfield 45, 3) := by decide +kernel
theorem dX3_giveTheSame_12 : decode cX3_giveTheSame 12 = .ok (.aload 4, 2) := by decide +kernel
theorem dX3_giveTheSame_14 : decode cX3_giveTheSame 14 = .ok (.iload_n 1, 1) := by decide +kernel
theorem dX3_giveTheSame_15 : decode cX3_giveTheSame 15 = .ok (.iload_n 2, 1) := by decide +kernel
theorem dX3_giveTheSame_16 : decode cX3_giveTheSame 16 = .ok (.invokevirtual 179, 3) := by decide +kernel
theorem dX3_giveTheSame_19 : decode cX3_giveTheSame 19 = .ok (.aload_n 0, 1) := by decide +kernel
theorem dX3_giveTheSame_20 : decode cX3_giveTheSame 20 = .ok (.getfield 49, 3) := by decide +kernel
theorem dX3_giveTheSame_23 : decode cX3_giveTheSame 23 = .ok (.aload 4, 2) := by decide +kernel
theorem dX3_giveTheSame_25 : decode cX3_giveTheSame 25 = .ok (.iload_n 1, 1) := by decide +kernel
theorem dX3_giveTheSame_26 : decode cX3_giveTheSame 26 = .ok (.iload_n 3, 1) := by decide +kernel
theorem dX3_giveTheSame_27 : decode cX3_giveTheSame 27 = .ok (.invokevirtual 179, 3) := by decide +kernel
theorem dX3_giveTheSame_30 : decode cX3_giveTheSame 30 = .ok (.iconst 0, 1) := by decide +kernel
theorem dX3_giveTheSame_31 : decode cX3_giveTheSame 31 = .ok (.istore 5, 2) := by decide +kernel
theorem dX3_giveTheSame_33 : decode cX3_giveTheSame 33 = .ok (.iload 5, 2) := by decide +kernel
theorem dX3_giveTheSame_35 : decode cX3_giveTheSame 35 = .ok (.bipush 12, 2) := by decide +kernel
theorem dX3_giveTheSame_37 : decode cX3_giveTheSame 37 = .ok (.if_icmp .ge 48, 3) := by decide +kernel
theorem dX3_giveTheSame_40 : decode cX3_giveTheSame 40 = .ok (.aload_n 0, 1) := by decide +kernel
theorem dX3_giveTheSame_41 : decode cX3_giveTheSame 41 = .ok (.getfield 45, 3) := by decide +kernel
theorem dX3_giveTheSame_44 : decode cX3_giveTheSame 44 = .ok (.invokevirtual 187, 3) := by decide +kernel
theorem dX3_giveTheSame_47 : decode cX3_giveTheSame 47 = .ok (.ifCond .eq 38, 3) := by decide +kernel
theorem dX3_giveTheSame_50 : decode cX3_giveTheSame 50 = .ok (.aload_n 0, 1) := by decide +kernel
theorem dX3_giveTheSame_51 : decode cX3_giveTheSame 51 = .ok (.getfield 49, 3) := by decide +kernel
theorem dX3_giveTheSame_54 : decode cX3_giveTheSame 54 = .ok (.invokevirtual 187, 3) := by decide +kernel
theorem dX3_giveTheSame_57 : decode cX3_giveTheSame 57 = .ok (.ifCond .eq 28, 3) := by decide +kernel
theorem dX3_giveTheSame_60 : decode cX3_giveTheSame 60 = .ok (.aload_n 0, 1) := by decide +kernel
theorem dX3_giveTheSame_61 : decode cX3_giveTheSame 61 = .ok (.getfield 45, 3) := by decide +kernel
theorem dX3_giveTheSame_64 : decode cX3_giveTheSame 64 = .ok (.invokevirtual 190, 3) := by decide +kernel
theorem dX3_giveTheSame_67 : decode cX3_giveTheSame 67 = .ok (.aload_n 0, 1) := by decide +kernel
theorem dX3_giveTheSame_68 : decode cX3_giveTheSame 68 = .ok (.getfield 49, 3) := by decide +kernel
theorem dX3_giveTheSame_71 : decode cX3_giveTheSame 71 = .ok (.invokevirtual 190, 3) := by decide +kernel
theorem dX3_giveTheSame_74 : decode cX3_giveTheSame 74 = .ok (.if_icmp .eq 5, 3) := by decide +kernel
theorem dX3_giveTheSame_77 : decode cX3_giveTheSame 77 = .ok (.iconst 0, 1) := by decide +kernel
theorem dX3_giveTheSame_78 : decode cX3_giveTheSame 78 = .ok (.ireturn, 1) := by decide +kernel
theorem dX3_giveTheSame_79 : decode cX3_giveTheSame 79 = .ok (.iinc 5 1, 3) := by decide +kernel
theorem dX3_giveTheSame_82 : decode cX3_giveTheSame 82 = .ok (.goto (-49), 3) := by decide +kernel
theorem dX3_giveTheSame_85 : decode cX3_giveTheSame 85 = .ok (.iload 5, 2) := by decide +kernel
theorem dX3_giveTheSame_87 : decode cX3_giveTheSame 87 = .ok (.aload 4, 2) := by decide +kernel
theorem dX3_giveTheSame_89 : decode cX3_giveTheSame 89 = .ok (.getfield 105, 3) := by decide +kernel
theorem dX3_giveTheSame_92 : decode cX3_giveTheSame 92 = .ok (.if_icmp .ne 27, 3) := by decide +kernel
theorem dX3_giveTheSame_95 : decode cX3_giveTheSame 95 = .ok (.aload_n 0, 1) := by decide +kernel
theorem dX3_giveTheSame_96 : decode cX3_giveTheSame 96 = .ok (.getfield 45, 3) := by decide +kernel
theorem dX3_giveTheSame_99 : decode cX3_giveTheSame 99 = .ok (.invokevirtual 187, 3) := by decide +kernel
theorem dX3_giveTheSame_102 : decode cX3_giveTheSame 102 = .ok (.ifCond .ne 17, 3) := by decide +kernel
theorem dX3_giveTheSame_105 : decode cX3_giveTheSame 105 = .ok (.aload_n 0, 1) := by decide +kernel
theorem dX3_giveTheSame_106 : decode cX3_giveTheSame 106 = .ok (.getfield 49, 3) := by decide +kernel
theorem dX3_giveTheSame_109 : decode cX3_giveTheSame 109 = .ok (.invokevirtual 187, 3) := by decide +kernel
theorem dX3_giveTheSame_112 : decode cX3_giveTheSame 112 = .ok (.ifCond .ne 7, 3) := by decide +kernel
theorem dX3_giveTheSame_115 : decode cX3_giveTheSame 115 = .ok (.iconst 1, 1) := by decide +kernel
theorem dX3_giveTheSame_116 : decode cX3_giveTheSame 116 = .ok (.goto 4, 3) := by decide +kernel
theorem dX3_giveTheSame_119 : decode cX3_giveTheSame 119 = .ok (.iconst 0, 1) := by decide +kernel
theorem dX3_giveTheSame_120 : decode cX3_giveTheSame 120 = .ok (.ireturn, 1) := by decide +kernel
theorem dX3_isItsList_0 : decode cX3_isItsList 0 = .ok (.aload_n 0, 1) := by decide +kernel
theorem dX3_isItsList_1 : decode cX3_isItsList 1 = .ok (.getfield 45, 3) := by decide +kernel
theorem dX3_isItsList_4 : decode cX3_isItsList 4 = .ok (.aload_n 0, 1) := by decide +kernel
theorem dX3_isItsList_5 : decode cX3_isItsList 5 = .ok (.getfield 30, 3) := by decide +kernel
theorem dX3_isItsList_8 : decode cX3_isItsList 8 = .ok (.iload_n 1, 1) := by decide +kernel
theorem dX3_isItsList_9 : decode cX3_isItsList 9 = .ok (.aaload, 1) := by decide +kernel
theorem dX3_isItsList_10 : decode cX3_isItsList 10 = .ok (.iload_n 1, 1) := by decide +kernel
theorem dX3_isItsList_11 : decode cX3_isItsList 11 = .ok (.iconst 0, 1) := by decide +kernel
theorem dX3_isItsList_12 : decode cX3_isItsList 12 = .ok (.invokevirtual 179, 3) := by decide +kernel
theorem dX3_isItsList_15 : decode cX3_isItsList 15 = .ok (.aload_n 0, 1) := by decide +kernel
theorem dX3_isItsList_16 : decode cX3_isItsList 16 = .ok (.getfield 45, 3) := by decide +kernel
theorem dX3_isItsList_19 : decode cX3_isItsList 19 = .ok (.aload_n 0, 1) := by decide +kernel
theorem dX3_isItsList_20 : decode cX3_isItsList 20 = .ok (.getfield 52, 3) := by decide +kernel
theorem dX3_isItsList_23 : decode cX3_isItsList 23 = .ok (.invokestatic 229, 3) := by decide +kernel
theorem dX3_isItsList_26 : decode cX3_isItsList 26 = .ok (.pop, 1) := by decide +kernel
theorem dX3_isItsList_27 : decode cX3_isItsList 27 = .ok (.aload_n 0, 1) := by decide +kernel
theorem dX3_isItsList_28 : decode cX3_isItsList 28 = .ok (.getfield 52, 3) := by decide +kernel
theorem dX3_isItsList_31 : decode cX3_isItsList 31 = .ok (.aload_n 0, 1) := by decide +kernel
theorem dX3_isItsList_32 : decode cX3_isItsList 32 = .ok (.getfield 30, 3) := by decide +kernel
theorem dX3_isItsList_35 : decode cX3_isItsList 35 = .ok (.iload_n 1, 1) := by decide +kernel
theorem dX3_isItsList_36 : decode cX3_isItsList 36 = .ok (.aaload, 1) := by decide +kernel
theorem dX3_isItsList_37 : decode cX3_isItsList 37 = .ok (.invokestatic 278, 3) := by decide +kernel
theorem dX3_isItsList_40 : decode cX3_isItsList 40 = .ok (.ireturn, 1) := by decide +kernel
theorem dX3_isItsListBehindOneStep_0 : decode cX3_isItsListBehindOneStep 0 = .ok (.aload_n 0, 1) := by decide +kernel
theorem dX3_isItsListBehindOneStep_1 : decode cX3_isItsListBehindOneStep 1 = .ok (.getfield 30, 3) := by decide +kernel
theorem dX3_isItsListBehindOneStep_4 : decode cX3_isItsListBehindOneStep 4 = .ok (.iload_n 1, 1) := by decide +kernel
theorem dX3_isItsListBehindOneStep_5 : decode cX3_isItsListBehindOneStep 5 = .ok (.aaload, 1) := by decide +kernel
theorem dX3_isItsListBehindOneStep_6 : decode cX3_isItsListBehindOneStep 6 = .ok (.astore_n 2, 1) := by decide +kernel
theorem dX3_isItsListBehindOneStep_7 : decode cX3_isItsListBehindOneStep 7 = .ok (.aload_n 2, 1) := by decide +kernel
theorem dX3_isItsListBehindOneStep_8 : decode cX3_isItsListBehindOneStep 8 = .ok (.getfield 105, 3) := by decide +kernel
theorem dX3_isItsListBehindOneStep_11 : decode cX3_isItsListBehindOneStep 11 = .ok (.ifCond .ne 5, 3) := by decide +kernel
theorem dX3_isItsListBehindOneStep_14 : decode cX3_isItsListBehindOneStep 14 = .ok (.iconst 1, 1) := by decide +kernel
theorem dX3_isItsListBehindOneStep_15 : decode cX3_isItsListBehindOneStep 15 = .ok (.ireturn, 1) := by decide +kernel
theorem dX3_isItsListBehindOneStep_16 : decode cX3_isItsListBehindOneStep 16 = .ok (.aload_n 0, 1) := by decide +kernel
theorem dX3_isItsListBehindOneStep_17 : decode cX3_isItsListBehindOneStep 17 = .ok (.getfield 45, 3) := by decide +kernel
theorem dX3_isItsListBehindOneStep_20 : decode cX3_isItsListBehindOneStep 20 = .ok (.aload_n 2, 1) := by decide +kernel
theorem dX3_isItsListBehindOneStep_21 : decode cX3_isItsListBehindOneStep 21 = .ok (.iload_n 1, 1) := by decide +kernel
theorem dX3_isItsListBehindOneStep_22 : decode cX3_isItsListBehindOneStep 22 = .ok (.iconst 0, 1) := by decide +kernel
theorem dX3_isItsListBehindOneStep_23 : decode cX3_isItsListBehindOneStep 23 = .ok (.invokevirtual 179, 3) := by decide +kernel
theorem dX3_isItsListBehindOneStep_26 : decode cX3_isItsListBehindOneStep 26 = .ok (.aload_n 0, 1) := by decide +kernel
theorem dX3_isItsListBehindOneStep_27 : decode cX3_isItsListBehindOneStep 27 = .ok (.getfield 45, 3) := by decide +kernel
theorem dX3_isItsListBehindOneStep_30 : decode cX3_isItsListBehindOneStep 30 = .ok (.invokevirtual 190, 3) := by decide +kernel
theorem dX3_isItsListBehindOneStep_33 : decode cX3_isItsListBehindOneStep 33 = .ok (.istore_n 3, 1) := by decide +kernel
theorem dX3_isItsListBehindOneStep_34 : decode cX3_isItsListBehindOneStep 34 = .ok (.aload_n 0, 1) := by decide +kernel
theorem dX3_isItsListBehindOneStep_35 : decode cX3_isItsListBehindOneStep 35 = .ok (.getfield 45, 3) := by decide +kernel
theorem dX3_isItsListBehindOneStep_38 : decode cX3_isItsListBehindOneStep 38 = .ok (.aload_n 0, 1) := by decide +kernel
theorem dX3_isItsListBehindOneStep_39 : decode cX3_isItsListBehindOneStep 39 = .ok (.getfield 52, 3) := by decide +kernel
theorem dX3_isItsListBehindOneStep_42 : decode cX3_isItsListBehindOneStep 42 = .ok (.invokestatic 229, 3) := by decide +kernel
theorem dX3_isItsListBehindOneStep_45 : decode cX3_isItsListBehindOneStep 45 = .ok (.pop, 1) := by decide +kernel
theorem dX3_isItsListBehindOneStep_46 : decode cX3_isItsListBehindOneStep 46 = .ok (.aload_n 0, 1) := by decide +kernel
theorem dX3_isItsListBehindOneStep_47 : decode cX3_isItsListBehindOneStep 47 = .ok (.getfield 52, 3) := by decide +kernel
theorem dX3_isItsListBehindOneStep_50 : decode cX3_isItsListBehindOneStep 50 = .ok (.iconst 0, 1) := by decide +kernel
theorem dX3_isItsListBehindOneStep_51 : decode cX3_isItsListBehindOneStep 51 = .ok (.iload_n 3, 1) := by decide +kernel
theorem dX3_isItsListBehindOneStep_52 : decode cX3_isItsListBehindOneStep 52 = .ok (.invokevirtual 122, 3) := by decide +kernel
theorem dX3_isItsListBehindOneStep_55 : decode cX3_isItsListBehindOneStep 55 = .ok (.pop, 1) := by decide +kernel
theorem dX3_isItsListBehindOneStep_56 : decode cX3_isItsListBehindOneStep 56 = .ok (.aload_n 0, 1) := by decide +kernel
theorem dX3_isItsListBehindOneStep_57 : decode cX3_isItsListBehindOneStep 57 = .ok (.getfield 52, 3) := by decide +kernel
theorem dX3_isItsListBehindOneStep_60 : decode cX3_isItsListBehindOneStep 60 = .ok (.aload_n 2, 1) := by decide +kernel
theorem dX3_isItsListBehindOneStep_61 : decode cX3_isItsListBehindOneStep 61 = .ok (.invokestatic 278, 3) := by decide +kernel
theorem dX3_isItsListBehindOneStep_64 : decode cX3_isItsListBehindOneStep 64 = .ok (.ireturn, 1) := by decide +kernel
theorem dX4_init_0 : decode cX4_init 0 = .ok (.aload_n 0, 1) := by decide +kernel
theorem dX4_init_1 : decode cX4_init 1 = .ok (.invokespecial 1, 3) := by decide +kernel
theorem dX4_init_4 : decode cX4_init 4 = .ok (.return_, 1) := by decide +kernel
theorem dX5_init_0 : decode cX5_init 0 = .ok (.aload_n 0, 1) := by decide +kernel
theorem dX5_init_1 : decode cX5_init 1 = .ok (.invokespecial 1, 3) := by decide +kernel
theorem dX5_init_4 : decode cX5_init 4 = .ok (.aload_n 0, 1) := by decide +kernel
theorem dX5_init_5 : decode cX5_init 5 = .ok (.bipush 11, 2) := by decide +kernel
theorem dX5_init_7 : decode cX5_init 7 = .ok (.bipush 12, 2) := by decide +kernel
theorem dX5_init_9 : decode cX5_init 9 = .ok (.multianewarray 9 2, 4) := by decide +kernel
theorem dX5_init_13 : decode cX5_init 13 = .ok (.putfield 11, 3) := by decide +kernel
theorem dX5_init_16 : decode cX5_init 16 = .ok (.aload_n 0, 1) := by decide +kernel
theorem dX5_init_17 : decode cX5_init 17 = .ok (.bipush 11, 2) := by decide +kernel
theorem dX5_init_19 : decode cX5_init 19 = .ok (.newarray .int, 2) := by decide +kernel
theorem dX5_init_21 : decode cX5_init 21 = .ok (.putfield 14, 3) := by decide +kernel
theorem dX5_init_24 : decode cX5_init 24 = .ok (.aload_n 0, 1) := by decide +kernel
theorem dX5_init_25 : decode cX5_init 25 = .ok (.bipush 11, 2) := by decide +kernel
theorem dX5_init_27 : decode cX5_init 27 = .ok (.newarray .int, 2) := by decide +kernel
theorem dX5_init_29 : decode cX5_init 29 = .ok (.putfield 18, 3) := by decide +kernel
theorem dX5_init_32 : decode cX5_init 32 = .ok (.aload_n 0, 1) := by decide +kernel
theorem dX5_init_33 : decode cX5_init 33 = .ok (.bipush 6, 2) := by decide +kernel
theorem dX5_init_35 : decode cX5_init 35 = .ok (.newarray .int, 2) := by decide +kernel
theorem dX5_init_37 : decode cX5_init 37 = .ok (.dup, 1) := by decide +kernel
theorem dX5_init_38 : decode cX5_init 38 = .ok (.iconst 0, 1) := by decide +kernel
theorem dX5_init_39 : decode cX5_init 39 = .ok (.iconst (-1), 1) := by decide +kernel
theorem dX5_init_40 : decode cX5_init 40 = .ok (.iastore, 1) := by decide +kernel
theorem dX5_init_41 : decode cX5_init 41 = .ok (.dup, 1) := by decide +kernel
theorem dX5_init_42 : decode cX5_init 42 = .ok (.iconst 1, 1) := by decide +kernel
theorem dX5_init_43 : decode cX5_init 43 = .ok (.iconst (-1), 1) := by decide +kernel
theorem dX5_init_44 : decode cX5_init 44 = .ok (.iastore, 1) := by decide +kernel
theorem dX5_init_45 : decode cX5_init 45 = .ok (.dup, 1) := by decide +kernel
theorem dX5_init_46 : decode cX5_init 46 = .ok (.iconst 2, 1) := by decide +kernel
theorem dX5_init_47 : decode cX5_init 47 = .ok (.iconst (-1), 1) := by decide +kernel
theorem dX5_init_48 : decode cX5_init 48 = .ok (.iastore, 1) := by decide +kernel
theorem dX5_init_49 : decode cX5_init 49 = .ok (.dup, 1) := by decide +kernel
theorem dX5_init_50 : decode cX5_init 50 = .ok (.iconst 3, 1) := by decide +kernel
theorem dX5_init_51 : decode cX5_init 51 = .ok (.iconst (-1), 1) := by decide +kernel
theorem dX5_init_52 : decode cX5_init 52 = .ok (.iastore, 1) := by decide +kernel
theorem dX5_init_53 : decode cX5_init 53 = .ok (.dup, 1) := by decide +kernel
theorem dX5_init_54 : decode cX5_init 54 = .ok (.iconst 4, 1) := by decide +kernel
theorem dX5_init_55 : decode cX5_init 55 = .ok (.iconst (-1), 1) := by decide +kernel
theorem dX5_init_56 : decode cX5_init 56 = .ok (.iastore, 1) := by decide +kernel
theorem dX5_init_57 : decode cX5_init 57 = .ok (.dup, 1) := by decide +kernel
theorem dX5_init_58 : decode cX5_init 58 = .ok (.iconst 5, 1) := by decide +kernel
theorem dX5_init_59 : decode cX5_init 59 = .ok (.iconst (-1), 1) := by decide +kernel
theorem dX5_init_60 : decode cX5_init 60 = .ok (.iastore, 1) := by decide +kernel
theorem dX5_init_61 : decode cX5_init 61 = .ok (.putfield 21, 3) := by decide +kernel
theorem dX5_init_64 : decode cX5_init 64 = .ok (.aload_n 0, 1) := by decide +kernel
theorem dX5_init_65 : decode cX5_init 65 = .ok (.bipush 6, 2) := by decide +kernel
theorem dX5_init_67 : decode cX5_init 67 = .ok (.newarray .int, 2) := by decide +kernel
theorem dX5_init_69 : decode cX5_init 69 = .ok (.putfield 24, 3) := by decide +kernel
theorem dX5_init_72 : decode cX5_init 72 = .ok (.aload_n 0, 1) := by decide +kernel
theorem dX5_init_73 : decode cX5_init 73 = .ok (.bipush 6, 2) := by decide +kernel
theorem dX5_init_75 : decode cX5_init 75 = .ok (.newarray .int, 2) := by decide +kernel
theorem dX5_init_77 : decode cX5_init 77 = .ok (.putfield 27, 3) := by decide +kernel
theorem dX5_init_80 : decode cX5_init 80 = .ok (.aload_n 0, 1) := by decide +kernel
theorem dX5_init_81 : decode cX5_init 81 = .ok (.bipush 6, 2) := by decide +kernel
theorem dX5_init_83 : decode cX5_init 83 = .ok (.newarray .int, 2) := by decide +kernel
theorem dX5_init_85 : decode cX5_init 85 = .ok (.putfield 30, 3) := by decide +kernel
theorem dX5_init_88 : decode cX5_init 88 = .ok (.aload_n 0, 1) := by decide +kernel
theorem dX5_init_89 : decode cX5_init 89 = .ok (.bipush 6, 2) := by decide +kernel
theorem dX5_init_91 : decode cX5_init 91 = .ok (.newarray .int, 2) := by decide +kernel
theorem dX5_init_93 : decode cX5_init 93 = .ok (.putfield 33, 3) := by decide +kernel
theorem dX5_init_96 : decode cX5_init 96 = .ok (.aload_n 0, 1) := by decide +kernel
theorem dX5_init_97 : decode cX5_init 97 = .ok (.bipush 6, 2) := by decide +kernel
theorem dX5_init_99 : decode cX5_init 99 = .ok (.newarray .boolean, 2) := by decide +kernel
theorem dX5_init_101 : decode cX5_init 101 = .ok (.putfield 36, 3) := by decide +kernel
theorem dX5_init_104 : decode cX5_init 104 = .ok (.aload_n 0, 1) := by decide +kernel
theorem dX5_init_105 : decode cX5_init 105 = .ok (.bipush 11, 2) := by decide +kernel
theorem dX5_init_107 : decode cX5_init 107 = .ok (.newarray .int, 2) := by decide +kernel
theorem dX5_init_109 : decode cX5_init 109 = .ok (.putfield 40, 3) := by decide +kernel
theorem dX5_init_112 : decode cX5_init 112 = .ok (.aload_n 0, 1) := by decide +kernel
theorem dX5_init_113 : decode cX5_init 113 = .ok (.bipush 6, 2) := by decide +kernel
theorem dX5_init_115 : decode cX5_init 115 = .ok (.newarray .int, 2) := by decide +kernel
theorem dX5_init_117 : decode cX5_init 117 = .ok (.putfield 43, 3) := by decide +kernel
theorem dX5_init_120 : decode cX5_init 120 = .ok (.return_, 1) := by decide +kernel
theorem dX5_thrown_0 : decode cX5_thrown 0 = .ok (.aload_n 0, 1) := by decide +kernel
theorem dX5_thrown_1 : decode cX5_thrown 1 = .ok (.getfield 46, 3) := by decide +kernel
theorem dX5_thrown_4 : decode cX5_thrown 4 = .ok (.ireturn, 1) := by decide +kernel
theorem dX5_isIn_0 : decode cX5_isIn 0 = .ok (.iload_n 0, 1) := by decide +kernel
theorem dX5_isIn_1 : decode cX5_isIn 1 = .ok (.iload_n 1, 1) := by decide +kernel
theorem dX5_isIn_2 : decode cX5_isIn 2 = .ok (.if_icmp .lt 12, 3) := by decide +kernel
theorem dX5_isIn_5 : decode cX5_isIn 5 = .ok (.iload_n 0, 1) := by decide +kernel
theorem dX5_isIn_6 : decode cX5_isIn 6 = .ok (.iload_n 2, 1) := by decide +kernel
theorem dX5_isIn_7 : decode cX5_isIn 7 = .ok (.if_icmp .gt 7, 3) := by decide +kernel
theorem dX5_isIn_10 : decode cX5_isIn 10 = .ok (.iconst 1, 1) := by decide +kernel
theorem dX5_isIn_11 : decode cX5_isIn 11 = .ok (.goto 4, 3) := by decide +kernel
theorem dX5_isIn_14 : decode cX5_isIn 14 = .ok (.iconst 0, 1) := by decide +kernel
theorem dX5_isIn_15 : decode cX5_isIn 15 = .ok (.ireturn, 1) := by decide +kernel
theorem dX5_one_0 : decode cX5_one 0 = .ok (.iload_n 0, 1) := by decide +kernel
theorem dX5_one_1 : decode cX5_one 1 = .ok (.ifCond .eq 7, 3) := by decide +kernel
theorem dX5_one_4 : decode cX5_one 4 = .ok (.iconst 1, 1) := by decide +kernel
theorem dX5_one_5 : decode cX5_one 5 = .ok (.goto 4, 3) := by decide +kernel
theorem dX5_one_8 : decode cX5_one 8 = .ok (.iconst 0, 1) := by decide +kernel
theorem dX5_one_9 : decode cX5_one 9 = .ok (.ireturn, 1) := by decide +kernel
theorem dX5_isStopped_0 : decode cX5_isStopped 0 = .ok (.aload_n 0, 1) := by decide +kernel
theorem dX5_isStopped_1 : decode cX5_isStopped 1 = .ok (.iload_n 1, 1) := by decide +kernel
theorem dX5_isStopped_2 : decode cX5_isStopped 2 = .ok (.ifCond .eq 7, 3) := by decide +kernel
theorem dX5_isStopped_5 : decode cX5_isStopped 5 = .ok (.iconst 1, 1) := by decide +kernel
theorem dX5_isStopped_6 : decode cX5_isStopped 6 = .ok (.goto 20, 3) := by decide +kernel
theorem dX5_isStopped_9 : decode cX5_isStopped 9 = .ok (.iload_n 2, 1) := by decide +kernel
theorem dX5_isStopped_10 : decode cX5_isStopped 10 = .ok (.ifCond .eq 7, 3) := by decide +kernel
theorem dX5_isStopped_13 : decode cX5_isStopped 13 = .ok (.iconst 2, 1) := by decide +kernel
theorem dX5_isStopped_14 : decode cX5_isStopped 14 = .ok (.goto 12, 3) := by decide +kernel
theorem dX5_isStopped_17 : decode cX5_isStopped 17 = .ok (.iload_n 3, 1) := by decide +kernel
theorem dX5_isStopped_18 : decode cX5_isStopped 18 = .ok (.ifCond .eq 7, 3) := by decide +kernel
theorem dX5_isStopped_21 : decode cX5_isStopped 21 = .ok (.iconst 3, 1) := by decide +kernel
theorem dX5_isStopped_22 : decode cX5_isStopped 22 = .ok (.goto 4, 3) := by decide +kernel
