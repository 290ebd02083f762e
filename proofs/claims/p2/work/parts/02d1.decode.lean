theorem dX5_isStopped_25 : decode cX5_isStopped 25 = .ok (.iconst 0, 1) := by decide +kernel
theorem dX5_isStopped_26 : decode cX5_isStopped 26 = .ok (.putfield 46, 3) := by decide +kernel
theorem dX5_isStopped_29 : decode cX5_isStopped 29 = .ok (.aload_n 0, 1) := by decide +kernel
theorem dX5_isStopped_30 : decode cX5_isStopped 30 = .ok (.getfield 46, 3) := by decide +kernel
theorem dX5_isStopped_33 : decode cX5_isStopped 33 = .ok (.ifCond .le 7, 3) := by decide +kernel
theorem dX5_isStopped_36 : decode cX5_isStopped 36 = .ok (.iconst 1, 1) := by decide +kernel
theorem dX5_isStopped_37 : decode cX5_isStopped 37 = .ok (.goto 4, 3) := by decide +kernel
theorem dX5_isStopped_40 : decode cX5_isStopped 40 = .ok (.iconst 0, 1) := by decide +kernel
theorem dX5_isStopped_41 : decode cX5_isStopped 41 = .ok (.ireturn, 1) := by decide +kernel
theorem dX5_isStopped__0 : decode cX5_isStopped_ 0 = .ok (.aload_n 0, 1) := by decide +kernel
theorem dX5_isStopped__1 : decode cX5_isStopped_ 1 = .ok (.iload_n 1, 1) := by decide +kernel
theorem dX5_isStopped__2 : decode cX5_isStopped_ 2 = .ok (.iload_n 2, 1) := by decide +kernel
theorem dX5_isStopped__3 : decode cX5_isStopped_ 3 = .ok (.iconst 0, 1) := by decide +kernel
theorem dX5_isStopped__4 : decode cX5_isStopped_ 4 = .ok (.invokevirtual 50, 3) := by decide +kernel
theorem dX5_isStopped__7 : decode cX5_isStopped_ 7 = .ok (.ireturn, 1) := by decide +kernel
theorem dX5_isStopped___0 : decode cX5_isStopped__ 0 = .ok (.aload_n 0, 1) := by decide +kernel
theorem dX5_isStopped___1 : decode cX5_isStopped__ 1 = .ok (.iload_n 1, 1) := by decide +kernel
theorem dX5_isStopped___2 : decode cX5_isStopped__ 2 = .ok (.iconst 0, 1) := by decide +kernel
theorem dX5_isStopped___3 : decode cX5_isStopped__ 3 = .ok (.iconst 0, 1) := by decide +kernel
theorem dX5_isStopped___4 : decode cX5_isStopped__ 4 = .ok (.invokevirtual 50, 3) := by decide +kernel
theorem dX5_isStopped___7 : decode cX5_isStopped__ 7 = .ok (.ireturn, 1) := by decide +kernel
theorem dX5_no_0 : decode cX5_no 0 = .ok (.aload_n 0, 1) := by decide +kernel
theorem dX5_no_1 : decode cX5_no 1 = .ok (.dup, 1) := by decide +kernel
theorem dX5_no_2 : decode cX5_no 2 = .ok (.getfield 54, 3) := by decide +kernel
theorem dX5_no_5 : decode cX5_no 5 = .ok (.iconst 1, 1) := by decide +kernel
theorem dX5_no_6 : decode cX5_no 6 = .ok (.iadd, 1) := by decide +kernel
theorem dX5_no_7 : decode cX5_no 7 = .ok (.putfield 54, 3) := by decide +kernel
theorem dX5_no_10 : decode cX5_no 10 = .ok (.bipush (-9), 2) := by decide +kernel
theorem dX5_no_12 : decode cX5_no 12 = .ok (.ireturn, 1) := by decide +kernel
theorem dX5_noText_0 : decode cX5_noText 0 = .ok (.aload_n 0, 1) := by decide +kernel
theorem dX5_noText_1 : decode cX5_noText 1 = .ok (.dup, 1) := by decide +kernel
theorem dX5_noText_2 : decode cX5_noText 2 = .ok (.getfield 54, 3) := by decide +kernel
theorem dX5_noText_5 : decode cX5_noText 5 = .ok (.iconst 1, 1) := by decide +kernel
theorem dX5_noText_6 : decode cX5_noText 6 = .ok (.iadd, 1) := by decide +kernel
theorem dX5_noText_7 : decode cX5_noText 7 = .ok (.putfield 54, 3) := by decide +kernel
theorem dX5_noText_10 : decode cX5_noText 10 = .ok (.ldc 57, 2) := by decide +kernel
theorem dX5_noText_12 : decode cX5_noText 12 = .ok (.areturn, 1) := by decide +kernel
theorem dX5_isNone_0 : decode cX5_isNone 0 = .ok (.iload_n 0, 1) := by decide +kernel
theorem dX5_isNone_1 : decode cX5_isNone 1 = .ok (.iconst 0, 1) := by decide +kernel
theorem dX5_isNone_2 : decode cX5_isNone 2 = .ok (.bipush 10, 2) := by decide +kernel
theorem dX5_isNone_4 : decode cX5_isNone 4 = .ok (.invokestatic 59, 3) := by decide +kernel
theorem dX5_isNone_7 : decode cX5_isNone 7 = .ok (.ifCond .ne 7, 3) := by decide +kernel
theorem dX5_isNone_10 : decode cX5_isNone 10 = .ok (.iconst 1, 1) := by decide +kernel
theorem dX5_isNone_11 : decode cX5_isNone 11 = .ok (.goto 4, 3) := by decide +kernel
theorem dX5_isNone_14 : decode cX5_isNone 14 = .ok (.iconst 0, 1) := by decide +kernel
theorem dX5_isNone_15 : decode cX5_isNone 15 = .ok (.ireturn, 1) := by decide +kernel
theorem dX5_isNoRow_0 : decode cX5_isNoRow 0 = .ok (.iload_n 0, 1) := by decide +kernel
theorem dX5_isNoRow_1 : decode cX5_isNoRow 1 = .ok (.invokestatic 63, 3) := by decide +kernel
theorem dX5_isNoRow_4 : decode cX5_isNoRow 4 = .ok (.ifCond .ne 14, 3) := by decide +kernel
theorem dX5_isNoRow_7 : decode cX5_isNoRow 7 = .ok (.iload_n 0, 1) := by decide +kernel
theorem dX5_isNoRow_8 : decode cX5_isNoRow 8 = .ok (.iconst 2, 1) := by decide +kernel
theorem dX5_isNoRow_9 : decode cX5_isNoRow 9 = .ok (.if_icmp .le 13, 3) := by decide +kernel
theorem dX5_isNoRow_12 : decode cX5_isNoRow 12 = .ok (.iload_n 0, 1) := by decide +kernel
theorem dX5_isNoRow_13 : decode cX5_isNoRow 13 = .ok (.bipush 8, 2) := by decide +kernel
theorem dX5_isNoRow_15 : decode cX5_isNoRow 15 = .ok (.if_icmp .ge 7, 3) := by decide +kernel
theorem dX5_isNoRow_18 : decode cX5_isNoRow 18 = .ok (.iconst 1, 1) := by decide +kernel
theorem dX5_isNoRow_19 : decode cX5_isNoRow 19 = .ok (.goto 4, 3) := by decide +kernel
theorem dX5_isNoRow_22 : decode cX5_isNoRow 22 = .ok (.iconst 0, 1) := by decide +kernel
theorem dX5_isNoRow_23 : decode cX5_isNoRow 23 = .ok (.ireturn, 1) := by decide +kernel
theorem dX5_isNoList_0 : decode cX5_isNoList 0 = .ok (.iload_n 0, 1) := by decide +kernel
theorem dX5_isNoList_1 : decode cX5_isNoList 1 = .ok (.bipush 8, 2) := by decide +kernel
theorem dX5_isNoList_3 : decode cX5_isNoList 3 = .ok (.bipush 10, 2) := by decide +kernel
theorem dX5_isNoList_5 : decode cX5_isNoList 5 = .ok (.invokestatic 59, 3) := by decide +kernel
theorem dX5_isNoList_8 : decode cX5_isNoList 8 = .ok (.ifCond .ne 7, 3) := by decide +kernel
theorem dX5_isNoList_11 : decode cX5_isNoList 11 = .ok (.iconst 1, 1) := by decide +kernel
theorem dX5_isNoList_12 : decode cX5_isNoList 12 = .ok (.goto 4, 3) := by decide +kernel
theorem dX5_isNoList_15 : decode cX5_isNoList 15 = .ok (.iconst 0, 1) := by decide +kernel
theorem dX5_isNoList_16 : decode cX5_isNoList 16 = .ok (.ireturn, 1) := by decide +kernel
theorem dX5_isNoThing_0 : decode cX5_isNoThing 0 = .ok (.iload_n 0, 1) := by decide +kernel
theorem dX5_isNoThing_1 : decode cX5_isNoThing 1 = .ok (.iconst 0, 1) := by decide +kernel
theorem dX5_isNoThing_2 : decode cX5_isNoThing 2 = .ok (.bipush 100, 2) := by decide +kernel
theorem dX5_isNoThing_4 : decode cX5_isNoThing 4 = .ok (.invokestatic 59, 3) := by decide +kernel
theorem dX5_isNoThing_7 : decode cX5_isNoThing 7 = .ok (.ifCond .ne 7, 3) := by decide +kernel
theorem dX5_isNoThing_10 : decode cX5_isNoThing 10 = .ok (.iconst 1, 1) := by decide +kernel
theorem dX5_isNoThing_11 : decode cX5_isNoThing 11 = .ok (.goto 4, 3) := by decide +kernel
theorem dX5_isNoThing_14 : decode cX5_isNoThing 14 = .ok (.iconst 0, 1) := by decide +kernel
theorem dX5_isNoThing_15 : decode cX5_isNoThing 15 = .ok (.ireturn, 1) := by decide +kernel
theorem dX5_isTable_0 : decode cX5_isTable 0 = .ok (.iload_n 0, 1) := by decide +kernel
theorem dX5_isTable_1 : decode cX5_isTable 1 = .ok (.bipush 6, 2) := by decide +kernel
theorem dX5_isTable_3 : decode cX5_isTable 3 = .ok (.if_icmp .eq 9, 3) := by decide +kernel
theorem dX5_isTable_6 : decode cX5_isTable 6 = .ok (.iload_n 0, 1) := by decide +kernel
theorem dX5_isTable_7 : decode cX5_isTable 7 = .ok (.bipush 7, 2) := by decide +kernel
theorem dX5_isTable_9 : decode cX5_isTable 9 = .ok (.if_icmp .ne 7, 3) := by decide +kernel
theorem dX5_isTable_12 : decode cX5_isTable 12 = .ok (.iconst 1, 1) := by decide +kernel
theorem dX5_isTable_13 : decode cX5_isTable 13 = .ok (.goto 4, 3) := by decide +kernel
theorem dX5_isTable_16 : decode cX5_isTable 16 = .ok (.iconst 0, 1) := by decide +kernel
theorem dX5_isTable_17 : decode cX5_isTable 17 = .ok (.ireturn, 1) := by decide +kernel
theorem dX5_takesNothing_0 : decode cX5_takesNothing 0 = .ok (.iload_n 0, 1) := by decide +kernel
theorem dX5_takesNothing_1 : decode cX5_takesNothing 1 = .ok (.iconst 3, 1) := by decide +kernel
theorem dX5_takesNothing_2 : decode cX5_takesNothing 2 = .ok (.if_icmp .eq 19, 3) := by decide +kernel
theorem dX5_takesNothing_5 : decode cX5_takesNothing 5 = .ok (.iload_n 0, 1) := by decide +kernel
theorem dX5_takesNothing_6 : decode cX5_takesNothing 6 = .ok (.iconst 5, 1) := by decide +kernel
theorem dX5_takesNothing_7 : decode cX5_takesNothing 7 = .ok (.if_icmp .eq 14, 3) := by decide +kernel
theorem dX5_takesNothing_10 : decode cX5_takesNothing 10 = .ok (.iload_n 0, 1) := by decide +kernel
theorem dX5_takesNothing_11 : decode cX5_takesNothing 11 = .ok (.invokestatic 67, 3) := by decide +kernel
theorem dX5_takesNothing_14 : decode cX5_takesNothing 14 = .ok (.ifCond .ne 7, 3) := by decide +kernel
theorem dX5_takesNothing_17 : decode cX5_takesNothing 17 = .ok (.iconst 1, 1) := by decide +kernel
theorem dX5_takesNothing_18 : decode cX5_takesNothing 18 = .ok (.goto 4, 3) := by decide +kernel
theorem dX5_takesNothing_21 : decode cX5_takesNothing 21 = .ok (.iconst 0, 1) := by decide +kernel
theorem dX5_takesNothing_22 : decode cX5_takesNothing 22 = .ok (.ireturn, 1) := by decide +kernel
theorem dX5_isNoPlace_0 : decode cX5_isNoPlace 0 = .ok (.iload_n 1, 1) := by decide +kernel
theorem dX5_isNoPlace_1 : decode cX5_isNoPlace 1 = .ok (.invokestatic 70, 3) := by decide +kernel
theorem dX5_isNoPlace_4 : decode cX5_isNoPlace 4 = .ok (.ifCond .ne 19, 3) := by decide +kernel
theorem dX5_isNoPlace_7 : decode cX5_isNoPlace 7 = .ok (.iload_n 2, 1) := by decide +kernel
theorem dX5_isNoPlace_8 : decode cX5_isNoPlace 8 = .ok (.iconst 0, 1) := by decide +kernel
theorem dX5_isNoPlace_9 : decode cX5_isNoPlace 9 = .ok (.aload_n 0, 1) := by decide +kernel
theorem dX5_isNoPlace_10 : decode cX5_isNoPlace 10 = .ok (.getfield 14, 3) := by decide +kernel
theorem dX5_isNoPlace_13 : decode cX5_isNoPlace 13 = .ok (.iload_n 1, 1) := by decide +kernel
theorem dX5_isNoPlace_14 : decode cX5_isNoPlace 14 = .ok (.iaload, 1) := by decide +kernel
theorem dX5_isNoPlace_15 : decode cX5_isNoPlace 15 = .ok (.iconst 1, 1) := by decide +kernel
theorem dX5_isNoPlace_16 : decode cX5_isNoPlace 16 = .ok (.isub, 1) := by decide +kernel
theorem dX5_isNoPlace_17 : decode cX5_isNoPlace 17 = .ok (.invokestatic 59, 3) := by decide +kernel
theorem dX5_isNoPlace_20 : decode cX5_isNoPlace 20 = .ok (.ifCond .ne 7, 3) := by decide +kernel
theorem dX5_isNoPlace_23 : decode cX5_isNoPlace 23 = .ok (.iconst 1, 1) := by decide +kernel
theorem dX5_isNoPlace_24 : decode cX5_isNoPlace 24 = .ok (.goto 4, 3) := by decide +kernel
theorem dX5_isNoPlace_27 : decode cX5_isNoPlace 27 = .ok (.iconst 0, 1) := by decide +kernel
theorem dX5_isNoPlace_28 : decode cX5_isNoPlace 28 = .ok (.ireturn, 1) := by decide +kernel
theorem dX5_hasNothing_0 : decode cX5_hasNothing 0 = .ok (.aload_n 0, 1) := by decide +kernel
theorem dX5_hasNothing_1 : decode cX5_hasNothing 1 = .ok (.iload_n 1, 1) := by decide +kernel
theorem dX5_hasNothing_2 : decode cX5_hasNothing 2 = .ok (.bipush 100, 2) := by decide +kernel
theorem dX5_hasNothing_4 : decode cX5_hasNothing 4 = .ok (.invokevirtual 73, 3) := by decide +kernel
theorem dX5_hasNothing_7 : decode cX5_hasNothing 7 = .ok (.ifCond .le 7, 3) := by decide +kernel
theorem dX5_hasNothing_10 : decode cX5_hasNothing 10 = .ok (.iconst 1, 1) := by decide +kernel
theorem dX5_hasNothing_11 : decode cX5_hasNothing 11 = .ok (.goto 4, 3) := by decide +kernel
theorem dX5_hasNothing_14 : decode cX5_hasNothing 14 = .ok (.iconst 0, 1) := by decide +kernel
theorem dX5_hasNothing_15 : decode cX5_hasNothing 15 = .ok (.ireturn, 1) := by decide +kernel
theorem dX5_count_0 : decode cX5_count 0 = .ok (.iconst 0, 1) := by decide +kernel
theorem dX5_count_1 : decode cX5_count 1 = .ok (.istore_n 3, 1) := by decide +kernel
theorem dX5_count_2 : decode cX5_count 2 = .ok (.iconst 0, 1) := by decide +kernel
theorem dX5_count_3 : decode cX5_count 3 = .ok (.istore 4, 2) := by decide +kernel
theorem dX5_count_5 : decode cX5_count 5 = .ok (.iload 4, 2) := by decide +kernel
theorem dX5_count_7 : decode cX5_count 7 = .ok (.aload_n 0, 1) := by decide +kernel
theorem dX5_count_8 : decode cX5_count 8 = .ok (.getfield 14, 3) := by decide +kernel
theorem dX5_count_11 : decode cX5_count 11 = .ok (.iload_n 1, 1) := by decide +kernel
theorem dX5_count_12 : decode cX5_count 12 = .ok (.iaload, 1) := by decide +kernel
theorem dX5_count_13 : decode cX5_count 13 = .ok (.if_icmp .ge 33, 3) := by decide +kernel
theorem dX5_count_16 : decode cX5_count 16 = .ok (.iload_n 3, 1) := by decide +kernel
theorem dX5_count_17 : decode cX5_count 17 = .ok (.aload_n 0, 1) := by decide +kernel
theorem dX5_count_18 : decode cX5_count 18 = .ok (.getfield 11, 3) := by decide +kernel
theorem dX5_count_21 : decode cX5_count 21 = .ok (.iload_n 1, 1) := by decide +kernel
theorem dX5_count_22 : decode cX5_count 22 = .ok (.aaload, 1) := by decide +kernel
theorem dX5_count_23 : decode cX5_count 23 = .ok (.iload 4, 2) := by decide +kernel
theorem dX5_count_25 : decode cX5_count 25 = .ok (.iaload, 1) := by decide +kernel
theorem dX5_count_26 : decode cX5_count 26 = .ok (.iload_n 2, 1) := by decide +kernel
theorem dX5_count_27 : decode cX5_count 27 = .ok (.if_icmp .ne 7, 3) := by decide +kernel
theorem dX5_count_30 : decode cX5_count 30 = .ok (.iconst 1, 1) := by decide +kernel
theorem dX5_count_31 : decode cX5_count 31 = .ok (.goto 4, 3) := by decide +kernel
theorem dX5_count_34 : decode cX5_count 34 = .ok (.iconst 0, 1) := by decide +kernel
theorem dX5_count_35 : decode cX5_count 35 = .ok (.invokestatic 77, 3) := by decide +kernel
theorem dX5_count_38 : decode cX5_count 38 = .ok (.iadd, 1) := by decide +kernel
theorem dX5_count_39 : decode cX5_count 39 = .ok (.istore_n 3, 1) := by decide +kernel
theorem dX5_count_40 : decode cX5_count 40 = .ok (.iinc 4 1, 3) := by decide +kernel
theorem dX5_count_43 : decode cX5_count 43 = .ok (.goto (-38), 3) := by decide +kernel
theorem dX5_count_46 : decode cX5_count 46 = .ok (.iload_n 3, 1) := by decide +kernel
theorem dX5_count_47 : decode cX5_count 47 = .ok (.ireturn, 1) := by decide +kernel
theorem dX5_firstPlace_0 : decode cX5_firstPlace 0 = .ok (.iconst (-1), 1) := by decide +kernel
theorem dX5_firstPlace_1 : decode cX5_firstPlace 1 = .ok (.istore_n 3, 1) := by decide +kernel
theorem dX5_firstPlace_2 : decode cX5_firstPlace 2 = .ok (.aload_n 0, 1) := by decide +kernel
theorem dX5_firstPlace_3 : decode cX5_firstPlace 3 = .ok (.getfield 14, 3) := by decide +kernel
theorem dX5_firstPlace_6 : decode cX5_firstPlace 6 = .ok (.iload_n 1, 1) := by decide +kernel
theorem dX5_firstPlace_7 : decode cX5_firstPlace 7 = .ok (.iaload, 1) := by decide +kernel
theorem dX5_firstPlace_8 : decode cX5_firstPlace 8 = .ok (.iconst 1, 1) := by decide +kernel
theorem dX5_firstPlace_9 : decode cX5_firstPlace 9 = .ok (.isub, 1) := by decide +kernel
theorem dX5_firstPlace_10 : decode cX5_firstPlace 10 = .ok (.istore 4, 2) := by decide +kernel
theorem dX5_firstPlace_12 : decode cX5_firstPlace 12 = .ok (.iload 4, 2) := by decide +kernel
theorem dX5_firstPlace_14 : decode cX5_firstPlace 14 = .ok (.ifCond .lt 29, 3) := by decide +kernel
theorem dX5_firstPlace_17 : decode cX5_firstPlace 17 = .ok (.aload_n 0, 1) := by decide +kernel
theorem dX5_firstPlace_18 : decode cX5_firstPlace 18 = .ok (.getfield 11, 3) := by decide +kernel
theorem dX5_firstPlace_21 : decode cX5_firstPlace 21 = .ok (.iload_n 1, 1) := by decide +kernel
theorem dX5_firstPlace_22 : decode cX5_firstPlace 22 = .ok (.aaload, 1) := by decide +kernel
theorem dX5_firstPlace_23 : decode cX5_firstPlace 23 = .ok (.iload 4, 2) := by decide +kernel
theorem dX5_firstPlace_25 : decode cX5_firstPlace 25 = .ok (.iaload, 1) := by decide +kernel
theorem dX5_firstPlace_26 : decode cX5_firstPlace 26 = .ok (.iload_n 2, 1) := by decide +kernel
theorem dX5_firstPlace_27 : decode cX5_firstPlace 27 = .ok (.if_icmp .ne 8, 3) := by decide +kernel
theorem dX5_firstPlace_30 : decode cX5_firstPlace 30 = .ok (.iload 4, 2) := by decide +kernel
theorem dX5_firstPlace_32 : decode cX5_firstPlace 32 = .ok (.goto 4, 3) := by decide +kernel
theorem dX5_firstPlace_35 : decode cX5_firstPlace 35 = .ok (.iload_n 3, 1) := by decide +kernel
theorem dX5_firstPlace_36 : decode cX5_firstPlace 36 = .ok (.istore_n 3, 1) := by decide +kernel
theorem dX5_firstPlace_37 : decode cX5_firstPlace 37 = .ok (.iinc 4 (-1), 3) := by decide +kernel
theorem dX5_firstPlace_40 : decode cX5_firstPlace 40 = .ok (.goto (-28), 3) := by decide +kernel
theorem dX5_firstPlace_43 : decode cX5_firstPlace 43 = .ok (.iload_n 3, 1) := by decide +kernel
theorem dX5_firstPlace_44 : decode cX5_firstPlace 44 = .ok (.ireturn, 1) := by decide +kernel
theorem dX5_comeAt_0 : decode cX5_comeAt 0 = .ok (.aload_n 0, 1) := by decide +kernel
theorem dX5_comeAt_1 : decode cX5_comeAt 1 = .ok (.getfield 14, 3) := by decide +kernel
theorem dX5_comeAt_4 : decode cX5_comeAt 4 = .ok (.iload_n 1, 1) := by decide +kernel
theorem dX5_comeAt_5 : decode cX5_comeAt 5 = .ok (.iaload, 1) := by decide +kernel
theorem dX5_comeAt_6 : decode cX5_comeAt 6 = .ok (.istore 4, 2) := by decide +kernel
theorem dX5_comeAt_8 : decode cX5_comeAt 8 = .ok (.iload 4, 2) := by decide +kernel
theorem dX5_comeAt_10 : decode cX5_comeAt 10 = .ok (.iload_n 2, 1) := by decide +kernel
theorem dX5_comeAt_11 : decode cX5_comeAt 11 = .ok (.if_icmp .le 29, 3) := by decide +kernel
theorem dX5_comeAt_14 : decode cX5_comeAt 14 = .ok (.aload_n 0, 1) := by decide +kernel
theorem dX5_comeAt_15 : decode cX5_comeAt 15 = .ok (.getfield 11, 3) := by decide +kernel
theorem dX5_comeAt_18 : decode cX5_comeAt 18 = .ok (.iload_n 1, 1) := by decide +kernel
theorem dX5_comeAt_19 : decode cX5_comeAt 19 = .ok (.aaload, 1) := by decide +kernel
theorem dX5_comeAt_20 : decode cX5_comeAt 20 = .ok (.iload 4, 2) := by decide +kernel
theorem dX5_comeAt_22 : decode cX5_comeAt 22 = .ok (.aload_n 0, 1) := by decide +kernel
theorem dX5_comeAt_23 : decode cX5_comeAt 23 = .ok (.getfield 11, 3) := by decide +kernel
theorem dX5_comeAt_26 : decode cX5_comeAt 26 = .ok (.iload_n 1, 1) := by decide +kernel
theorem dX5_comeAt_27 : decode cX5_comeAt 27 = .ok (.aaload, 1) := by decide +kernel
theorem dX5_comeAt_28 : decode cX5_comeAt 28 = .ok (.iload 4, 2) := by decide +kernel
theorem dX5_comeAt_30 : decode cX5_comeAt 30 = .ok (.iconst 1, 1) := by decide +kernel
theorem dX5_comeAt_31 : decode cX5_comeAt 31 = .ok (.isub, 1) := by decide +kernel
theorem dX5_comeAt_32 : decode cX5_comeAt 32 = .ok (.iaload, 1) := by decide +kernel
theorem dX5_comeAt_33 : decode cX5_comeAt 33 = .ok (.iastore, 1) := by decide +kernel
theorem dX5_comeAt_34 : decode cX5_comeAt 34 = .ok (.iinc 4 (-1), 3) := by decide +kernel
theorem dX5_comeAt_37 : decode cX5_comeAt 37 = .ok (.goto (-29), 3) := by decide +kernel
theorem dX5_comeAt_40 : decode cX5_comeAt 40 = .ok (.aload_n 0, 1) := by decide +kernel
theorem dX5_comeAt_41 : decode cX5_comeAt 41 = .ok (.getfield 11, 3) := by decide +kernel
theorem dX5_comeAt_44 : decode cX5_comeAt 44 = .ok (.iload_n 1, 1) := by decide +kernel
theorem dX5_comeAt_45 : decode cX5_comeAt 45 = .ok (.aaload, 1) := by decide +kernel
theorem dX5_comeAt_46 : decode cX5_comeAt 46 = .ok (.iload_n 2, 1) := by decide +kernel
theorem dX5_comeAt_47 : decode cX5_comeAt 47 = .ok (.iload_n 3, 1) := by decide +kernel
theorem dX5_comeAt_48 : decode cX5_comeAt 48 = .ok (.iastore, 1) := by decide +kernel
theorem dX5_comeAt_49 : decode cX5_comeAt 49 = .ok (.aload_n 0, 1) := by decide +kernel
theorem dX5_comeAt_50 : decode cX5_comeAt 50 = .ok (.getfield 14, 3) := by decide +kernel
theorem dX5_comeAt_53 : decode cX5_comeAt 53 = .ok (.iload_n 1, 1) := by decide +kernel
theorem dX5_comeAt_54 : decode cX5_comeAt 54 = .ok (.dup2, 1) := by decide +kernel
theorem dX5_comeAt_55 : decode cX5_comeAt 55 = .ok (.iaload, 1) := by decide +kernel
theorem dX5_comeAt_56 : decode cX5_comeAt 56 = .ok (.iconst 1, 1) := by decide +kernel
theorem dX5_comeAt_57 : decode cX5_comeAt 57 = .ok (.iadd, 1) := by decide +kernel
theorem dX5_comeAt_58 : decode cX5_comeAt 58 = .ok (.iastore, 1) := by decide +kernel
theorem dX5_comeAt_59 : decode cX5_comeAt 59 = .ok (.aload_n 0, 1) := by decide +kernel
theorem dX5_comeAt_60 : decode cX5_comeAt 60 = .ok (.getfield 18, 3) := by decide +kernel
theorem dX5_comeAt_63 : decode cX5_comeAt 63 = .ok (.iload_n 1, 1) := by decide +kernel
theorem dX5_comeAt_64 : decode cX5_comeAt 64 = .ok (.dup2, 1) := by decide +kernel
theorem dX5_comeAt_65 : decode cX5_comeAt 65 = .ok (.iaload, 1) := by decide +kernel
theorem dX5_comeAt_66 : decode cX5_comeAt 66 = .ok (.iconst 1, 1) := by decide +kernel
theorem dX5_comeAt_67 : decode cX5_comeAt 67 = .ok (.iadd, 1) := by decide +kernel
theorem dX5_comeAt_68 : decode cX5_comeAt 68 = .ok (.iastore, 1) := by decide +kernel
theorem dX5_comeAt_69 : decode cX5_comeAt 69 = .ok (.return_, 1) := by decide +kernel
theorem dX5_goAt_0 : decode cX5_goAt 0 = .ok (.aload_n 0, 1) := by decide +kernel
theorem dX5_goAt_1 : decode cX5_goAt 1 = .ok (.getfield 14, 3) := by decide +kernel
theorem dX5_goAt_4 : decode cX5_goAt 4 = .ok (.iload_n 1, 1) := by decide +kernel
theorem dX5_goAt_5 : decode cX5_goAt 5 = .ok (.dup2, 1) := by decide +kernel
theorem dX5_goAt_6 : decode cX5_goAt 6 = .ok (.iaload, 1) := by decide +kernel
theorem dX5_goAt_7 : decode cX5_goAt 7 = .ok (.iconst 1, 1) := by decide +kernel
theorem dX5_goAt_8 : decode cX5_goAt 8 = .ok (.isub, 1) := by decide +kernel
theorem dX5_goAt_9 : decode cX5_goAt 9 = .ok (.iastore, 1) := by decide +kernel
theorem dX5_goAt_10 : decode cX5_goAt 10 = .ok (.iload_n 2, 1) := by decide +kernel
theorem dX5_goAt_11 : decode cX5_goAt 11 = .ok (.istore_n 3, 1) := by decide +kernel
theorem dX5_goAt_12 : decode cX5_goAt 12 = .ok (.iload_n 3, 1) := by decide +kernel
theorem dX5_goAt_13 : decode cX5_goAt 13 = .ok (.aload_n 0, 1) := by decide +kernel
theorem dX5_goAt_14 : decode cX5_goAt 14 = .ok (.getfield 14, 3) := by decide +kernel
theorem dX5_goAt_17 : decode cX5_goAt 17 = .ok (.iload_n 1, 1) := by decide +kernel
theorem dX5_goAt_18 : decode cX5_goAt 18 = .ok (.iaload, 1) := by decide +kernel
theorem dX5_goAt_19 : decode cX5_goAt 19 = .ok (.if_icmp .ge 27, 3) := by decide +kernel
theorem dX5_goAt_22 : decode cX5_goAt 22 = .ok (.aload_n 0, 1) := by decide +kernel
theorem dX5_goAt_23 : decode cX5_goAt 23 = .ok (.getfield 11, 3) := by decide +kernel
theorem dX5_goAt_26 : decode cX5_goAt 26 = .ok (.iload_n 1, 1) := by decide +kernel
theorem dX5_goAt_27 : decode cX5_goAt 27 = .ok (.aaload, 1) := by decide +kernel
theorem dX5_goAt_28 : decode cX5_goAt 28 = .ok (.iload_n 3, 1) := by decide +kernel
theorem dX5_goAt_29 : decode cX5_goAt 29 = .ok (.aload_n 0, 1) := by decide +kernel
theorem dX5_goAt_30 : decode cX5_goAt 30 = .ok (.getfield 11, 3) := by decide +kernel
theorem dX5_goAt_33 : decode cX5_goAt 33 = .ok (.iload_n 1, 1) := by decide +kernel
theorem dX5_goAt_34 : decode cX5_goAt 34 = .ok (.aaload, 1) := by decide +kernel
theorem dX5_goAt_35 : decode cX5_goAt 35 = .ok (.iload_n 3, 1) := by decide +kernel
theorem dX5_goAt_36 : decode cX5_goAt 36 = .ok (.iconst 1, 1) := by decide +kernel
theorem dX5_goAt_37 : decode cX5_goAt 37 = .ok (.iadd, 1) := by decide +kernel
theorem dX5_goAt_38 : decode cX5_goAt 38 = .ok (.iaload, 1) := by decide +kernel
theorem dX5_goAt_39 : decode cX5_goAt 39 = .ok (.iastore, 1) := by decide +kernel
theorem dX5_goAt_40 : decode cX5_goAt 40 = .ok (.iinc 3 1, 3) := by decide +kernel
theorem dX5_goAt_43 : decode cX5_goAt 43 = .ok (.goto (-31), 3) := by decide +kernel
theorem dX5_goAt_46 : decode cX5_goAt 46 = .ok (.aload_n 0, 1) := by decide +kernel
theorem dX5_goAt_47 : decode cX5_goAt 47 = .ok (.getfield 18, 3) := by decide +kernel
theorem dX5_goAt_50 : decode cX5_goAt 50 = .ok (.iload_n 1, 1) := by decide +kernel
theorem dX5_goAt_51 : decode cX5_goAt 51 = .ok (.dup2, 1) := by decide +kernel
theorem dX5_goAt_52 : decode cX5_goAt 52 = .ok (.iaload, 1) := by decide +kernel
theorem dX5_goAt_53 : decode cX5_goAt 53 = .ok (.iconst 1, 1) := by decide +kernel
theorem dX5_goAt_54 : decode cX5_goAt 54 = .ok (.iadd, 1) := by decide +kernel
theorem dX5_goAt_55 : decode cX5_goAt 55 = .ok (.iastore, 1) := by decide +kernel
theorem dX5_goAt_56 : decode cX5_goAt 56 = .ok (.return_, 1) := by decide +kernel
theorem dX5_leave_0 : decode cX5_leave 0 = .ok (.iload_n 1, 1) := by decide +kernel
theorem dX5_leave_1 : decode cX5_leave 1 = .ok (.invokestatic 67, 3) := by decide +kernel
theorem dX5_leave_4 : decode cX5_leave 4 = .ok (.ifCond .eq 20, 3) := by decide +kernel
theorem dX5_leave_7 : decode cX5_leave 7 = .ok (.aload_n 0, 1) := by decide +kernel
theorem dX5_leave_8 : decode cX5_leave 8 = .ok (.bipush 6, 2) := by decide +kernel
theorem dX5_leave_10 : decode cX5_leave 10 = .ok (.iload_n 2, 1) := by decide +kernel
theorem dX5_leave_11 : decode cX5_leave 11 = .ok (.invokevirtual 81, 3) := by decide +kernel
theorem dX5_leave_14 : decode cX5_leave 14 = .ok (.aload_n 0, 1) := by decide +kernel
theorem dX5_leave_15 : decode cX5_leave 15 = .ok (.bipush 7, 2) := by decide +kernel
theorem dX5_leave_17 : decode cX5_leave 17 = .ok (.iload_n 2, 1) := by decide +kernel
theorem dX5_leave_18 : decode cX5_leave 18 = .ok (.invokevirtual 81, 3) := by decide +kernel
theorem dX5_leave_21 : decode cX5_leave 21 = .ok (.goto 9, 3) := by decide +kernel
theorem dX5_leave_24 : decode cX5_leave 24 = .ok (.aload_n 0, 1) := by decide +kernel
theorem dX5_leave_25 : decode cX5_leave 25 = .ok (.iload_n 1, 1) := by decide +kernel
theorem dX5_leave_26 : decode cX5_leave 26 = .ok (.iload_n 2, 1) := by decide +kernel
theorem dX5_leave_27 : decode cX5_leave 27 = .ok (.invokevirtual 81, 3) := by decide +kernel
theorem dX5_leave_30 : decode cX5_leave 30 = .ok (.return_, 1) := by decide +kernel
theorem dX5_come_0 : decode cX5_come 0 = .ok (.iload_n 1, 1) := by decide +kernel
theorem dX5_come_1 : decode cX5_come 1 = .ok (.iconst 3, 1) := by decide +kernel
theorem dX5_come_2 : decode cX5_come 2 = .ok (.if_icmp .eq 8, 3) := by decide +kernel
theorem dX5_come_5 : decode cX5_come 5 = .ok (.iload_n 1, 1) := by decide +kernel
theorem dX5_come_6 : decode cX5_come 6 = .ok (.iconst 4, 1) := by decide +kernel
theorem dX5_come_7 : decode cX5_come 7 = .ok (.if_icmp .ne 14, 3) := by decide +kernel
theorem dX5_come_10 : decode cX5_come 10 = .ok (.aload_n 0, 1) := by decide +kernel
theorem dX5_come_11 : decode cX5_come 11 = .ok (.iload_n 1, 1) := by decide +kernel
theorem dX5_come_12 : decode cX5_come 12 = .ok (.iload_n 2, 1) := by decide +kernel
theorem dX5_come_13 : decode cX5_come 13 = .ok (.invokevirtual 73, 3) := by decide +kernel
theorem dX5_come_16 : decode cX5_come 16 = .ok (.ifCond .le 5, 3) := by decide +kernel
theorem dX5_come_19 : decode cX5_come 19 = .ok (.iconst 0, 1) := by decide +kernel
theorem dX5_come_20 : decode cX5_come 20 = .ok (.ireturn, 1) := by decide +kernel
theorem dX5_come_21 : decode cX5_come 21 = .ok (.aload_n 0, 1) := by decide +kernel
theorem dX5_come_22 : decode cX5_come 22 = .ok (.getfield 14, 3) := by decide +kernel
theorem dX5_come_25 : decode cX5_come 25 = .ok (.iload_n 1, 1) := by decide +kernel
theorem dX5_come_26 : decode cX5_come 26 = .ok (.iaload, 1) := by decide +kernel
theorem dX5_come_27 : decode cX5_come 27 = .ok (.istore_n 3, 1) := by decide +kernel
theorem dX5_come_28 : decode cX5_come 28 = .ok (.iload_n 1, 1) := by decide +kernel
theorem dX5_come_29 : decode cX5_come 29 = .ok (.iconst 3, 1) := by decide +kernel
theorem dX5_come_30 : decode cX5_come 30 = .ok (.if_icmp .ne 27, 3) := by decide +kernel
theorem dX5_come_33 : decode cX5_come 33 = .ok (.iload_n 3, 1) := by decide +kernel
theorem dX5_come_34 : decode cX5_come 34 = .ok (.ifCond .le 23, 3) := by decide +kernel
theorem dX5_come_37 : decode cX5_come 37 = .ok (.aload_n 0, 1) := by decide +kernel
theorem dX5_come_38 : decode cX5_come 38 = .ok (.getfield 11, 3) := by decide +kernel
theorem dX5_come_41 : decode cX5_come 41 = .ok (.iload_n 1, 1) := by decide +kernel
theorem dX5_come_42 : decode cX5_come 42 = .ok (.aaload, 1) := by decide +kernel
theorem dX5_come_43 : decode cX5_come 43 = .ok (.iload_n 3, 1) := by decide +kernel
theorem dX5_come_44 : decode cX5_come 44 = .ok (.iconst 1, 1) := by decide +kernel
theorem dX5_come_45 : decode cX5_come 45 = .ok (.isub, 1) := by decide +kernel
theorem dX5_come_46 : decode cX5_come 46 = .ok (.iaload, 1) := by decide +kernel
theorem dX5_come_47 : decode cX5_come 47 = .ok (.iload_n 2, 1) := by decide +kernel
theorem dX5_come_48 : decode cX5_come 48 = .ok (.if_icmp .le 9, 3) := by decide +kernel
theorem dX5_come_51 : decode cX5_come 51 = .ok (.iinc 3 (-1), 3) := by decide +kernel
theorem dX5_come_54 : decode cX5_come 54 = .ok (.goto (-26), 3) := by decide +kernel
theorem dX5_come_57 : decode cX5_come 57 = .ok (.aload_n 0, 1) := by decide +kernel
theorem dX5_come_58 : decode cX5_come 58 = .ok (.iload_n 1, 1) := by decide +kernel
theorem dX5_come_59 : decode cX5_come 59 = .ok (.iload_n 3, 1) := by decide +kernel
theorem dX5_come_60 : decode cX5_come 60 = .ok (.iload_n 2, 1) := by decide +kernel
theorem dX5_come_61 : decode cX5_come 61 = .ok (.invokevirtual 85, 3) := by decide +kernel
theorem dX5_come_64 : decode cX5_come 64 = .ok (.iconst 1, 1) := by decide +kernel
theorem dX5_come_65 : decode cX5_come 65 = .ok (.ireturn, 1) := by decide +kernel
theorem dX5_comeAll_0 : decode cX5_comeAll 0 = .ok (.iconst 0, 1) := by decide +kernel
theorem dX5_comeAll_1 : decode cX5_comeAll 1 = .ok (.istore 4, 2) := by decide +kernel
theorem dX5_comeAll_3 : decode cX5_comeAll 3 = .ok (.iconst 0, 1) := by decide +kernel
theorem dX5_comeAll_4 : decode cX5_comeAll 4 = .ok (.istore 5, 2) := by decide +kernel
theorem dX5_comeAll_6 : decode cX5_comeAll 6 = .ok (.iload 5, 2) := by decide +kernel
theorem dX5_comeAll_8 : decode cX5_comeAll 8 = .ok (.iload_n 3, 1) := by decide +kernel
theorem dX5_comeAll_9 : decode cX5_comeAll 9 = .ok (.if_icmp .ge 23, 3) := by decide +kernel
theorem dX5_comeAll_12 : decode cX5_comeAll 12 = .ok (.iload 4, 2) := by decide +kernel
theorem dX5_comeAll_14 : decode cX5_comeAll 14 = .ok (.aload_n 0, 1) := by decide +kernel
theorem dX5_comeAll_15 : decode cX5_comeAll 15 = .ok (.iload_n 1, 1) := by decide +kernel
theorem dX5_comeAll_16 : decode cX5_comeAll 16 = .ok (.aload_n 2, 1) := by decide +kernel
theorem dX5_comeAll_17 : decode cX5_comeAll 17 = .ok (.iload 5, 2) := by decide +kernel
theorem dX5_comeAll_19 : decode cX5_comeAll 19 = .ok (.iaload, 1) := by decide +kernel
theorem dX5_comeAll_20 : decode cX5_comeAll 20 = .ok (.invokevirtual 89, 3) := by decide +kernel
theorem dX5_comeAll_23 : decode cX5_comeAll 23 = .ok (.ior, 1) := by decide +kernel
theorem dX5_comeAll_24 : decode cX5_comeAll 24 = .ok (.istore 4, 2) := by decide +kernel
theorem dX5_comeAll_26 : decode cX5_comeAll 26 = .ok (.iinc 5 1, 3) := by decide +kernel
theorem dX5_comeAll_29 : decode cX5_comeAll 29 = .ok (.goto (-23), 3) := by decide +kernel
theorem dX5_comeAll_32 : decode cX5_comeAll 32 = .ok (.iload 4, 2) := by decide +kernel
theorem dX5_comeAll_34 : decode cX5_comeAll 34 = .ok (.invokestatic 77, 3) := by decide +kernel
theorem dX5_comeAll_37 : decode cX5_comeAll 37 = .ok (.ireturn, 1) := by decide +kernel
theorem dX5_picture_0 : decode cX5_picture 0 = .ok (.aload_n 0, 1) := by decide +kernel
theorem dX5_picture_1 : decode cX5_picture 1 = .ok (.getfield 14, 3) := by decide +kernel
theorem dX5_picture_4 : decode cX5_picture 4 = .ok (.iload_n 1, 1) := by decide +kernel
theorem dX5_picture_5 : decode cX5_picture 5 = .ok (.iaload, 1) := by decide +kernel
theorem dX5_picture_6 : decode cX5_picture 6 = .ok (.iload_n 2, 1) := by decide +kernel
theorem dX5_picture_7 : decode cX5_picture 7 = .ok (.isub, 1) := by decide +kernel
theorem dX5_picture_8 : decode cX5_picture 8 = .ok (.newarray .int, 2) := by decide +kernel
theorem dX5_picture_10 : decode cX5_picture 10 = .ok (.astore_n 3, 1) := by decide +kernel
theorem dX5_picture_11 : decode cX5_picture 11 = .ok (.iconst 0, 1) := by decide +kernel
theorem dX5_picture_12 : decode cX5_picture 12 = .ok (.istore 4, 2) := by decide +kernel
theorem dX5_picture_14 : decode cX5_picture 14 = .ok (.iload 4, 2) := by decide +kernel
theorem dX5_picture_16 : decode cX5_picture 16 = .ok (.aload_n 3, 1) := by decide +kernel
theorem dX5_picture_17 : decode cX5_picture 17 = .ok (.arraylength, 1) := by decide +kernel
theorem dX5_picture_18 : decode cX5_picture 18 = .ok (.if_icmp .ge 24, 3) := by decide +kernel
theorem dX5_picture_21 : decode cX5_picture 21 = .ok (.aload_n 3, 1) := by decide +kernel
theorem dX5_picture_22 : decode cX5_picture 22 = .ok (.iload 4, 2) := by decide +kernel
theorem dX5_picture_24 : decode cX5_picture 24 = .ok (.aload_n 0, 1) := by decide +kernel
theorem dX5_picture_25 : decode cX5_picture 25 = .ok (.getfield 11, 3) := by decide +kernel
theorem dX5_picture_28 : decode cX5_picture 28 = .ok (.iload_n 1, 1) := by decide +kernel
theorem dX5_picture_29 : decode cX5_picture 29 = .ok (.aaload, 1) := by decide +kernel
theorem dX5_picture_30 : decode cX5_picture 30 = .ok (.iload_n 2, 1) := by decide +kernel
theorem dX5_picture_31 : decode cX5_picture 31 = .ok (.iload 4, 2) := by decide +kernel
theorem dX5_picture_33 : decode cX5_picture 33 = .ok (.iadd, 1) := by decide +kernel
theorem dX5_picture_34 : decode cX5_picture 34 = .ok (.iaload, 1) := by decide +kernel
theorem dX5_picture_35 : decode cX5_picture 35 = .ok (.iastore, 1) := by decide +kernel
theorem dX5_picture_36 : decode cX5_picture 36 = .ok (.iinc 4 1, 3) := by decide +kernel
theorem dX5_picture_39 : decode cX5_picture 39 = .ok (.goto (-25), 3) := by decide +kernel
theorem dX5_picture_42 : decode cX5_picture 42 = .ok (.aload_n 3, 1) := by decide +kernel
theorem dX5_picture_43 : decode cX5_picture 43 = .ok (.areturn, 1) := by decide +kernel
theorem dX5_empty_0 : decode cX5_empty 0 = .ok (.aload_n 0, 1) := by decide +kernel
theorem dX5_empty_1 : decode cX5_empty 1 = .ok (.getfield 14, 3) := by decide +kernel
theorem dX5_empty_4 : decode cX5_empty 4 = .ok (.iload_n 1, 1) := by decide +kernel
theorem dX5_empty_5 : decode cX5_empty 5 = .ok (.iaload, 1) := by decide +kernel
theorem dX5_empty_6 : decode cX5_empty 6 = .ok (.ifCond .le 13, 3) := by decide +kernel
theorem dX5_empty_9 : decode cX5_empty 9 = .ok (.aload_n 0, 1) := by decide +kernel
theorem dX5_empty_10 : decode cX5_empty 10 = .ok (.getfield 18, 3) := by decide +kernel
theorem dX5_empty_13 : decode cX5_empty 13 = .ok (.iload_n 1, 1) := by decide +kernel
theorem dX5_empty_14 : decode cX5_empty 14 = .ok (.dup2, 1) := by decide +kernel
theorem dX5_empty_15 : decode cX5_empty 15 = .ok (.iaload, 1) := by decide +kernel
theorem dX5_empty_16 : decode cX5_empty 16 = .ok (.iconst 1, 1) := by decide +kernel
theorem dX5_empty_17 : decode cX5_empty 17 = .ok (.iadd, 1) := by decide +kernel
theorem dX5_empty_18 : decode cX5_empty 18 = .ok (.iastore, 1) := by decide +kernel
theorem dX5_empty_19 : decode cX5_empty 19 = .ok (.aload_n 0, 1) := by decide +kernel
theorem dX5_empty_20 : decode cX5_empty 20 = .ok (.getfield 14, 3) := by decide +kernel
theorem dX5_empty_23 : decode cX5_empty 23 = .ok (.iload_n 1, 1) := by decide +kernel
theorem dX5_empty_24 : decode cX5_empty 24 = .ok (.iconst 0, 1) := by decide +kernel
theorem dX5_empty_25 : decode cX5_empty 25 = .ok (.iastore, 1) := by decide +kernel
theorem dX5_empty_26 : decode cX5_empty 26 = .ok (.return_, 1) := by decide +kernel
theorem dX5_put_0 : decode cX5_put 0 = .ok (.aload_n 0, 1) := by decide +kernel
theorem dX5_put_1 : decode cX5_put 1 = .ok (.iload_n 1, 1) := by decide +kernel
theorem dX5_put_2 : decode cX5_put 2 = .ok (.invokestatic 63, 3) := by decide +kernel
theorem dX5_put_5 : decode cX5_put 5 = .ok (.iload_n 2, 1) := by decide +kernel
theorem dX5_put_6 : decode cX5_put 6 = .ok (.invokestatic 93, 3) := by decide +kernel
theorem dX5_put_9 : decode cX5_put 9 = .ok (.iload_n 1, 1) := by decide +kernel
theorem dX5_put_10 : decode cX5_put 10 = .ok (.invokestatic 63, 3) := by decide +kernel
theorem dX5_put_13 : decode cX5_put 13 = .ok (.ifCond .ne 18, 3) := by decide +kernel
theorem dX5_put_16 : decode cX5_put 16 = .ok (.aload_n 0, 1) := by decide +kernel
theorem dX5_put_17 : decode cX5_put 17 = .ok (.getfield 14, 3) := by decide +kernel
theorem dX5_put_20 : decode cX5_put 20 = .ok (.iload_n 1, 1) := by decide +kernel
theorem dX5_put_21 : decode cX5_put 21 = .ok (.iaload, 1) := by decide +kernel
theorem dX5_put_22 : decode cX5_put 22 = .ok (.bipush 12, 2) := by decide +kernel
theorem dX5_put_24 : decode cX5_put 24 = .ok (.if_icmp .ne 7, 3) := by decide +kernel
theorem dX5_put_27 : decode cX5_put 27 = .ok (.iconst 1, 1) := by decide +kernel
theorem dX5_put_28 : decode cX5_put 28 = .ok (.goto 4, 3) := by decide +kernel
theorem dX5_put_31 : decode cX5_put 31 = .ok (.iconst 0, 1) := by decide +kernel
theorem dX5_put_32 : decode cX5_put 32 = .ok (.invokevirtual 50, 3) := by decide +kernel
theorem dX5_put_35 : decode cX5_put 35 = .ok (.ifCond .eq 5, 3) := by decide +kernel
theorem dX5_put_38 : decode cX5_put 38 = .ok (.iconst 0, 1) := by decide +kernel
theorem dX5_put_39 : decode cX5_put 39 = .ok (.ireturn, 1) := by decide +kernel
theorem dX5_put_40 : decode cX5_put 40 = .ok (.iload_n 1, 1) := by decide +kernel
theorem dX5_put_41 : decode cX5_put 41 = .ok (.invokestatic 67, 3) := by decide +kernel
theorem dX5_put_44 : decode cX5_put 44 = .ok (.ifCond .ne 16, 3) := by decide +kernel
theorem dX5_put_47 : decode cX5_put 47 = .ok (.iload_n 2, 1) := by decide +kernel
theorem dX5_put_48 : decode cX5_put 48 = .ok (.bipush 100, 2) := by decide +kernel
theorem dX5_put_50 : decode cX5_put 50 = .ok (.if_icmp .ne 17, 3) := by decide +kernel
theorem dX5_put_53 : decode cX5_put 53 = .ok (.iload_n 1, 1) := by decide +kernel
theorem dX5_put_54 : decode cX5_put 54 = .ok (.invokestatic 96, 3) := by decide +kernel
theorem dX5_put_57 : decode cX5_put 57 = .ok (.ifCond .ne 10, 3) := by decide +kernel
theorem dX5_put_60 : decode cX5_put 60 = .ok (.aload_n 0, 1) := by decide +kernel
theorem dX5_put_61 : decode cX5_put 61 = .ok (.invokevirtual 99, 3) := by decide +kernel
theorem dX5_put_64 : decode cX5_put 64 = .ok (.goto 12, 3) := by decide +kernel
theorem dX5_put_67 : decode cX5_put 67 = .ok (.aload_n 0, 1) := by decide +kernel
theorem dX5_put_68 : decode cX5_put 68 = .ok (.iload_n 1, 1) := by decide +kernel
theorem dX5_put_69 : decode cX5_put 69 = .ok (.iload_n 2, 1) := by decide +kernel
theorem dX5_put_70 : decode cX5_put 70 = .ok (.invokevirtual 89, 3) := by decide +kernel
theorem dX5_put_73 : decode cX5_put 73 = .ok (.invokestatic 77, 3) := by decide +kernel
theorem dX5_put_76 : decode cX5_put 76 = .ok (.ireturn, 1) := by decide +kernel
theorem dX5_putAll_0 : decode cX5_putAll 0 = .ok (.iconst 4, 1) := by decide +kernel
theorem dX5_putAll_1 : decode cX5_putAll 1 = .ok (.newarray .int, 2) := by decide +kernel
theorem dX5_putAll_3 : decode cX5_putAll 3 = .ok (.dup, 1) := by decide +kernel
theorem dX5_putAll_4 : decode cX5_putAll 4 = .ok (.iconst 0, 1) := by decide +kernel
theorem dX5_putAll_5 : decode cX5_putAll 5 = .ok (.iload_n 2, 1) := by decide +kernel
theorem dX5_putAll_6 : decode cX5_putAll 6 = .ok (.iastore, 1) := by decide +kernel
theorem dX5_putAll_7 : decode cX5_putAll 7 = .ok (.dup, 1) := by decide +kernel
theorem dX5_putAll_8 : decode cX5_putAll 8 = .ok (.iconst 1, 1) := by decide +kernel
theorem dX5_putAll_9 : decode cX5_putAll 9 = .ok (.iload_n 3, 1) := by decide +kernel
theorem dX5_putAll_10 : decode cX5_putAll 10 = .ok (.iastore, 1) := by decide +kernel
theorem dX5_putAll_11 : decode cX5_putAll 11 = .ok (.dup, 1) := by decide +kernel
theorem dX5_putAll_12 : decode cX5_putAll 12 = .ok (.iconst 2, 1) := by decide +kernel
theorem dX5_putAll_13 : decode cX5_putAll 13 = .ok (.iload 4, 2) := by decide +kernel
theorem dX5_putAll_15 : decode cX5_putAll 15 = .ok (.iastore, 1) := by decide +kernel
theorem dX5_putAll_16 : decode cX5_putAll 16 = .ok (.dup, 1) := by decide +kernel
theorem dX5_putAll_17 : decode cX5_putAll 17 = .ok (.iconst 3, 1) := by decide +kernel
theorem dX5_putAll_18 : decode cX5_putAll 18 = .ok (.iload 5, 2) := by decide +kernel
theorem dX5_putAll_20 : decode cX5_putAll 20 = .ok (.iastore, 1) := by decide +kernel
theorem dX5_putAll_21 : decode cX5_putAll 21 = .ok (.astore 6, 2) := by decide +kernel
theorem dX5_putAll_23 : decode cX5_putAll 23 = .ok (.iconst 0, 1) := by decide +kernel
theorem dX5_putAll_24 : decode cX5_putAll 24 = .ok (.istore 7, 2) := by decide +kernel
theorem dX5_putAll_26 : decode cX5_putAll 26 = .ok (.aload 6, 2) := by decide +kernel
theorem dX5_putAll_28 : decode cX5_putAll 28 = .ok (.astore 8, 2) := by decide +kernel
theorem dX5_putAll_30 : decode cX5_putAll 30 = .ok (.aload 8, 2) := by decide +kernel
theorem dX5_putAll_32 : decode cX5_putAll 32 = .ok (.arraylength, 1) := by decide +kernel
theorem dX5_putAll_33 : decode cX5_putAll 33 = .ok (.istore 9, 2) := by decide +kernel
theorem dX5_putAll_35 : decode cX5_putAll 35 = .ok (.iconst 0, 1) := by decide +kernel
theorem dX5_putAll_36 : decode cX5_putAll 36 = .ok (.istore 10, 2) := by decide +kernel
theorem dX5_putAll_38 : decode cX5_putAll 38 = .ok (.iload 10, 2) := by decide +kernel
theorem dX5_putAll_40 : decode cX5_putAll 40 = .ok (.iload 9, 2) := by decide +kernel
theorem dX5_putAll_42 : decode cX5_putAll 42 = .ok (.if_icmp .ge 37, 3) := by decide +kernel
theorem dX5_putAll_45 : decode cX5_putAll 45 = .ok (.aload 8, 2) := by decide +kernel
theorem dX5_putAll_47 : decode cX5_putAll 47 = .ok (.iload 10, 2) := by decide +kernel
theorem dX5_putAll_49 : decode cX5_putAll 49 = .ok (.iaload, 1) := by decide +kernel
theorem dX5_putAll_50 : decode cX5_putAll 50 = .ok (.istore 11, 2) := by decide +kernel
theorem dX5_putAll_52 : decode cX5_putAll 52 = .ok (.iload 7, 2) := by decide +kernel
theorem dX5_putAll_54 : decode cX5_putAll 54 = .ok (.iload 11, 2) := by decide +kernel
theorem dX5_putAll_56 : decode cX5_putAll 56 = .ok (.iconst (-1), 1) := by decide +kernel
theorem dX5_putAll_57 : decode cX5_putAll 57 = .ok (.bipush 100, 2) := by decide +kernel
theorem dX5_putAll_59 : decode cX5_putAll 59 = .ok (.invokestatic 59, 3) := by decide +kernel
theorem dX5_putAll_62 : decode cX5_putAll 62 = .ok (.ifCond .ne 7, 3) := by decide +kernel
theorem dX5_putAll_65 : decode cX5_putAll 65 = .ok (.iconst 1, 1) := by decide +kernel
theorem dX5_putAll_66 : decode cX5_putAll 66 = .ok (.goto 4, 3) := by decide +kernel
theorem dX5_putAll_69 : decode cX5_putAll 69 = .ok (.iconst 0, 1) := by decide +kernel
theorem dX5_putAll_70 : decode cX5_putAll 70 = .ok (.ior, 1) := by decide +kernel
theorem dX5_putAll_71 : decode cX5_putAll 71 = .ok (.istore 7, 2) := by decide +kernel
theorem dX5_putAll_73 : decode cX5_putAll 73 = .ok (.iinc 10 1, 3) := by decide +kernel
theorem dX5_putAll_76 : decode cX5_putAll 76 = .ok (.goto (-38), 3) := by decide +kernel
theorem dX5_putAll_79 : decode cX5_putAll 79 = .ok (.iconst 0, 1) := by decide +kernel
theorem dX5_putAll_80 : decode cX5_putAll 80 = .ok (.istore 8, 2) := by decide +kernel
theorem dX5_putAll_82 : decode cX5_putAll 82 = .ok (.iload 8, 2) := by decide +kernel
theorem dX5_putAll_84 : decode cX5_putAll 84 = .ok (.iconst 4, 1) := by decide +kernel
theorem dX5_putAll_85 : decode cX5_putAll 85 = .ok (.if_icmp .ge 18, 3) := by decide +kernel
theorem dX5_putAll_88 : decode cX5_putAll 88 = .ok (.aload 6, 2) := by decide +kernel
theorem dX5_putAll_90 : decode cX5_putAll 90 = .ok (.iload 8, 2) := by decide +kernel
theorem dX5_putAll_92 : decode cX5_putAll 92 = .ok (.iaload, 1) := by decide +kernel
theorem dX5_putAll_93 : decode cX5_putAll 93 = .ok (.iconst (-1), 1) := by decide +kernel
theorem dX5_putAll_94 : decode cX5_putAll 94 = .ok (.if_icmp .eq 9, 3) := by decide +kernel
theorem dX5_putAll_97 : decode cX5_putAll 97 = .ok (.iinc 8 1, 3) := by decide +kernel
theorem dX5_putAll_100 : decode cX5_putAll 100 = .ok (.goto (-18), 3) := by decide +kernel
theorem dX5_putAll_103 : decode cX5_putAll 103 = .ok (.aload_n 0, 1) := by decide +kernel
theorem dX5_putAll_104 : decode cX5_putAll 104 = .ok (.iload_n 1, 1) := by decide +kernel
theorem dX5_putAll_105 : decode cX5_putAll 105 = .ok (.invokestatic 63, 3) := by decide +kernel
theorem dX5_putAll_108 : decode cX5_putAll 108 = .ok (.iload 7, 2) := by decide +kernel
theorem dX5_putAll_110 : decode cX5_putAll 110 = .ok (.iload_n 1, 1) := by decide +kernel
theorem dX5_putAll_111 : decode cX5_putAll 111 = .ok (.invokestatic 63, 3) := by decide +kernel
theorem dX5_putAll_114 : decode cX5_putAll 114 = .ok (.ifCond .ne 21, 3) := by decide +kernel
theorem dX5_putAll_117 : decode cX5_putAll 117 = .ok (.aload_n 0, 1) := by decide +kernel
theorem dX5_putAll_118 : decode cX5_putAll 118 = .ok (.getfield 14, 3) := by decide +kernel
theorem dX5_putAll_121 : decode cX5_putAll 121 = .ok (.iload_n 1, 1) := by decide +kernel
theorem dX5_putAll_122 : decode cX5_putAll 122 = .ok (.iaload, 1) := by decide +kernel
theorem dX5_putAll_123 : decode cX5_putAll 123 = .ok (.iload 8, 2) := by decide +kernel
theorem dX5_putAll_125 : decode cX5_putAll 125 = .ok (.iadd, 1) := by decide +kernel
theorem dX5_putAll_126 : decode cX5_putAll 126 = .ok (.bipush 12, 2) := by decide +kernel
theorem dX5_putAll_128 : decode cX5_putAll 128 = .ok (.if_icmp .le 7, 3) := by decide +kernel
theorem dX5_putAll_131 : decode cX5_putAll 131 = .ok (.iconst 1, 1) := by decide +kernel
theorem dX5_putAll_132 : decode cX5_putAll 132 = .ok (.goto 4, 3) := by decide +kernel
theorem dX5_putAll_135 : decode cX5_putAll 135 = .ok (.iconst 0, 1) := by decide +kernel
theorem dX5_putAll_136 : decode cX5_putAll 136 = .ok (.invokevirtual 50, 3) := by decide +kernel
theorem dX5_putAll_139 : decode cX5_putAll 139 = .ok (.ifCond .eq 5, 3) := by decide +kernel
theorem dX5_putAll_142 : decode cX5_putAll 142 = .ok (.iconst 0, 1) := by decide +kernel
theorem dX5_putAll_143 : decode cX5_putAll 143 = .ok (.ireturn, 1) := by decide +kernel
theorem dX5_putAll_144 : decode cX5_putAll 144 = .ok (.iload_n 1, 1) := by decide +kernel
theorem dX5_putAll_145 : decode cX5_putAll 145 = .ok (.invokestatic 67, 3) := by decide +kernel
theorem dX5_putAll_148 : decode cX5_putAll 148 = .ok (.istore 9, 2) := by decide +kernel
theorem dX5_putAll_150 : decode cX5_putAll 150 = .ok (.iconst 0, 1) := by decide +kernel
theorem dX5_putAll_151 : decode cX5_putAll 151 = .ok (.istore 10, 2) := by decide +kernel
theorem dX5_putAll_153 : decode cX5_putAll 153 = .ok (.iload 10, 2) := by decide +kernel
theorem dX5_putAll_155 : decode cX5_putAll 155 = .ok (.iload 8, 2) := by decide +kernel
theorem dX5_putAll_157 : decode cX5_putAll 157 = .ok (.if_icmp .ge 36, 3) := by decide +kernel
theorem dX5_putAll_160 : decode cX5_putAll 160 = .ok (.iload 9, 2) := by decide +kernel
theorem dX5_putAll_162 : decode cX5_putAll 162 = .ok (.aload 6, 2) := by decide +kernel
theorem dX5_putAll_164 : decode cX5_putAll 164 = .ok (.iload 10, 2) := by decide +kernel
theorem dX5_putAll_166 : decode cX5_putAll 166 = .ok (.iaload, 1) := by decide +kernel
theorem dX5_putAll_167 : decode cX5_putAll 167 = .ok (.bipush 100, 2) := by decide +kernel
theorem dX5_putAll_169 : decode cX5_putAll 169 = .ok (.if_icmp .ne 14, 3) := by decide +kernel
theorem dX5_putAll_172 : decode cX5_putAll 172 = .ok (.iload_n 1, 1) := by decide +kernel
theorem dX5_putAll_173 : decode cX5_putAll 173 = .ok (.invokestatic 96, 3) := by decide +kernel
theorem dX5_putAll_176 : decode cX5_putAll 176 = .ok (.ifCond .ne 7, 3) := by decide +kernel
theorem dX5_putAll_179 : decode cX5_putAll 179 = .ok (.iconst 1, 1) := by decide +kernel
theorem dX5_putAll_180 : decode cX5_putAll 180 = .ok (.goto 4, 3) := by decide +kernel
theorem dX5_putAll_183 : decode cX5_putAll 183 = .ok (.iconst 0, 1) := by decide +kernel
theorem dX5_putAll_184 : decode cX5_putAll 184 = .ok (.ior, 1) := by decide +kernel
theorem dX5_putAll_185 : decode cX5_putAll 185 = .ok (.istore 9, 2) := by decide +kernel
theorem dX5_putAll_187 : decode cX5_putAll 187 = .ok (.iinc 10 1, 3) := by decide +kernel
theorem dX5_putAll_190 : decode cX5_putAll 190 = .ok (.goto (-37), 3) := by decide +kernel
theorem dX5_putAll_193 : decode cX5_putAll 193 = .ok (.iload 9, 2) := by decide +kernel
theorem dX5_putAll_195 : decode cX5_putAll 195 = .ok (.ifCond .eq 10, 3) := by decide +kernel
theorem dX5_putAll_198 : decode cX5_putAll 198 = .ok (.aload_n 0, 1) := by decide +kernel
theorem dX5_putAll_199 : decode cX5_putAll 199 = .ok (.invokevirtual 99, 3) := by decide +kernel
theorem dX5_putAll_202 : decode cX5_putAll 202 = .ok (.goto 12, 3) := by decide +kernel
theorem dX5_putAll_205 : decode cX5_putAll 205 = .ok (.aload_n 0, 1) := by decide +kernel
theorem dX5_putAll_206 : decode cX5_putAll 206 = .ok (.iload_n 1, 1) := by decide +kernel
theorem dX5_putAll_207 : decode cX5_putAll 207 = .ok (.aload 6, 2) := by decide +kernel
theorem dX5_putAll_209 : decode cX5_putAll 209 = .ok (.iload 8, 2) := by decide +kernel
theorem dX5_putAll_211 : decode cX5_putAll 211 = .ok (.invokevirtual 103, 3) := by decide +kernel
theorem dX5_putAll_214 : decode cX5_putAll 214 = .ok (.ireturn, 1) := by decide +kernel
theorem dX5_take_0 : decode cX5_take 0 = .ok (.aload_n 0, 1) := by decide +kernel
theorem dX5_take_1 : decode cX5_take 1 = .ok (.iload_n 1, 1) := by decide +kernel
theorem dX5_take_2 : decode cX5_take 2 = .ok (.invokestatic 63, 3) := by decide +kernel
theorem dX5_take_5 : decode cX5_take 5 = .ok (.iload_n 2, 1) := by decide +kernel
theorem dX5_take_6 : decode cX5_take 6 = .ok (.invokestatic 93, 3) := by decide +kernel
theorem dX5_take_9 : decode cX5_take 9 = .ok (.invokevirtual 107, 3) := by decide +kernel
theorem dX5_take_12 : decode cX5_take 12 = .ok (.ifCond .eq 5, 3) := by decide +kernel
theorem dX5_take_15 : decode cX5_take 15 = .ok (.iconst 0, 1) := by decide +kernel
theorem dX5_take_16 : decode cX5_take 16 = .ok (.ireturn, 1) := by decide +kernel
theorem dX5_take_17 : decode cX5_take 17 = .ok (.iload_n 2, 1) := by decide +kernel
theorem dX5_take_18 : decode cX5_take 18 = .ok (.bipush 100, 2) := by decide +kernel
theorem dX5_take_20 : decode cX5_take 20 = .ok (.if_icmp .ne 15, 3) := by decide +kernel
theorem dX5_take_23 : decode cX5_take 23 = .ok (.iload_n 1, 1) := by decide +kernel
theorem dX5_take_24 : decode cX5_take 24 = .ok (.invokestatic 96, 3) := by decide +kernel
theorem dX5_take_27 : decode cX5_take 27 = .ok (.ifCond .ne 8, 3) := by decide +kernel
theorem dX5_take_30 : decode cX5_take 30 = .ok (.aload_n 0, 1) := by decide +kernel
theorem dX5_take_31 : decode cX5_take 31 = .ok (.invokevirtual 99, 3) := by decide +kernel
theorem dX5_take_34 : decode cX5_take 34 = .ok (.ireturn, 1) := by decide +kernel
theorem dX5_take_35 : decode cX5_take 35 = .ok (.aload_n 0, 1) := by decide +kernel
theorem dX5_take_36 : decode cX5_take 36 = .ok (.iload_n 1, 1) := by decide +kernel
theorem dX5_take_37 : decode cX5_take 37 = .ok (.iload_n 2, 1) := by decide +kernel
theorem dX5_take_38 : decode cX5_take 38 = .ok (.invokevirtual 110, 3) := by decide +kernel
theorem dX5_take_41 : decode cX5_take 41 = .ok (.istore_n 3, 1) := by decide +kernel
theorem dX5_take_42 : decode cX5_take 42 = .ok (.iload_n 3, 1) := by decide +kernel
theorem dX5_take_43 : decode cX5_take 43 = .ok (.iconst (-1), 1) := by decide +kernel
theorem dX5_take_44 : decode cX5_take 44 = .ok (.if_icmp .eq 9, 3) := by decide +kernel
theorem dX5_take_47 : decode cX5_take 47 = .ok (.aload_n 0, 1) := by decide +kernel
theorem dX5_take_48 : decode cX5_take 48 = .ok (.iload_n 1, 1) := by decide +kernel
theorem dX5_take_49 : decode cX5_take 49 = .ok (.iload_n 3, 1) := by decide +kernel
theorem dX5_take_50 : decode cX5_take 50 = .ok (.invokevirtual 113, 3) := by decide +kernel
theorem dX5_take_53 : decode cX5_take 53 = .ok (.iload_n 3, 1) := by decide +kernel
theorem dX5_take_54 : decode cX5_take 54 = .ok (.iconst (-1), 1) := by decide +kernel
theorem dX5_take_55 : decode cX5_take 55 = .ok (.if_icmp .eq 7, 3) := by decide +kernel
theorem dX5_take_58 : decode cX5_take 58 = .ok (.iconst 1, 1) := by decide +kernel
theorem dX5_take_59 : decode cX5_take 59 = .ok (.goto 4, 3) := by decide +kernel
theorem dX5_take_62 : decode cX5_take 62 = .ok (.iconst 0, 1) := by decide +kernel
theorem dX5_take_63 : decode cX5_take 63 = .ok (.invokestatic 77, 3) := by decide +kernel
theorem dX5_take_66 : decode cX5_take 66 = .ok (.ireturn, 1) := by decide +kernel
theorem dX5_clear_0 : decode cX5_clear 0 = .ok (.aload_n 0, 1) := by decide +kernel
theorem dX5_clear_1 : decode cX5_clear 1 = .ok (.iload_n 1, 1) := by decide +kernel
theorem dX5_clear_2 : decode cX5_clear 2 = .ok (.invokestatic 63, 3) := by decide +kernel
theorem dX5_clear_5 : decode cX5_clear 5 = .ok (.invokevirtual 116, 3) := by decide +kernel
theorem dX5_clear_8 : decode cX5_clear 8 = .ok (.ifCond .eq 5, 3) := by decide +kernel
theorem dX5_clear_11 : decode cX5_clear 11 = .ok (.iconst 0, 1) := by decide +kernel
theorem dX5_clear_12 : decode cX5_clear 12 = .ok (.ireturn, 1) := by decide +kernel
theorem dX5_clear_13 : decode cX5_clear 13 = .ok (.aload_n 0, 1) := by decide +kernel
theorem dX5_clear_14 : decode cX5_clear 14 = .ok (.getfield 14, 3) := by decide +kernel
theorem dX5_clear_17 : decode cX5_clear 17 = .ok (.iload_n 1, 1) := by decide +kernel
theorem dX5_clear_18 : decode cX5_clear 18 = .ok (.iaload, 1) := by decide +kernel
theorem dX5_clear_19 : decode cX5_clear 19 = .ok (.istore_n 2, 1) := by decide +kernel
theorem dX5_clear_20 : decode cX5_clear 20 = .ok (.iload_n 1, 1) := by decide +kernel
theorem dX5_clear_21 : decode cX5_clear 21 = .ok (.invokestatic 67, 3) := by decide +kernel
theorem dX5_clear_24 : decode cX5_clear 24 = .ok (.ifCond .eq 18, 3) := by decide +kernel
theorem dX5_clear_27 : decode cX5_clear 27 = .ok (.aload_n 0, 1) := by decide +kernel
theorem dX5_clear_28 : decode cX5_clear 28 = .ok (.bipush 6, 2) := by decide +kernel
theorem dX5_clear_30 : decode cX5_clear 30 = .ok (.invokevirtual 119, 3) := by decide +kernel
theorem dX5_clear_33 : decode cX5_clear 33 = .ok (.aload_n 0, 1) := by decide +kernel
theorem dX5_clear_34 : decode cX5_clear 34 = .ok (.bipush 7, 2) := by decide +kernel
theorem dX5_clear_36 : decode cX5_clear 36 = .ok (.invokevirtual 119, 3) := by decide +kernel
theorem dX5_clear_39 : decode cX5_clear 39 = .ok (.goto 8, 3) := by decide +kernel
theorem dX5_clear_42 : decode cX5_clear 42 = .ok (.aload_n 0, 1) := by decide +kernel
theorem dX5_clear_43 : decode cX5_clear 43 = .ok (.iload_n 1, 1) := by decide +kernel
theorem dX5_clear_44 : decode cX5_clear 44 = .ok (.invokevirtual 119, 3) := by decide +kernel
theorem dX5_clear_47 : decode cX5_clear 47 = .ok (.iload_n 2, 1) := by decide +kernel
theorem dX5_clear_48 : decode cX5_clear 48 = .ok (.ireturn, 1) := by decide +kernel
theorem dX5_pair_0 : decode cX5_pair 0 = .ok (.aload_n 0, 1) := by decide +kernel
theorem dX5_pair_1 : decode cX5_pair 1 = .ok (.bipush 6, 2) := by decide +kernel
theorem dX5_pair_3 : decode cX5_pair 3 = .ok (.iload_n 1, 1) := by decide +kernel
theorem dX5_pair_4 : decode cX5_pair 4 = .ok (.invokevirtual 110, 3) := by decide +kernel
theorem dX5_pair_7 : decode cX5_pair 7 = .ok (.istore_n 3, 1) := by decide +kernel
theorem dX5_pair_8 : decode cX5_pair 8 = .ok (.aload_n 0, 1) := by decide +kernel
theorem dX5_pair_9 : decode cX5_pair 9 = .ok (.iload_n 1, 1) := by decide +kernel
theorem dX5_pair_10 : decode cX5_pair 10 = .ok (.iconst 0, 1) := by decide +kernel
theorem dX5_pair_11 : decode cX5_pair 11 = .ok (.bipush 99, 2) := by decide +kernel
theorem dX5_pair_13 : decode cX5_pair 13 = .ok (.invokestatic 59, 3) := by decide +kernel
theorem dX5_pair_16 : decode cX5_pair 16 = .ok (.ifCond .eq 13, 3) := by decide +kernel
theorem dX5_pair_19 : decode cX5_pair 19 = .ok (.iload_n 2, 1) := by decide +kernel
theorem dX5_pair_20 : decode cX5_pair 20 = .ok (.iconst 0, 1) := by decide +kernel
theorem dX5_pair_21 : decode cX5_pair 21 = .ok (.bipush 99, 2) := by decide +kernel
theorem dX5_pair_23 : decode cX5_pair 23 = .ok (.invokestatic 59, 3) := by decide +kernel
theorem dX5_pair_26 : decode cX5_pair 26 = .ok (.ifCond .ne 7, 3) := by decide +kernel
theorem dX5_pair_29 : decode cX5_pair 29 = .ok (.iconst 1, 1) := by decide +kernel
theorem dX5_pair_30 : decode cX5_pair 30 = .ok (.goto 4, 3) := by decide +kernel
theorem dX5_pair_33 : decode cX5_pair 33 = .ok (.iconst 0, 1) := by decide +kernel
theorem dX5_pair_34 : decode cX5_pair 34 = .ok (.iload_n 3, 1) := by decide +kernel
theorem dX5_pair_35 : decode cX5_pair 35 = .ok (.iconst (-1), 1) := by decide +kernel
theorem dX5_pair_36 : decode cX5_pair 36 = .ok (.if_icmp .ne 19, 3) := by decide +kernel
theorem dX5_pair_39 : decode cX5_pair 39 = .ok (.aload_n 0, 1) := by decide +kernel
theorem dX5_pair_40 : decode cX5_pair 40 = .ok (.getfield 14, 3) := by decide +kernel
theorem dX5_pair_43 : decode cX5_pair 43 = .ok (.bipush 6, 2) := by decide +kernel
theorem dX5_pair_45 : decode cX5_pair 45 = .ok (.iaload, 1) := by decide +kernel
theorem dX5_pair_46 : decode cX5_pair 46 = .ok (.bipush 12, 2) := by decide +kernel
theorem dX5_pair_48 : decode cX5_pair 48 = .ok (.if_icmp .ne 7, 3) := by decide +kernel
theorem dX5_pair_51 : decode cX5_pair 51 = .ok (.iconst 1, 1) := by decide +kernel
theorem dX5_pair_52 : decode cX5_pair 52 = .ok (.goto 4, 3) := by decide +kernel
theorem dX5_pair_55 : decode cX5_pair 55 = .ok (.iconst 0, 1) := by decide +kernel
theorem dX5_pair_56 : decode cX5_pair 56 = .ok (.invokevirtual 107, 3) := by decide +kernel
theorem dX5_pair_59 : decode cX5_pair 59 = .ok (.ifCond .eq 5, 3) := by decide +kernel
theorem dX5_pair_62 : decode cX5_pair 62 = .ok (.iconst 0, 1) := by decide +kernel
theorem dX5_pair_63 : decode cX5_pair 63 = .ok (.ireturn, 1) := by decide +kernel
theorem dX5_pair_64 : decode cX5_pair 64 = .ok (.iload_n 3, 1) := by decide +kernel
theorem dX5_pair_65 : decode cX5_pair 65 = .ok (.iconst (-1), 1) := by decide +kernel
theorem dX5_pair_66 : decode cX5_pair 66 = .ok (.if_icmp .eq 27, 3) := by decide +kernel
theorem dX5_pair_69 : decode cX5_pair 69 = .ok (.aload_n 0, 1) := by decide +kernel
theorem dX5_pair_70 : decode cX5_pair 70 = .ok (.getfield 11, 3) := by decide +kernel
theorem dX5_pair_73 : decode cX5_pair 73 = .ok (.bipush 7, 2) := by decide +kernel
theorem dX5_pair_75 : decode cX5_pair 75 = .ok (.aaload, 1) := by decide +kernel
theorem dX5_pair_76 : decode cX5_pair 76 = .ok (.iload_n 3, 1) := by decide +kernel
theorem dX5_pair_77 : decode cX5_pair 77 = .ok (.iaload, 1) := by decide +kernel
theorem dX5_pair_78 : decode cX5_pair 78 = .ok (.istore 4, 2) := by decide +kernel
theorem dX5_pair_80 : decode cX5_pair 80 = .ok (.aload_n 0, 1) := by decide +kernel
theorem dX5_pair_81 : decode cX5_pair 81 = .ok (.getfield 11, 3) := by decide +kernel
theorem dX5_pair_84 : decode cX5_pair 84 = .ok (.bipush 7, 2) := by decide +kernel
theorem dX5_pair_86 : decode cX5_pair 86 = .ok (.aaload, 1) := by decide +kernel
theorem dX5_pair_87 : decode cX5_pair 87 = .ok (.iload_n 3, 1) := by decide +kernel
theorem dX5_pair_88 : decode cX5_pair 88 = .ok (.iload_n 2, 1) := by decide +kernel
theorem dX5_pair_89 : decode cX5_pair 89 = .ok (.iastore, 1) := by decide +kernel
theorem dX5_pair_90 : decode cX5_pair 90 = .ok (.iload 4, 2) := by decide +kernel
theorem dX5_pair_92 : decode cX5_pair 92 = .ok (.ireturn, 1) := by decide +kernel
theorem dX5_pair_93 : decode cX5_pair 93 = .ok (.aload_n 0, 1) := by decide +kernel
theorem dX5_pair_94 : decode cX5_pair 94 = .ok (.getfield 14, 3) := by decide +kernel
theorem dX5_pair_97 : decode cX5_pair 97 = .ok (.bipush 6, 2) := by decide +kernel
theorem dX5_pair_99 : decode cX5_pair 99 = .ok (.iaload, 1) := by decide +kernel
theorem dX5_pair_100 : decode cX5_pair 100 = .ok (.istore_n 3, 1) := by decide +kernel
theorem dX5_pair_101 : decode cX5_pair 101 = .ok (.iload_n 3, 1) := by decide +kernel
theorem dX5_pair_102 : decode cX5_pair 102 = .ok (.ifCond .le 24, 3) := by decide +kernel
theorem dX5_pair_105 : decode cX5_pair 105 = .ok (.aload_n 0, 1) := by decide +kernel
theorem dX5_pair_106 : decode cX5_pair 106 = .ok (.getfield 11, 3) := by decide +kernel
theorem dX5_pair_109 : decode cX5_pair 109 = .ok (.bipush 6, 2) := by decide +kernel
theorem dX5_pair_111 : decode cX5_pair 111 = .ok (.aaload, 1) := by decide +kernel
theorem dX5_pair_112 : decode cX5_pair 112 = .ok (.iload_n 3, 1) := by decide +kernel
theorem dX5_pair_113 : decode cX5_pair 113 = .ok (.iconst 1, 1) := by decide +kernel
theorem dX5_pair_114 : decode cX5_pair 114 = .ok (.isub, 1) := by decide +kernel
theorem dX5_pair_115 : decode cX5_pair 115 = .ok (.iaload, 1) := by decide +kernel
theorem dX5_pair_116 : decode cX5_pair 116 = .ok (.iload_n 1, 1) := by decide +kernel
theorem dX5_pair_117 : decode cX5_pair 117 = .ok (.if_icmp .le 9, 3) := by decide +kernel
theorem dX5_pair_120 : decode cX5_pair 120 = .ok (.iinc 3 (-1), 3) := by decide +kernel
theorem dX5_pair_123 : decode cX5_pair 123 = .ok (.goto (-22), 3) := by decide +kernel
theorem dX5_pair_126 : decode cX5_pair 126 = .ok (.aload_n 0, 1) := by decide +kernel
theorem dX5_pair_127 : decode cX5_pair 127 = .ok (.bipush 6, 2) := by decide +kernel
theorem dX5_pair_129 : decode cX5_pair 129 = .ok (.iload_n 3, 1) := by decide +kernel
theorem dX5_pair_130 : decode cX5_pair 130 = .ok (.iload_n 1, 1) := by decide +kernel
theorem dX5_pair_131 : decode cX5_pair 131 = .ok (.invokevirtual 85, 3) := by decide +kernel
theorem dX5_pair_134 : decode cX5_pair 134 = .ok (.aload_n 0, 1) := by decide +kernel
theorem dX5_pair_135 : decode cX5_pair 135 = .ok (.bipush 7, 2) := by decide +kernel
theorem dX5_pair_137 : decode cX5_pair 137 = .ok (.iload_n 3, 1) := by decide +kernel
theorem dX5_pair_138 : decode cX5_pair 138 = .ok (.iload_n 2, 1) := by decide +kernel
theorem dX5_pair_139 : decode cX5_pair 139 = .ok (.invokevirtual 85, 3) := by decide +kernel
theorem dX5_pair_142 : decode cX5_pair 142 = .ok (.iconst (-1), 1) := by decide +kernel
theorem dX5_pair_143 : decode cX5_pair 143 = .ok (.ireturn, 1) := by decide +kernel
theorem dX5_pour_0 : decode cX5_pour 0 = .ok (.aload_n 0, 1) := by decide +kernel
theorem dX5_pour_1 : decode cX5_pour 1 = .ok (.iload_n 1, 1) := by decide +kernel
theorem dX5_pour_2 : decode cX5_pour 2 = .ok (.invokestatic 63, 3) := by decide +kernel
theorem dX5_pour_5 : decode cX5_pour 5 = .ok (.ifCond .ne 10, 3) := by decide +kernel
theorem dX5_pour_8 : decode cX5_pour 8 = .ok (.iload_n 2, 1) := by decide +kernel
theorem dX5_pour_9 : decode cX5_pour 9 = .ok (.invokestatic 63, 3) := by decide +kernel
theorem dX5_pour_12 : decode cX5_pour 12 = .ok (.ifCond .eq 7, 3) := by decide +kernel
theorem dX5_pour_15 : decode cX5_pour 15 = .ok (.iconst 1, 1) := by decide +kernel
theorem dX5_pour_16 : decode cX5_pour 16 = .ok (.goto 4, 3) := by decide +kernel
theorem dX5_pour_19 : decode cX5_pour 19 = .ok (.iconst 0, 1) := by decide +kernel
theorem dX5_pour_20 : decode cX5_pour 20 = .ok (.iload_n 1, 1) := by decide +kernel
theorem dX5_pour_21 : decode cX5_pour 21 = .ok (.invokestatic 63, 3) := by decide +kernel
theorem dX5_pour_24 : decode cX5_pour 24 = .ok (.ifCond .ne 32, 3) := by decide +kernel
theorem dX5_pour_27 : decode cX5_pour 27 = .ok (.iload_n 2, 1) := by decide +kernel
theorem dX5_pour_28 : decode cX5_pour 28 = .ok (.invokestatic 63, 3) := by decide +kernel
theorem dX5_pour_31 : decode cX5_pour 31 = .ok (.ifCond .ne 25, 3) := by decide +kernel
theorem dX5_pour_34 : decode cX5_pour 34 = .ok (.aload_n 0, 1) := by decide +kernel
theorem dX5_pour_35 : decode cX5_pour 35 = .ok (.getfield 14, 3) := by decide +kernel
theorem dX5_pour_38 : decode cX5_pour 38 = .ok (.iload_n 1, 1) := by decide +kernel
theorem dX5_pour_39 : decode cX5_pour 39 = .ok (.iaload, 1) := by decide +kernel
theorem dX5_pour_40 : decode cX5_pour 40 = .ok (.aload_n 0, 1) := by decide +kernel
theorem dX5_pour_41 : decode cX5_pour 41 = .ok (.getfield 14, 3) := by decide +kernel
theorem dX5_pour_44 : decode cX5_pour 44 = .ok (.iload_n 2, 1) := by decide +kernel
theorem dX5_pour_45 : decode cX5_pour 45 = .ok (.iaload, 1) := by decide +kernel
theorem dX5_pour_46 : decode cX5_pour 46 = .ok (.iadd, 1) := by decide +kernel
theorem dX5_pour_47 : decode cX5_pour 47 = .ok (.bipush 12, 2) := by decide +kernel
theorem dX5_pour_49 : decode cX5_pour 49 = .ok (.if_icmp .le 7, 3) := by decide +kernel
theorem dX5_pour_52 : decode cX5_pour 52 = .ok (.iconst 1, 1) := by decide +kernel
theorem dX5_pour_53 : decode cX5_pour 53 = .ok (.goto 4, 3) := by decide +kernel
theorem dX5_pour_56 : decode cX5_pour 56 = .ok (.iconst 0, 1) := by decide +kernel
theorem dX5_pour_57 : decode cX5_pour 57 = .ok (.invokevirtual 107, 3) := by decide +kernel
theorem dX5_pour_60 : decode cX5_pour 60 = .ok (.ifCond .eq 5, 3) := by decide +kernel
theorem dX5_pour_63 : decode cX5_pour 63 = .ok (.iconst 0, 1) := by decide +kernel
theorem dX5_pour_64 : decode cX5_pour 64 = .ok (.ireturn, 1) := by decide +kernel
theorem dX5_pour_65 : decode cX5_pour 65 = .ok (.iload_n 2, 1) := by decide +kernel
theorem dX5_pour_66 : decode cX5_pour 66 = .ok (.invokestatic 67, 3) := by decide +kernel
theorem dX5_pour_69 : decode cX5_pour 69 = .ok (.ifCond .ne 18, 3) := by decide +kernel
theorem dX5_pour_72 : decode cX5_pour 72 = .ok (.aload_n 0, 1) := by decide +kernel
theorem dX5_pour_73 : decode cX5_pour 73 = .ok (.iload_n 1, 1) := by decide +kernel
theorem dX5_pour_74 : decode cX5_pour 74 = .ok (.invokevirtual 123, 3) := by decide +kernel
theorem dX5_pour_77 : decode cX5_pour 77 = .ok (.ifCond .eq 15, 3) := by decide +kernel
theorem dX5_pour_80 : decode cX5_pour 80 = .ok (.iload_n 2, 1) := by decide +kernel
theorem dX5_pour_81 : decode cX5_pour 81 = .ok (.invokestatic 96, 3) := by decide +kernel
theorem dX5_pour_84 : decode cX5_pour 84 = .ok (.ifCond .ne 8, 3) := by decide +kernel
theorem dX5_pour_87 : decode cX5_pour 87 = .ok (.aload_n 0, 1) := by decide +kernel
theorem dX5_pour_88 : decode cX5_pour 88 = .ok (.invokevirtual 99, 3) := by decide +kernel
theorem dX5_pour_91 : decode cX5_pour 91 = .ok (.ireturn, 1) := by decide +kernel
theorem dX5_pour_92 : decode cX5_pour 92 = .ok (.aload_n 0, 1) := by decide +kernel
theorem dX5_pour_93 : decode cX5_pour 93 = .ok (.iload_n 1, 1) := by decide +kernel
theorem dX5_pour_94 : decode cX5_pour 94 = .ok (.iconst 0, 1) := by decide +kernel
theorem dX5_pour_95 : decode cX5_pour 95 = .ok (.invokevirtual 126, 3) := by decide +kernel
theorem dX5_pour_98 : decode cX5_pour 98 = .ok (.astore_n 3, 1) := by decide +kernel
theorem dX5_pour_99 : decode cX5_pour 99 = .ok (.aload_n 0, 1) := by decide +kernel
theorem dX5_pour_100 : decode cX5_pour 100 = .ok (.iload_n 2, 1) := by decide +kernel
theorem dX5_pour_101 : decode cX5_pour 101 = .ok (.aload_n 3, 1) := by decide +kernel
theorem dX5_pour_102 : decode cX5_pour 102 = .ok (.aload_n 3, 1) := by decide +kernel
theorem dX5_pour_103 : decode cX5_pour 103 = .ok (.arraylength, 1) := by decide +kernel
theorem dX5_pour_104 : decode cX5_pour 104 = .ok (.invokevirtual 103, 3) := by decide +kernel
theorem dX5_pour_107 : decode cX5_pour 107 = .ok (.ireturn, 1) := by decide +kernel
theorem dX5_change_0 : decode cX5_change 0 = .ok (.aload_n 0, 1) := by decide +kernel
theorem dX5_change_1 : decode cX5_change 1 = .ok (.aload_n 0, 1) := by decide +kernel
theorem dX5_change_2 : decode cX5_change 2 = .ok (.iload_n 1, 1) := by decide +kernel
theorem dX5_change_3 : decode cX5_change 3 = .ok (.iload_n 2, 1) := by decide +kernel
theorem dX5_change_4 : decode cX5_change 4 = .ok (.invokevirtual 130, 3) := by decide +kernel
theorem dX5_change_7 : decode cX5_change 7 = .ok (.iload_n 3, 1) := by decide +kernel
theorem dX5_change_8 : decode cX5_change 8 = .ok (.invokestatic 93, 3) := by decide +kernel
theorem dX5_change_11 : decode cX5_change 11 = .ok (.invokevirtual 107, 3) := by decide +kernel
theorem dX5_change_14 : decode cX5_change 14 = .ok (.ifCond .eq 5, 3) := by decide +kernel
theorem dX5_change_17 : decode cX5_change 17 = .ok (.iconst 0, 1) := by decide +kernel
theorem dX5_change_18 : decode cX5_change 18 = .ok (.ireturn, 1) := by decide +kernel
theorem dX5_change_19 : decode cX5_change 19 = .ok (.aload_n 0, 1) := by decide +kernel
theorem dX5_change_20 : decode cX5_change 20 = .ok (.getfield 11, 3) := by decide +kernel
theorem dX5_change_23 : decode cX5_change 23 = .ok (.iload_n 1, 1) := by decide +kernel
theorem dX5_change_24 : decode cX5_change 24 = .ok (.aaload, 1) := by decide +kernel
theorem dX5_change_25 : decode cX5_change 25 = .ok (.iload_n 2, 1) := by decide +kernel
theorem dX5_change_26 : decode cX5_change 26 = .ok (.iaload, 1) := by decide +kernel
theorem dX5_change_27 : decode cX5_change 27 = .ok (.istore 4, 2) := by decide +kernel
theorem dX5_change_29 : decode cX5_change 29 = .ok (.aload_n 0, 1) := by decide +kernel
theorem dX5_change_30 : decode cX5_change 30 = .ok (.getfield 11, 3) := by decide +kernel
theorem dX5_change_33 : decode cX5_change 33 = .ok (.iload_n 1, 1) := by decide +kernel
theorem dX5_change_34 : decode cX5_change 34 = .ok (.aaload, 1) := by decide +kernel
theorem dX5_change_35 : decode cX5_change 35 = .ok (.iload_n 2, 1) := by decide +kernel
theorem dX5_change_36 : decode cX5_change 36 = .ok (.iload_n 3, 1) := by decide +kernel
theorem dX5_change_37 : decode cX5_change 37 = .ok (.iastore, 1) := by decide +kernel
theorem dX5_change_38 : decode cX5_change 38 = .ok (.aload_n 0, 1) := by decide +kernel
theorem dX5_change_39 : decode cX5_change 39 = .ok (.getfield 40, 3) := by decide +kernel
theorem dX5_change_42 : decode cX5_change 42 = .ok (.iload_n 1, 1) := by decide +kernel
theorem dX5_change_43 : decode cX5_change 43 = .ok (.dup2, 1) := by decide +kernel
theorem dX5_change_44 : decode cX5_change 44 = .ok (.iaload, 1) := by decide +kernel
theorem dX5_change_45 : decode cX5_change 45 = .ok (.iconst 1, 1) := by decide +kernel
theorem dX5_change_46 : decode cX5_change 46 = .ok (.iadd, 1) := by decide +kernel
theorem dX5_change_47 : decode cX5_change 47 = .ok (.iastore, 1) := by decide +kernel
theorem dX5_change_48 : decode cX5_change 48 = .ok (.iload 4, 2) := by decide +kernel
theorem dX5_change_50 : decode cX5_change 50 = .ok (.ireturn, 1) := by decide +kernel
theorem dX5_insert_0 : decode cX5_insert 0 = .ok (.aload_n 0, 1) := by decide +kernel
theorem dX5_insert_1 : decode cX5_insert 1 = .ok (.iload_n 1, 1) := by decide +kernel
theorem dX5_insert_2 : decode cX5_insert 2 = .ok (.invokestatic 70, 3) := by decide +kernel
theorem dX5_insert_5 : decode cX5_insert 5 = .ok (.ifCond .ne 17, 3) := by decide +kernel
theorem dX5_insert_8 : decode cX5_insert 8 = .ok (.iload_n 2, 1) := by decide +kernel
theorem dX5_insert_9 : decode cX5_insert 9 = .ok (.iconst 0, 1) := by decide +kernel
theorem dX5_insert_10 : decode cX5_insert 10 = .ok (.aload_n 0, 1) := by decide +kernel
theorem dX5_insert_11 : decode cX5_insert 11 = .ok (.getfield 14, 3) := by decide +kernel
theorem dX5_insert_14 : decode cX5_insert 14 = .ok (.iload_n 1, 1) := by decide +kernel
theorem dX5_insert_15 : decode cX5_insert 15 = .ok (.iaload, 1) := by decide +kernel
theorem dX5_insert_16 : decode cX5_insert 16 = .ok (.invokestatic 59, 3) := by decide +kernel
theorem dX5_insert_19 : decode cX5_insert 19 = .ok (.ifCond .ne 7, 3) := by decide +kernel
theorem dX5_insert_22 : decode cX5_insert 22 = .ok (.iconst 1, 1) := by decide +kernel
theorem dX5_insert_23 : decode cX5_insert 23 = .ok (.goto 4, 3) := by decide +kernel
theorem dX5_insert_26 : decode cX5_insert 26 = .ok (.iconst 0, 1) := by decide +kernel
theorem dX5_insert_27 : decode cX5_insert 27 = .ok (.iload_n 3, 1) := by decide +kernel
theorem dX5_insert_28 : decode cX5_insert 28 = .ok (.invokestatic 93, 3) := by decide +kernel
theorem dX5_insert_31 : decode cX5_insert 31 = .ok (.iload_n 1, 1) := by decide +kernel
theorem dX5_insert_32 : decode cX5_insert 32 = .ok (.invokestatic 70, 3) := by decide +kernel
theorem dX5_insert_35 : decode cX5_insert 35 = .ok (.ifCond .ne 18, 3) := by decide +kernel
theorem dX5_insert_38 : decode cX5_insert 38 = .ok (.aload_n 0, 1) := by decide +kernel
theorem dX5_insert_39 : decode cX5_insert 39 = .ok (.getfield 14, 3) := by decide +kernel
theorem dX5_insert_42 : decode cX5_insert 42 = .ok (.iload_n 1, 1) := by decide +kernel
theorem dX5_insert_43 : decode cX5_insert 43 = .ok (.iaload, 1) := by decide +kernel
theorem dX5_insert_44 : decode cX5_insert 44 = .ok (.bipush 12, 2) := by decide +kernel
theorem dX5_insert_46 : decode cX5_insert 46 = .ok (.if_icmp .ne 7, 3) := by decide +kernel
theorem dX5_insert_49 : decode cX5_insert 49 = .ok (.iconst 1, 1) := by decide +kernel
theorem dX5_insert_50 : decode cX5_insert 50 = .ok (.goto 4, 3) := by decide +kernel
theorem dX5_insert_53 : decode cX5_insert 53 = .ok (.iconst 0, 1) := by decide +kernel
theorem dX5_insert_54 : decode cX5_insert 54 = .ok (.invokevirtual 50, 3) := by decide +kernel
theorem dX5_insert_57 : decode cX5_insert 57 = .ok (.ifCond .eq 5, 3) := by decide +kernel
theorem dX5_insert_60 : decode cX5_insert 60 = .ok (.iconst 0, 1) := by decide +kernel
theorem dX5_insert_61 : decode cX5_insert 61 = .ok (.ireturn, 1) := by decide +kernel
theorem dX5_insert_62 : decode cX5_insert 62 = .ok (.aload_n 0, 1) := by decide +kernel
theorem dX5_insert_63 : decode cX5_insert 63 = .ok (.iload_n 1, 1) := by decide +kernel
theorem dX5_insert_64 : decode cX5_insert 64 = .ok (.iload_n 2, 1) := by decide +kernel
theorem dX5_insert_65 : decode cX5_insert 65 = .ok (.iload_n 3, 1) := by decide +kernel
theorem dX5_insert_66 : decode cX5_insert 66 = .ok (.invokevirtual 85, 3) := by decide +kernel
theorem dX5_insert_69 : decode cX5_insert 69 = .ok (.aload_n 0, 1) := by decide +kernel
theorem dX5_insert_70 : decode cX5_insert 70 = .ok (.getfield 14, 3) := by decide +kernel
theorem dX5_insert_73 : decode cX5_insert 73 = .ok (.iload_n 1, 1) := by decide +kernel
theorem dX5_insert_74 : decode cX5_insert 74 = .ok (.iaload, 1) := by decide +kernel
theorem dX5_insert_75 : decode cX5_insert 75 = .ok (.ireturn, 1) := by decide +kernel
theorem dX5_remove_0 : decode cX5_remove 0 = .ok (.aload_n 0, 1) := by decide +kernel
theorem dX5_remove_1 : decode cX5_remove 1 = .ok (.aload_n 0, 1) := by decide +kernel
theorem dX5_remove_2 : decode cX5_remove 2 = .ok (.iload_n 1, 1) := by decide +kernel
theorem dX5_remove_3 : decode cX5_remove 3 = .ok (.iload_n 2, 1) := by decide +kernel
theorem dX5_remove_4 : decode cX5_remove 4 = .ok (.invokevirtual 130, 3) := by decide +kernel
theorem dX5_remove_7 : decode cX5_remove 7 = .ok (.invokevirtual 116, 3) := by decide +kernel
theorem dX5_remove_10 : decode cX5_remove 10 = .ok (.ifCond .eq 5, 3) := by decide +kernel
theorem dX5_remove_13 : decode cX5_remove 13 = .ok (.iconst 0, 1) := by decide +kernel
theorem dX5_remove_14 : decode cX5_remove 14 = .ok (.ireturn, 1) := by decide +kernel
theorem dX5_remove_15 : decode cX5_remove 15 = .ok (.aload_n 0, 1) := by decide +kernel
theorem dX5_remove_16 : decode cX5_remove 16 = .ok (.getfield 11, 3) := by decide +kernel
theorem dX5_remove_19 : decode cX5_remove 19 = .ok (.iload_n 1, 1) := by decide +kernel
theorem dX5_remove_20 : decode cX5_remove 20 = .ok (.aaload, 1) := by decide +kernel
theorem dX5_remove_21 : decode cX5_remove 21 = .ok (.iload_n 2, 1) := by decide +kernel
theorem dX5_remove_22 : decode cX5_remove 22 = .ok (.iaload, 1) := by decide +kernel
theorem dX5_remove_23 : decode cX5_remove 23 = .ok (.istore_n 3, 1) := by decide +kernel
theorem dX5_remove_24 : decode cX5_remove 24 = .ok (.aload_n 0, 1) := by decide +kernel
theorem dX5_remove_25 : decode cX5_remove 25 = .ok (.iload_n 1, 1) := by decide +kernel
theorem dX5_remove_26 : decode cX5_remove 26 = .ok (.iload_n 2, 1) := by decide +kernel
theorem dX5_remove_27 : decode cX5_remove 27 = .ok (.invokevirtual 81, 3) := by decide +kernel
theorem dX5_remove_30 : decode cX5_remove 30 = .ok (.iload_n 3, 1) := by decide +kernel
theorem dX5_remove_31 : decode cX5_remove 31 = .ok (.ireturn, 1) := by decide +kernel
theorem dX5_turn_0 : decode cX5_turn 0 = .ok (.aload_n 0, 1) := by decide +kernel
theorem dX5_turn_1 : decode cX5_turn 1 = .ok (.iload_n 1, 1) := by decide +kernel
theorem dX5_turn_2 : decode cX5_turn 2 = .ok (.invokestatic 70, 3) := by decide +kernel
theorem dX5_turn_5 : decode cX5_turn 5 = .ok (.invokevirtual 116, 3) := by decide +kernel
theorem dX5_turn_8 : decode cX5_turn 8 = .ok (.ifCond .eq 5, 3) := by decide +kernel
theorem dX5_turn_11 : decode cX5_turn 11 = .ok (.iconst 0, 1) := by decide +kernel
theorem dX5_turn_12 : decode cX5_turn 12 = .ok (.ireturn, 1) := by decide +kernel
theorem dX5_turn_13 : decode cX5_turn 13 = .ok (.aload_n 0, 1) := by decide +kernel
theorem dX5_turn_14 : decode cX5_turn 14 = .ok (.iload_n 1, 1) := by decide +kernel
theorem dX5_turn_15 : decode cX5_turn 15 = .ok (.iconst 0, 1) := by decide +kernel
theorem dX5_turn_16 : decode cX5_turn 16 = .ok (.invokevirtual 126, 3) := by decide +kernel
theorem dX5_turn_19 : decode cX5_turn 19 = .ok (.astore_n 2, 1) := by decide +kernel
theorem dX5_turn_20 : decode cX5_turn 20 = .ok (.iconst 0, 1) := by decide +kernel
theorem dX5_turn_21 : decode cX5_turn 21 = .ok (.istore_n 3, 1) := by decide +kernel
theorem dX5_turn_22 : decode cX5_turn 22 = .ok (.iload_n 3, 1) := by decide +kernel
theorem dX5_turn_23 : decode cX5_turn 23 = .ok (.aload_n 2, 1) := by decide +kernel
theorem dX5_turn_24 : decode cX5_turn 24 = .ok (.arraylength, 1) := by decide +kernel
theorem dX5_turn_25 : decode cX5_turn 25 = .ok (.if_icmp .ge 25, 3) := by decide +kernel
theorem dX5_turn_28 : decode cX5_turn 28 = .ok (.aload_n 0, 1) := by decide +kernel
theorem dX5_turn_29 : decode cX5_turn 29 = .ok (.getfield 11, 3) := by decide +kernel
theorem dX5_turn_32 : decode cX5_turn 32 = .ok (.iload_n 1, 1) := by decide +kernel
theorem dX5_turn_33 : decode cX5_turn 33 = .ok (.aaload, 1) := by decide +kernel
theorem dX5_turn_34 : decode cX5_turn 34 = .ok (.iload_n 3, 1) := by decide +kernel
theorem dX5_turn_35 : decode cX5_turn 35 = .ok (.aload_n 2, 1) := by decide +kernel
theorem dX5_turn_36 : decode cX5_turn 36 = .ok (.aload_n 2, 1) := by decide +kernel
theorem dX5_turn_37 : decode cX5_turn 37 = .ok (.arraylength, 1) := by decide +kernel
theorem dX5_turn_38 : decode cX5_turn 38 = .ok (.iconst 1, 1) := by decide +kernel
theorem dX5_turn_39 : decode cX5_turn 39 = .ok (.isub, 1) := by decide +kernel
theorem dX5_turn_40 : decode cX5_turn 40 = .ok (.iload_n 3, 1) := by decide +kernel
theorem dX5_turn_41 : decode cX5_turn 41 = .ok (.isub, 1) := by decide +kernel
theorem dX5_turn_42 : decode cX5_turn 42 = .ok (.iaload, 1) := by decide +kernel
theorem dX5_turn_43 : decode cX5_turn 43 = .ok (.iastore, 1) := by decide +kernel
theorem dX5_turn_44 : decode cX5_turn 44 = .ok (.iinc 3 1, 3) := by decide +kernel
theorem dX5_turn_47 : decode cX5_turn 47 = .ok (.goto (-25), 3) := by decide +kernel
theorem dX5_turn_50 : decode cX5_turn 50 = .ok (.aload_n 0, 1) := by decide +kernel
theorem dX5_turn_51 : decode cX5_turn 51 = .ok (.getfield 40, 3) := by decide +kernel
theorem dX5_turn_54 : decode cX5_turn 54 = .ok (.iload_n 1, 1) := by decide +kernel
theorem dX5_turn_55 : decode cX5_turn 55 = .ok (.dup2, 1) := by decide +kernel
theorem dX5_turn_56 : decode cX5_turn 56 = .ok (.iaload, 1) := by decide +kernel
theorem dX5_turn_57 : decode cX5_turn 57 = .ok (.iconst 1, 1) := by decide +kernel
theorem dX5_turn_58 : decode cX5_turn 58 = .ok (.iadd, 1) := by decide +kernel
theorem dX5_turn_59 : decode cX5_turn 59 = .ok (.iastore, 1) := by decide +kernel
theorem dX5_turn_60 : decode cX5_turn 60 = .ok (.aload_n 2, 1) := by decide +kernel
theorem dX5_turn_61 : decode cX5_turn 61 = .ok (.arraylength, 1) := by decide +kernel
theorem dX5_turn_62 : decode cX5_turn 62 = .ok (.ireturn, 1) := by decide +kernel
theorem dX5_rotate_0 : decode cX5_rotate 0 = .ok (.aload_n 0, 1) := by decide +kernel
theorem dX5_rotate_1 : decode cX5_rotate 1 = .ok (.iload_n 1, 1) := by decide +kernel
theorem dX5_rotate_2 : decode cX5_rotate 2 = .ok (.invokestatic 70, 3) := by decide +kernel
theorem dX5_rotate_5 : decode cX5_rotate 5 = .ok (.iload_n 2, 1) := by decide +kernel
theorem dX5_rotate_6 : decode cX5_rotate 6 = .ok (.bipush (-20), 2) := by decide +kernel
theorem dX5_rotate_8 : decode cX5_rotate 8 = .ok (.bipush 20, 2) := by decide +kernel
theorem dX5_rotate_10 : decode cX5_rotate 10 = .ok (.invokestatic 59, 3) := by decide +kernel
theorem dX5_rotate_13 : decode cX5_rotate 13 = .ok (.ifCond .ne 7, 3) := by decide +kernel
theorem dX5_rotate_16 : decode cX5_rotate 16 = .ok (.iconst 1, 1) := by decide +kernel
theorem dX5_rotate_17 : decode cX5_rotate 17 = .ok (.goto 4, 3) := by decide +kernel
theorem dX5_rotate_20 : decode cX5_rotate 20 = .ok (.iconst 0, 1) := by decide +kernel
theorem dX5_rotate_21 : decode cX5_rotate 21 = .ok (.invokevirtual 107, 3) := by decide +kernel
theorem dX5_rotate_24 : decode cX5_rotate 24 = .ok (.ifCond .eq 5, 3) := by decide +kernel
theorem dX5_rotate_27 : decode cX5_rotate 27 = .ok (.iconst 0, 1) := by decide +kernel
theorem dX5_rotate_28 : decode cX5_rotate 28 = .ok (.ireturn, 1) := by decide +kernel
theorem dX5_rotate_29 : decode cX5_rotate 29 = .ok (.aload_n 0, 1) := by decide +kernel
theorem dX5_rotate_30 : decode cX5_rotate 30 = .ok (.iload_n 1, 1) := by decide +kernel
theorem dX5_rotate_31 : decode cX5_rotate 31 = .ok (.iconst 0, 1) := by decide +kernel
theorem dX5_rotate_32 : decode cX5_rotate 32 = .ok (.invokevirtual 126, 3) := by decide +kernel
theorem dX5_rotate_35 : decode cX5_rotate 35 = .ok (.astore_n 3, 1) := by decide +kernel
theorem dX5_rotate_36 : decode cX5_rotate 36 = .ok (.iconst 0, 1) := by decide +kernel
theorem dX5_rotate_37 : decode cX5_rotate 37 = .ok (.istore 4, 2) := by decide +kernel
theorem dX5_rotate_39 : decode cX5_rotate 39 = .ok (.iload 4, 2) := by decide +kernel
theorem dX5_rotate_41 : decode cX5_rotate 41 = .ok (.aload_n 3, 1) := by decide +kernel
theorem dX5_rotate_42 : decode cX5_rotate 42 = .ok (.arraylength, 1) := by decide +kernel
theorem dX5_rotate_43 : decode cX5_rotate 43 = .ok (.if_icmp .ge 33, 3) := by decide +kernel
theorem dX5_rotate_46 : decode cX5_rotate 46 = .ok (.aload_n 0, 1) := by decide +kernel
theorem dX5_rotate_47 : decode cX5_rotate 47 = .ok (.getfield 11, 3) := by decide +kernel
theorem dX5_rotate_50 : decode cX5_rotate 50 = .ok (.iload_n 1, 1) := by decide +kernel
theorem dX5_rotate_51 : decode cX5_rotate 51 = .ok (.aaload, 1) := by decide +kernel
theorem dX5_rotate_52 : decode cX5_rotate 52 = .ok (.iload 4, 2) := by decide +kernel
theorem dX5_rotate_54 : decode cX5_rotate 54 = .ok (.iload_n 2, 1) := by decide +kernel
theorem dX5_rotate_55 : decode cX5_rotate 55 = .ok (.iadd, 1) := by decide +kernel
theorem dX5_rotate_56 : decode cX5_rotate 56 = .ok (.aload_n 3, 1) := by decide +kernel
theorem dX5_rotate_57 : decode cX5_rotate 57 = .ok (.arraylength, 1) := by decide +kernel
theorem dX5_rotate_58 : decode cX5_rotate 58 = .ok (.irem, 1) := by decide +kernel
theorem dX5_rotate_59 : decode cX5_rotate 59 = .ok (.aload_n 3, 1) := by decide +kernel
theorem dX5_rotate_60 : decode cX5_rotate 60 = .ok (.arraylength, 1) := by decide +kernel
theorem dX5_rotate_61 : decode cX5_rotate 61 = .ok (.iadd, 1) := by decide +kernel
theorem dX5_rotate_62 : decode cX5_rotate 62 = .ok (.aload_n 3, 1) := by decide +kernel
theorem dX5_rotate_63 : decode cX5_rotate 63 = .ok (.arraylength, 1) := by decide +kernel
theorem dX5_rotate_64 : decode cX5_rotate 64 = .ok (.irem, 1) := by decide +kernel
theorem dX5_rotate_65 : decode cX5_rotate 65 = .ok (.aload_n 3, 1) := by decide +kernel
theorem dX5_rotate_66 : decode cX5_rotate 66 = .ok (.iload 4, 2) := by decide +kernel
theorem dX5_rotate_68 : decode cX5_rotate 68 = .ok (.iaload, 1) := by decide +kernel
theorem dX5_rotate_69 : decode cX5_rotate 69 = .ok (.iastore, 1) := by decide +kernel
theorem dX5_rotate_70 : decode cX5_rotate 70 = .ok (.iinc 4 1, 3) := by decide +kernel
theorem dX5_rotate_73 : decode cX5_rotate 73 = .ok (.goto (-34), 3) := by decide +kernel
theorem dX5_rotate_76 : decode cX5_rotate 76 = .ok (.aload_n 0, 1) := by decide +kernel
theorem dX5_rotate_77 : decode cX5_rotate 77 = .ok (.getfield 40, 3) := by decide +kernel
theorem dX5_rotate_80 : decode cX5_rotate 80 = .ok (.iload_n 1, 1) := by decide +kernel
theorem dX5_rotate_81 : decode cX5_rotate 81 = .ok (.dup2, 1) := by decide +kernel
theorem dX5_rotate_82 : decode cX5_rotate 82 = .ok (.iaload, 1) := by decide +kernel
theorem dX5_rotate_83 : decode cX5_rotate 83 = .ok (.iconst 1, 1) := by decide +kernel
theorem dX5_rotate_84 : decode cX5_rotate 84 = .ok (.iadd, 1) := by decide +kernel
theorem dX5_rotate_85 : decode cX5_rotate 85 = .ok (.iastore, 1) := by decide +kernel
theorem dX5_rotate_86 : decode cX5_rotate 86 = .ok (.aload_n 3, 1) := by decide +kernel
theorem dX5_rotate_87 : decode cX5_rotate 87 = .ok (.arraylength, 1) := by decide +kernel
theorem dX5_rotate_88 : decode cX5_rotate 88 = .ok (.ireturn, 1) := by decide +kernel
theorem dX5_swap_0 : decode cX5_swap 0 = .ok (.aload_n 0, 1) := by decide +kernel
theorem dX5_swap_1 : decode cX5_swap 1 = .ok (.aload_n 0, 1) := by decide +kernel
theorem dX5_swap_2 : decode cX5_swap 2 = .ok (.iload_n 1, 1) := by decide +kernel
theorem dX5_swap_3 : decode cX5_swap 3 = .ok (.iload_n 2, 1) := by decide +kernel
theorem dX5_swap_4 : decode cX5_swap 4 = .ok (.invokevirtual 130, 3) := by decide +kernel
theorem dX5_swap_7 : decode cX5_swap 7 = .ok (.ifCond .ne 12, 3) := by decide +kernel
theorem dX5_swap_10 : decode cX5_swap 10 = .ok (.aload_n 0, 1) := by decide +kernel
theorem dX5_swap_11 : decode cX5_swap 11 = .ok (.iload_n 1, 1) := by decide +kernel
theorem dX5_swap_12 : decode cX5_swap 12 = .ok (.iload_n 3, 1) := by decide +kernel
theorem dX5_swap_13 : decode cX5_swap 13 = .ok (.invokevirtual 130, 3) := by decide +kernel
theorem dX5_swap_16 : decode cX5_swap 16 = .ok (.ifCond .eq 7, 3) := by decide +kernel
theorem dX5_swap_19 : decode cX5_swap 19 = .ok (.iconst 1, 1) := by decide +kernel
theorem dX5_swap_20 : decode cX5_swap 20 = .ok (.goto 4, 3) := by decide +kernel
theorem dX5_swap_23 : decode cX5_swap 23 = .ok (.iconst 0, 1) := by decide +kernel
theorem dX5_swap_24 : decode cX5_swap 24 = .ok (.invokevirtual 116, 3) := by decide +kernel
theorem dX5_swap_27 : decode cX5_swap 27 = .ok (.ifCond .eq 5, 3) := by decide +kernel
theorem dX5_swap_30 : decode cX5_swap 30 = .ok (.iconst 0, 1) := by decide +kernel
theorem dX5_swap_31 : decode cX5_swap 31 = .ok (.ireturn, 1) := by decide +kernel
theorem dX5_swap_32 : decode cX5_swap 32 = .ok (.aload_n 0, 1) := by decide +kernel
theorem dX5_swap_33 : decode cX5_swap 33 = .ok (.getfield 11, 3) := by decide +kernel
theorem dX5_swap_36 : decode cX5_swap 36 = .ok (.iload_n 1, 1) := by decide +kernel
theorem dX5_swap_37 : decode cX5_swap 37 = .ok (.aaload, 1) := by decide +kernel
theorem dX5_swap_38 : decode cX5_swap 38 = .ok (.iload_n 2, 1) := by decide +kernel
theorem dX5_swap_39 : decode cX5_swap 39 = .ok (.iaload, 1) := by decide +kernel
theorem dX5_swap_40 : decode cX5_swap 40 = .ok (.istore 4, 2) := by decide +kernel
theorem dX5_swap_42 : decode cX5_swap 42 = .ok (.aload_n 0, 1) := by decide +kernel
theorem dX5_swap_43 : decode cX5_swap 43 = .ok (.getfield 11, 3) := by decide +kernel
theorem dX5_swap_46 : decode cX5_swap 46 = .ok (.iload_n 1, 1) := by decide +kernel
theorem dX5_swap_47 : decode cX5_swap 47 = .ok (.aaload, 1) := by decide +kernel
theorem dX5_swap_48 : decode cX5_swap 48 = .ok (.iload_n 2, 1) := by decide +kernel
theorem dX5_swap_49 : decode cX5_swap 49 = .ok (.aload_n 0, 1) := by decide +kernel
theorem dX5_swap_50 : decode cX5_swap 50 = .ok (.getfield 11, 3) := by decide +kernel
theorem dX5_swap_53 : decode cX5_swap 53 = .ok (.iload_n 1, 1) := by decide +kernel
theorem dX5_swap_54 : decode cX5_swap 54 = .ok (.aaload, 1) := by decide +kernel
theorem dX5_swap_55 : decode cX5_swap 55 = .ok (.iload_n 3, 1) := by decide +kernel
theorem dX5_swap_56 : decode cX5_swap 56 = .ok (.iaload, 1) := by decide +kernel
theorem dX5_swap_57 : decode cX5_swap 57 = .ok (.iastore, 1) := by decide +kernel
theorem dX5_swap_58 : decode cX5_swap 58 = .ok (.aload_n 0, 1) := by decide +kernel
theorem dX5_swap_59 : decode cX5_swap 59 = .ok (.getfield 11, 3) := by decide +kernel
theorem dX5_swap_62 : decode cX5_swap 62 = .ok (.iload_n 1, 1) := by decide +kernel
theorem dX5_swap_63 : decode cX5_swap 63 = .ok (.aaload, 1) := by decide +kernel
theorem dX5_swap_64 : decode cX5_swap 64 = .ok (.iload_n 3, 1) := by decide +kernel
theorem dX5_swap_65 : decode cX5_swap 65 = .ok (.iload 4, 2) := by decide +kernel
theorem dX5_swap_67 : decode cX5_swap 67 = .ok (.iastore, 1) := by decide +kernel
theorem dX5_swap_68 : decode cX5_swap 68 = .ok (.aload_n 0, 1) := by decide +kernel
theorem dX5_swap_69 : decode cX5_swap 69 = .ok (.getfield 40, 3) := by decide +kernel
theorem dX5_swap_72 : decode cX5_swap 72 = .ok (.iload_n 1, 1) := by decide +kernel
theorem dX5_swap_73 : decode cX5_swap 73 = .ok (.dup2, 1) := by decide +kernel
theorem dX5_swap_74 : decode cX5_swap 74 = .ok (.iaload, 1) := by decide +kernel
theorem dX5_swap_75 : decode cX5_swap 75 = .ok (.iconst 1, 1) := by decide +kernel
theorem dX5_swap_76 : decode cX5_swap 76 = .ok (.iadd, 1) := by decide +kernel
theorem dX5_swap_77 : decode cX5_swap 77 = .ok (.iastore, 1) := by decide +kernel
theorem dX5_swap_78 : decode cX5_swap 78 = .ok (.aload_n 0, 1) := by decide +kernel
theorem dX5_swap_79 : decode cX5_swap 79 = .ok (.getfield 11, 3) := by decide +kernel
theorem dX5_swap_82 : decode cX5_swap 82 = .ok (.iload_n 1, 1) := by decide +kernel
theorem dX5_swap_83 : decode cX5_swap 83 = .ok (.aaload, 1) := by decide +kernel
theorem dX5_swap_84 : decode cX5_swap 84 = .ok (.iload_n 2, 1) := by decide +kernel
theorem dX5_swap_85 : decode cX5_swap 85 = .ok (.iaload, 1) := by decide +kernel
theorem dX5_swap_86 : decode cX5_swap 86 = .ok (.ireturn, 1) := by decide +kernel
theorem dX5_fill_0 : decode cX5_fill 0 = .ok (.aload_n 0, 1) := by decide +kernel
theorem dX5_fill_1 : decode cX5_fill 1 = .ok (.iload_n 1, 1) := by decide +kernel
theorem dX5_fill_2 : decode cX5_fill 2 = .ok (.invokestatic 70, 3) := by decide +kernel
theorem dX5_fill_5 : decode cX5_fill 5 = .ok (.iload_n 2, 1) := by decide +kernel
theorem dX5_fill_6 : decode cX5_fill 6 = .ok (.invokestatic 93, 3) := by decide +kernel
theorem dX5_fill_9 : decode cX5_fill 9 = .ok (.invokevirtual 107, 3) := by decide +kernel
theorem dX5_fill_12 : decode cX5_fill 12 = .ok (.ifCond .eq 5, 3) := by decide +kernel
theorem dX5_fill_15 : decode cX5_fill 15 = .ok (.iconst 0, 1) := by decide +kernel
theorem dX5_fill_16 : decode cX5_fill 16 = .ok (.ireturn, 1) := by decide +kernel
theorem dX5_fill_17 : decode cX5_fill 17 = .ok (.iconst 0, 1) := by decide +kernel
theorem dX5_fill_18 : decode cX5_fill 18 = .ok (.istore_n 3, 1) := by decide +kernel
theorem dX5_fill_19 : decode cX5_fill 19 = .ok (.iload_n 3, 1) := by decide +kernel
theorem dX5_fill_20 : decode cX5_fill 20 = .ok (.aload_n 0, 1) := by decide +kernel
theorem dX5_fill_21 : decode cX5_fill 21 = .ok (.getfield 14, 3) := by decide +kernel
theorem dX5_fill_24 : decode cX5_fill 24 = .ok (.iload_n 1, 1) := by decide +kernel
theorem dX5_fill_25 : decode cX5_fill 25 = .ok (.iaload, 1) := by decide +kernel
theorem dX5_fill_26 : decode cX5_fill 26 = .ok (.if_icmp .ge 18, 3) := by decide +kernel
theorem dX5_fill_29 : decode cX5_fill 29 = .ok (.aload_n 0, 1) := by decide +kernel
theorem dX5_fill_30 : decode cX5_fill 30 = .ok (.getfield 11, 3) := by decide +kernel
theorem dX5_fill_33 : decode cX5_fill 33 = .ok (.iload_n 1, 1) := by decide +kernel
theorem dX5_fill_34 : decode cX5_fill 34 = .ok (.aaload, 1) := by decide +kernel
theorem dX5_fill_35 : decode cX5_fill 35 = .ok (.iload_n 3, 1) := by decide +kernel
theorem dX5_fill_36 : decode cX5_fill 36 = .ok (.iload_n 2, 1) := by decide +kernel
theorem dX5_fill_37 : decode cX5_fill 37 = .ok (.iastore, 1) := by decide +kernel
theorem dX5_fill_38 : decode cX5_fill 38 = .ok (.iinc 3 1, 3) := by decide +kernel
theorem dX5_fill_41 : decode cX5_fill 41 = .ok (.goto (-22), 3) := by decide +kernel
theorem dX5_fill_44 : decode cX5_fill 44 = .ok (.aload_n 0, 1) := by decide +kernel
theorem dX5_fill_45 : decode cX5_fill 45 = .ok (.getfield 40, 3) := by decide +kernel
theorem dX5_fill_48 : decode cX5_fill 48 = .ok (.iload_n 1, 1) := by decide +kernel
theorem dX5_fill_49 : decode cX5_fill 49 = .ok (.dup2, 1) := by decide +kernel
theorem dX5_fill_50 : decode cX5_fill 50 = .ok (.iaload, 1) := by decide +kernel
theorem dX5_fill_51 : decode cX5_fill 51 = .ok (.iconst 1, 1) := by decide +kernel
theorem dX5_fill_52 : decode cX5_fill 52 = .ok (.iadd, 1) := by decide +kernel
theorem dX5_fill_53 : decode cX5_fill 53 = .ok (.iastore, 1) := by decide +kernel
theorem dX5_fill_54 : decode cX5_fill 54 = .ok (.aload_n 0, 1) := by decide +kernel
theorem dX5_fill_55 : decode cX5_fill 55 = .ok (.getfield 14, 3) := by decide +kernel
theorem dX5_fill_58 : decode cX5_fill 58 = .ok (.iload_n 1, 1) := by decide +kernel
theorem dX5_fill_59 : decode cX5_fill 59 = .ok (.iaload, 1) := by decide +kernel
theorem dX5_fill_60 : decode cX5_fill 60 = .ok (.ireturn, 1) := by decide +kernel
theorem dX5_replace_0 : decode cX5_replace 0 = .ok (.aload_n 0, 1) := by decide +kernel
theorem dX5_replace_1 : decode cX5_replace 1 = .ok (.iload_n 1, 1) := by decide +kernel
theorem dX5_replace_2 : decode cX5_replace 2 = .ok (.invokestatic 70, 3) := by decide +kernel
theorem dX5_replace_5 : decode cX5_replace 5 = .ok (.iload_n 2, 1) := by decide +kernel
theorem dX5_replace_6 : decode cX5_replace 6 = .ok (.invokestatic 93, 3) := by decide +kernel
theorem dX5_replace_9 : decode cX5_replace 9 = .ok (.ifCond .ne 10, 3) := by decide +kernel
theorem dX5_replace_12 : decode cX5_replace 12 = .ok (.iload_n 3, 1) := by decide +kernel
theorem dX5_replace_13 : decode cX5_replace 13 = .ok (.invokestatic 93, 3) := by decide +kernel
theorem dX5_replace_16 : decode cX5_replace 16 = .ok (.ifCond .eq 7, 3) := by decide +kernel
theorem dX5_replace_19 : decode cX5_replace 19 = .ok (.iconst 1, 1) := by decide +kernel
theorem dX5_replace_20 : decode cX5_replace 20 = .ok (.goto 4, 3) := by decide +kernel
theorem dX5_replace_23 : decode cX5_replace 23 = .ok (.iconst 0, 1) := by decide +kernel
theorem dX5_replace_24 : decode cX5_replace 24 = .ok (.invokevirtual 107, 3) := by decide +kernel
theorem dX5_replace_27 : decode cX5_replace 27 = .ok (.ifCond .eq 5, 3) := by decide +kernel
theorem dX5_replace_30 : decode cX5_replace 30 = .ok (.iconst 0, 1) := by decide +kernel
theorem dX5_replace_31 : decode cX5_replace 31 = .ok (.ireturn, 1) := by decide +kernel
theorem dX5_replace_32 : decode cX5_replace 32 = .ok (.aload_n 0, 1) := by decide +kernel
theorem dX5_replace_33 : decode cX5_replace 33 = .ok (.iload_n 1, 1) := by decide +kernel
theorem dX5_replace_34 : decode cX5_replace 34 = .ok (.iload_n 2, 1) := by decide +kernel
theorem dX5_replace_35 : decode cX5_replace 35 = .ok (.invokevirtual 73, 3) := by decide +kernel
theorem dX5_replace_38 : decode cX5_replace 38 = .ok (.ifCond .le 7, 3) := by decide +kernel
theorem dX5_replace_41 : decode cX5_replace 41 = .ok (.iconst 1, 1) := by decide +kernel
theorem dX5_replace_42 : decode cX5_replace 42 = .ok (.goto 4, 3) := by decide +kernel
theorem dX5_replace_45 : decode cX5_replace 45 = .ok (.iconst 0, 1) := by decide +kernel
theorem dX5_replace_46 : decode cX5_replace 46 = .ok (.istore 4, 2) := by decide +kernel
theorem dX5_replace_48 : decode cX5_replace 48 = .ok (.iconst 0, 1) := by decide +kernel
theorem dX5_replace_49 : decode cX5_replace 49 = .ok (.istore 5, 2) := by decide +kernel
theorem dX5_replace_51 : decode cX5_replace 51 = .ok (.iload 5, 2) := by decide +kernel
theorem dX5_replace_53 : decode cX5_replace 53 = .ok (.aload_n 0, 1) := by decide +kernel
theorem dX5_replace_54 : decode cX5_replace 54 = .ok (.getfield 14, 3) := by decide +kernel
theorem dX5_replace_57 : decode cX5_replace 57 = .ok (.iload_n 1, 1) := by decide +kernel
theorem dX5_replace_58 : decode cX5_replace 58 = .ok (.iaload, 1) := by decide +kernel
theorem dX5_replace_59 : decode cX5_replace 59 = .ok (.if_icmp .ge 44, 3) := by decide +kernel
theorem dX5_replace_62 : decode cX5_replace 62 = .ok (.aload_n 0, 1) := by decide +kernel
theorem dX5_replace_63 : decode cX5_replace 63 = .ok (.getfield 11, 3) := by decide +kernel
theorem dX5_replace_66 : decode cX5_replace 66 = .ok (.iload_n 1, 1) := by decide +kernel
theorem dX5_replace_67 : decode cX5_replace 67 = .ok (.aaload, 1) := by decide +kernel
theorem dX5_replace_68 : decode cX5_replace 68 = .ok (.iload 5, 2) := by decide +kernel
theorem dX5_replace_70 : decode cX5_replace 70 = .ok (.aload_n 0, 1) := by decide +kernel
theorem dX5_replace_71 : decode cX5_replace 71 = .ok (.getfield 11, 3) := by decide +kernel
theorem dX5_replace_74 : decode cX5_replace 74 = .ok (.iload_n 1, 1) := by decide +kernel
theorem dX5_replace_75 : decode cX5_replace 75 = .ok (.aaload, 1) := by decide +kernel
theorem dX5_replace_76 : decode cX5_replace 76 = .ok (.iload 5, 2) := by decide +kernel
theorem dX5_replace_78 : decode cX5_replace 78 = .ok (.iaload, 1) := by decide +kernel
theorem dX5_replace_79 : decode cX5_replace 79 = .ok (.iload_n 2, 1) := by decide +kernel
theorem dX5_replace_80 : decode cX5_replace 80 = .ok (.if_icmp .ne 7, 3) := by decide +kernel
theorem dX5_replace_83 : decode cX5_replace 83 = .ok (.iload_n 3, 1) := by decide +kernel
theorem dX5_replace_84 : decode cX5_replace 84 = .ok (.goto 12, 3) := by decide +kernel
theorem dX5_replace_87 : decode cX5_replace 87 = .ok (.aload_n 0, 1) := by decide +kernel
theorem dX5_replace_88 : decode cX5_replace 88 = .ok (.getfield 11, 3) := by decide +kernel
theorem dX5_replace_91 : decode cX5_replace 91 = .ok (.iload_n 1, 1) := by decide +kernel
theorem dX5_replace_92 : decode cX5_replace 92 = .ok (.aaload, 1) := by decide +kernel
theorem dX5_replace_93 : decode cX5_replace 93 = .ok (.iload 5, 2) := by decide +kernel
theorem dX5_replace_95 : decode cX5_replace 95 = .ok (.iaload, 1) := by decide +kernel
theorem dX5_replace_96 : decode cX5_replace 96 = .ok (.iastore, 1) := by decide +kernel
theorem dX5_replace_97 : decode cX5_replace 97 = .ok (.iinc 5 1, 3) := by decide +kernel
theorem dX5_replace_100 : decode cX5_replace 100 = .ok (.goto (-49), 3) := by decide +kernel
theorem dX5_replace_103 : decode cX5_replace 103 = .ok (.aload_n 0, 1) := by decide +kernel
theorem dX5_replace_104 : decode cX5_replace 104 = .ok (.getfield 40, 3) := by decide +kernel
theorem dX5_replace_107 : decode cX5_replace 107 = .ok (.iload_n 1, 1) := by decide +kernel
theorem dX5_replace_108 : decode cX5_replace 108 = .ok (.dup2, 1) := by decide +kernel
theorem dX5_replace_109 : decode cX5_replace 109 = .ok (.iaload, 1) := by decide +kernel
theorem dX5_replace_110 : decode cX5_replace 110 = .ok (.iconst 1, 1) := by decide +kernel
theorem dX5_replace_111 : decode cX5_replace 111 = .ok (.iadd, 1) := by decide +kernel
theorem dX5_replace_112 : decode cX5_replace 112 = .ok (.iastore, 1) := by decide +kernel
theorem dX5_replace_113 : decode cX5_replace 113 = .ok (.iload 4, 2) := by decide +kernel
theorem dX5_replace_115 : decode cX5_replace 115 = .ok (.invokestatic 77, 3) := by decide +kernel
theorem dX5_replace_118 : decode cX5_replace 118 = .ok (.ireturn, 1) := by decide +kernel
theorem dX5_copies_0 : decode cX5_copies 0 = .ok (.aload_n 0, 1) := by decide +kernel
theorem dX5_copies_1 : decode cX5_copies 1 = .ok (.iload_n 1, 1) := by decide +kernel
theorem dX5_copies_2 : decode cX5_copies 2 = .ok (.invokestatic 70, 3) := by decide +kernel
theorem dX5_copies_5 : decode cX5_copies 5 = .ok (.iload_n 2, 1) := by decide +kernel
theorem dX5_copies_6 : decode cX5_copies 6 = .ok (.invokestatic 93, 3) := by decide +kernel
theorem dX5_copies_9 : decode cX5_copies 9 = .ok (.ifCond .ne 13, 3) := by decide +kernel
theorem dX5_copies_12 : decode cX5_copies 12 = .ok (.iload_n 3, 1) := by decide +kernel
theorem dX5_copies_13 : decode cX5_copies 13 = .ok (.iconst 0, 1) := by decide +kernel
theorem dX5_copies_14 : decode cX5_copies 14 = .ok (.bipush 12, 2) := by decide +kernel
theorem dX5_copies_16 : decode cX5_copies 16 = .ok (.invokestatic 59, 3) := by decide +kernel
theorem dX5_copies_19 : decode cX5_copies 19 = .ok (.ifCond .ne 7, 3) := by decide +kernel
theorem dX5_copies_22 : decode cX5_copies 22 = .ok (.iconst 1, 1) := by decide +kernel
theorem dX5_copies_23 : decode cX5_copies 23 = .ok (.goto 4, 3) := by decide +kernel
theorem dX5_copies_26 : decode cX5_copies 26 = .ok (.iconst 0, 1) := by decide +kernel
theorem dX5_copies_27 : decode cX5_copies 27 = .ok (.iload_n 1, 1) := by decide +kernel
theorem dX5_copies_28 : decode cX5_copies 28 = .ok (.invokestatic 70, 3) := by decide +kernel
theorem dX5_copies_31 : decode cX5_copies 31 = .ok (.ifCond .ne 30, 3) := by decide +kernel
theorem dX5_copies_34 : decode cX5_copies 34 = .ok (.iload_n 3, 1) := by decide +kernel
theorem dX5_copies_35 : decode cX5_copies 35 = .ok (.iconst 0, 1) := by decide +kernel
theorem dX5_copies_36 : decode cX5_copies 36 = .ok (.bipush 12, 2) := by decide +kernel
theorem dX5_copies_38 : decode cX5_copies 38 = .ok (.invokestatic 59, 3) := by decide +kernel
theorem dX5_copies_41 : decode cX5_copies 41 = .ok (.ifCond .eq 20, 3) := by decide +kernel
theorem dX5_copies_44 : decode cX5_copies 44 = .ok (.aload_n 0, 1) := by decide +kernel
theorem dX5_copies_45 : decode cX5_copies 45 = .ok (.getfield 14, 3) := by decide +kernel
theorem dX5_copies_48 : decode cX5_copies 48 = .ok (.iload_n 1, 1) := by decide +kernel
theorem dX5_copies_49 : decode cX5_copies 49 = .ok (.iaload, 1) := by decide +kernel
theorem dX5_copies_50 : decode cX5_copies 50 = .ok (.iload_n 3, 1) := by decide +kernel
theorem dX5_copies_51 : decode cX5_copies 51 = .ok (.iadd, 1) := by decide +kernel
theorem dX5_copies_52 : decode cX5_copies 52 = .ok (.bipush 12, 2) := by decide +kernel
theorem dX5_copies_54 : decode cX5_copies 54 = .ok (.if_icmp .le 7, 3) := by decide +kernel
theorem dX5_copies_57 : decode cX5_copies 57 = .ok (.iconst 1, 1) := by decide +kernel
theorem dX5_copies_58 : decode cX5_copies 58 = .ok (.goto 4, 3) := by decide +kernel
theorem dX5_copies_61 : decode cX5_copies 61 = .ok (.iconst 0, 1) := by decide +kernel
theorem dX5_copies_62 : decode cX5_copies 62 = .ok (.invokevirtual 50, 3) := by decide +kernel
theorem dX5_copies_65 : decode cX5_copies 65 = .ok (.ifCond .eq 5, 3) := by decide +kernel
theorem dX5_copies_68 : decode cX5_copies 68 = .ok (.iconst 0, 1) := by decide +kernel
theorem dX5_copies_69 : decode cX5_copies 69 = .ok (.ireturn, 1) := by decide +kernel
theorem dX5_copies_70 : decode cX5_copies 70 = .ok (.iconst 0, 1) := by decide +kernel
theorem dX5_copies_71 : decode cX5_copies 71 = .ok (.istore 4, 2) := by decide +kernel
theorem dX5_copies_73 : decode cX5_copies 73 = .ok (.iload 4, 2) := by decide +kernel
theorem dX5_copies_75 : decode cX5_copies 75 = .ok (.iload_n 3, 1) := by decide +kernel
theorem dX5_copies_76 : decode cX5_copies 76 = .ok (.if_icmp .ge 21, 3) := by decide +kernel
theorem dX5_copies_79 : decode cX5_copies 79 = .ok (.aload_n 0, 1) := by decide +kernel
theorem dX5_copies_80 : decode cX5_copies 80 = .ok (.iload_n 1, 1) := by decide +kernel
theorem dX5_copies_81 : decode cX5_copies 81 = .ok (.aload_n 0, 1) := by decide +kernel
theorem dX5_copies_82 : decode cX5_copies 82 = .ok (.getfield 14, 3) := by decide +kernel
theorem dX5_copies_85 : decode cX5_copies 85 = .ok (.iload_n 1, 1) := by decide +kernel
theorem dX5_copies_86 : decode cX5_copies 86 = .ok (.iaload, 1) := by decide +kernel
theorem dX5_copies_87 : decode cX5_copies 87 = .ok (.iload_n 2, 1) := by decide +kernel
theorem dX5_copies_88 : decode cX5_copies 88 = .ok (.invokevirtual 85, 3) := by decide +kernel
theorem dX5_copies_91 : decode cX5_copies 91 = .ok (.iinc 4 1, 3) := by decide +kernel
theorem dX5_copies_94 : decode cX5_copies 94 = .ok (.goto (-21), 3) := by decide +kernel
theorem dX5_copies_97 : decode cX5_copies 97 = .ok (.aload_n 0, 1) := by decide +kernel
theorem dX5_copies_98 : decode cX5_copies 98 = .ok (.getfield 14, 3) := by decide +kernel
theorem dX5_copies_101 : decode cX5_copies 101 = .ok (.iload_n 1, 1) := by decide +kernel
theorem dX5_copies_102 : decode cX5_copies 102 = .ok (.iaload, 1) := by decide +kernel
theorem dX5_copies_103 : decode cX5_copies 103 = .ok (.ireturn, 1) := by decide +kernel
theorem dX5_isNoWalk_0 : decode cX5_isNoWalk 0 = .ok (.iload_n 0, 1) := by decide +kernel
theorem dX5_isNoWalk_1 : decode cX5_isNoWalk 1 = .ok (.iconst 0, 1) := by decide +kernel
theorem dX5_isNoWalk_2 : decode cX5_isNoWalk 2 = .ok (.iconst 5, 1) := by decide +kernel
theorem dX5_isNoWalk_3 : decode cX5_isNoWalk 3 = .ok (.invokestatic 59, 3) := by decide +kernel
theorem dX5_isNoWalk_6 : decode cX5_isNoWalk 6 = .ok (.ifCond .ne 7, 3) := by decide +kernel
theorem dX5_isNoWalk_9 : decode cX5_isNoWalk 9 = .ok (.iconst 1, 1) := by decide +kernel
theorem dX5_isNoWalk_10 : decode cX5_isNoWalk 10 = .ok (.goto 4, 3) := by decide +kernel
theorem dX5_isNoWalk_13 : decode cX5_isNoWalk 13 = .ok (.iconst 0, 1) := by decide +kernel
theorem dX5_isNoWalk_14 : decode cX5_isNoWalk 14 = .ok (.ireturn, 1) := by decide +kernel
theorem dX5_isUnmade_0 : decode cX5_isUnmade 0 = .ok (.iload_n 1, 1) := by decide +kernel
theorem dX5_isUnmade_1 : decode cX5_isUnmade 1 = .ok (.invokestatic 133, 3) := by decide +kernel
theorem dX5_isUnmade_4 : decode cX5_isUnmade 4 = .ok (.ifCond .ne 17, 3) := by decide +kernel
theorem dX5_isUnmade_7 : decode cX5_isUnmade 7 = .ok (.aload_n 0, 1) := by decide +kernel
theorem dX5_isUnmade_8 : decode cX5_isUnmade 8 = .ok (.getfield 21, 3) := by decide +kernel
theorem dX5_isUnmade_11 : decode cX5_isUnmade 11 = .ok (.iload_n 1, 1) := by decide +kernel
theorem dX5_isUnmade_12 : decode cX5_isUnmade 12 = .ok (.iaload, 1) := by decide +kernel
theorem dX5_isUnmade_13 : decode cX5_isUnmade 13 = .ok (.iconst (-1), 1) := by decide +kernel
theorem dX5_isUnmade_14 : decode cX5_isUnmade 14 = .ok (.if_icmp .ne 7, 3) := by decide +kernel
theorem dX5_isUnmade_17 : decode cX5_isUnmade 17 = .ok (.iconst 1, 1) := by decide +kernel
theorem dX5_isUnmade_18 : decode cX5_isUnmade 18 = .ok (.goto 4, 3) := by decide +kernel
theorem dX5_isUnmade_21 : decode cX5_isUnmade 21 = .ok (.iconst 0, 1) := by decide +kernel
theorem dX5_isUnmade_22 : decode cX5_isUnmade 22 = .ok (.ireturn, 1) := by decide +kernel
theorem dX5_isStale_0 : decode cX5_isStale 0 = .ok (.aload_n 0, 1) := by decide +kernel
theorem dX5_isStale_1 : decode cX5_isStale 1 = .ok (.getfield 30, 3) := by decide +kernel
theorem dX5_isStale_4 : decode cX5_isStale 4 = .ok (.iload_n 1, 1) := by decide +kernel
theorem dX5_isStale_5 : decode cX5_isStale 5 = .ok (.iaload, 1) := by decide +kernel
theorem dX5_isStale_6 : decode cX5_isStale 6 = .ok (.aload_n 0, 1) := by decide +kernel
theorem dX5_isStale_7 : decode cX5_isStale 7 = .ok (.getfield 18, 3) := by decide +kernel
theorem dX5_isStale_10 : decode cX5_isStale 10 = .ok (.aload_n 0, 1) := by decide +kernel
theorem dX5_isStale_11 : decode cX5_isStale 11 = .ok (.getfield 21, 3) := by decide +kernel
theorem dX5_isStale_14 : decode cX5_isStale 14 = .ok (.iload_n 1, 1) := by decide +kernel
theorem dX5_isStale_15 : decode cX5_isStale 15 = .ok (.iaload, 1) := by decide +kernel
theorem dX5_isStale_16 : decode cX5_isStale 16 = .ok (.iaload, 1) := by decide +kernel
theorem dX5_isStale_17 : decode cX5_isStale 17 = .ok (.if_icmp .eq 7, 3) := by decide +kernel
theorem dX5_isStale_20 : decode cX5_isStale 20 = .ok (.iconst 1, 1) := by decide +kernel
theorem dX5_isStale_21 : decode cX5_isStale 21 = .ok (.goto 4, 3) := by decide +kernel
theorem dX5_isStale_24 : decode cX5_isStale 24 = .ok (.iconst 0, 1) := by decide +kernel
theorem dX5_isStale_25 : decode cX5_isStale 25 = .ok (.ireturn, 1) := by decide +kernel
theorem dX5_hasMore_0 : decode cX5_hasMore 0 = .ok (.aload_n 0, 1) := by decide +kernel
theorem dX5_hasMore_1 : decode cX5_hasMore 1 = .ok (.getfield 33, 3) := by decide +kernel
theorem dX5_hasMore_4 : decode cX5_hasMore 4 = .ok (.iload_n 1, 1) := by decide +kernel
theorem dX5_hasMore_5 : decode cX5_hasMore 5 = .ok (.iaload, 1) := by decide +kernel
theorem dX5_hasMore_6 : decode cX5_hasMore 6 = .ok (.aload_n 0, 1) := by decide +kernel
theorem dX5_hasMore_7 : decode cX5_hasMore 7 = .ok (.getfield 14, 3) := by decide +kernel
theorem dX5_hasMore_10 : decode cX5_hasMore 10 = .ok (.aload_n 0, 1) := by decide +kernel
theorem dX5_hasMore_11 : decode cX5_hasMore 11 = .ok (.getfield 21, 3) := by decide +kernel
theorem dX5_hasMore_14 : decode cX5_hasMore 14 = .ok (.iload_n 1, 1) := by decide +kernel
theorem dX5_hasMore_15 : decode cX5_hasMore 15 = .ok (.iaload, 1) := by decide +kernel
theorem dX5_hasMore_16 : decode cX5_hasMore 16 = .ok (.iaload, 1) := by decide +kernel
theorem dX5_hasMore_17 : decode cX5_hasMore 17 = .ok (.if_icmp .ge 7, 3) := by decide +kernel
theorem dX5_hasMore_20 : decode cX5_hasMore 20 = .ok (.iconst 1, 1) := by decide +kernel
theorem dX5_hasMore_21 : decode cX5_hasMore 21 = .ok (.goto 4, 3) := by decide +kernel
theorem dX5_hasMore_24 : decode cX5_hasMore 24 = .ok (.iconst 0, 1) := by decide +kernel
theorem dX5_hasMore_25 : decode cX5_hasMore 25 = .ok (.ireturn, 1) := by decide +kernel
theorem dX5_give_0 : decode cX5_give 0 = .ok (.aload_n 0, 1) := by decide +kernel
theorem dX5_give_1 : decode cX5_give 1 = .ok (.getfield 11, 3) := by decide +kernel
theorem dX5_give_4 : decode cX5_give 4 = .ok (.aload_n 0, 1) := by decide +kernel
theorem dX5_give_5 : decode cX5_give 5 = .ok (.getfield 21, 3) := by decide +kernel
theorem dX5_give_8 : decode cX5_give 8 = .ok (.iload_n 1, 1) := by decide +kernel
theorem dX5_give_9 : decode cX5_give 9 = .ok (.iaload, 1) := by decide +kernel
theorem dX5_give_10 : decode cX5_give 10 = .ok (.aaload, 1) := by decide +kernel
theorem dX5_give_11 : decode cX5_give 11 = .ok (.aload_n 0, 1) := by decide +kernel
theorem dX5_give_12 : decode cX5_give 12 = .ok (.getfield 33, 3) := by decide +kernel
theorem dX5_give_15 : decode cX5_give 15 = .ok (.iload_n 1, 1) := by decide +kernel
theorem dX5_give_16 : decode cX5_give 16 = .ok (.iaload, 1) := by decide +kernel
theorem dX5_give_17 : decode cX5_give 17 = .ok (.iaload, 1) := by decide +kernel
theorem dX5_give_18 : decode cX5_give 18 = .ok (.istore_n 2, 1) := by decide +kernel
theorem dX5_give_19 : decode cX5_give 19 = .ok (.aload_n 0, 1) := by decide +kernel
theorem dX5_give_20 : decode cX5_give 20 = .ok (.getfield 33, 3) := by decide +kernel
theorem dX5_give_23 : decode cX5_give 23 = .ok (.iload_n 1, 1) := by decide +kernel
theorem dX5_give_24 : decode cX5_give 24 = .ok (.dup2, 1) := by decide +kernel
theorem dX5_give_25 : decode cX5_give 25 = .ok (.iaload, 1) := by decide +kernel
theorem dX5_give_26 : decode cX5_give 26 = .ok (.iconst 1, 1) := by decide +kernel
theorem dX5_give_27 : decode cX5_give 27 = .ok (.iadd, 1) := by decide +kernel
theorem dX5_give_28 : decode cX5_give 28 = .ok (.iastore, 1) := by decide +kernel
theorem dX5_give_29 : decode cX5_give 29 = .ok (.aload_n 0, 1) := by decide +kernel
theorem dX5_give_30 : decode cX5_give 30 = .ok (.getfield 27, 3) := by decide +kernel
theorem dX5_give_33 : decode cX5_give 33 = .ok (.iload_n 1, 1) := by decide +kernel
theorem dX5_give_34 : decode cX5_give 34 = .ok (.dup2, 1) := by decide +kernel
theorem dX5_give_35 : decode cX5_give 35 = .ok (.iaload, 1) := by decide +kernel
theorem dX5_give_36 : decode cX5_give 36 = .ok (.iconst 1, 1) := by decide +kernel
theorem dX5_give_37 : decode cX5_give 37 = .ok (.iadd, 1) := by decide +kernel
theorem dX5_give_38 : decode cX5_give 38 = .ok (.iastore, 1) := by decide +kernel
theorem dX5_give_39 : decode cX5_give 39 = .ok (.aload_n 0, 1) := by decide +kernel
theorem dX5_give_40 : decode cX5_give 40 = .ok (.getfield 36, 3) := by decide +kernel
theorem dX5_give_43 : decode cX5_give 43 = .ok (.iload_n 1, 1) := by decide +kernel
theorem dX5_give_44 : decode cX5_give 44 = .ok (.iconst 1, 1) := by decide +kernel
theorem dX5_give_45 : decode cX5_give 45 = .ok (.bastore, 1) := by decide +kernel
theorem dX5_give_46 : decode cX5_give 46 = .ok (.aload_n 0, 1) := by decide +kernel
theorem dX5_give_47 : decode cX5_give 47 = .ok (.getfield 43, 3) := by decide +kernel
theorem dX5_give_50 : decode cX5_give 50 = .ok (.iload_n 1, 1) := by decide +kernel
theorem dX5_give_51 : decode cX5_give 51 = .ok (.aload_n 0, 1) := by decide +kernel
theorem dX5_give_52 : decode cX5_give 52 = .ok (.getfield 40, 3) := by decide +kernel
theorem dX5_give_55 : decode cX5_give 55 = .ok (.aload_n 0, 1) := by decide +kernel
theorem dX5_give_56 : decode cX5_give 56 = .ok (.getfield 21, 3) := by decide +kernel
theorem dX5_give_59 : decode cX5_give 59 = .ok (.iload_n 1, 1) := by decide +kernel
theorem dX5_give_60 : decode cX5_give 60 = .ok (.iaload, 1) := by decide +kernel
theorem dX5_give_61 : decode cX5_give 61 = .ok (.iaload, 1) := by decide +kernel
theorem dX5_give_62 : decode cX5_give 62 = .ok (.iastore, 1) := by decide +kernel
theorem dX5_give_63 : decode cX5_give 63 = .ok (.iload_n 2, 1) := by decide +kernel
theorem dX5_give_64 : decode cX5_give 64 = .ok (.ireturn, 1) := by decide +kernel
theorem dX5_walk_0 : decode cX5_walk 0 = .ok (.aload_n 0, 1) := by decide +kernel
theorem dX5_walk_1 : decode cX5_walk 1 = .ok (.iload_n 1, 1) := by decide +kernel
theorem dX5_walk_2 : decode cX5_walk 2 = .ok (.invokestatic 133, 3) := by decide +kernel
theorem dX5_walk_5 : decode cX5_walk 5 = .ok (.ifCond .ne 10, 3) := by decide +kernel
theorem dX5_walk_8 : decode cX5_walk 8 = .ok (.iload_n 2, 1) := by decide +kernel
theorem dX5_walk_9 : decode cX5_walk 9 = .ok (.invokestatic 63, 3) := by decide +kernel
theorem dX5_walk_12 : decode cX5_walk 12 = .ok (.ifCond .eq 7, 3) := by decide +kernel
theorem dX5_walk_15 : decode cX5_walk 15 = .ok (.iconst 1, 1) := by decide +kernel
theorem dX5_walk_16 : decode cX5_walk 16 = .ok (.goto 4, 3) := by decide +kernel
theorem dX5_walk_19 : decode cX5_walk 19 = .ok (.iconst 0, 1) := by decide +kernel
theorem dX5_walk_20 : decode cX5_walk 20 = .ok (.iload_n 3, 1) := by decide +kernel
theorem dX5_walk_21 : decode cX5_walk 21 = .ok (.iconst 0, 1) := by decide +kernel
theorem dX5_walk_22 : decode cX5_walk 22 = .ok (.iconst 2, 1) := by decide +kernel
theorem dX5_walk_23 : decode cX5_walk 23 = .ok (.invokestatic 59, 3) := by decide +kernel
theorem dX5_walk_26 : decode cX5_walk 26 = .ok (.ifCond .eq 12, 3) := by decide +kernel
theorem dX5_walk_29 : decode cX5_walk 29 = .ok (.iload_n 3, 1) := by decide +kernel
theorem dX5_walk_30 : decode cX5_walk 30 = .ok (.iconst 2, 1) := by decide +kernel
theorem dX5_walk_31 : decode cX5_walk 31 = .ok (.if_icmp .ne 11, 3) := by decide +kernel
theorem dX5_walk_34 : decode cX5_walk 34 = .ok (.iload_n 2, 1) := by decide +kernel
theorem dX5_walk_35 : decode cX5_walk 35 = .ok (.ifCond .eq 7, 3) := by decide +kernel
theorem dX5_walk_38 : decode cX5_walk 38 = .ok (.iconst 1, 1) := by decide +kernel
theorem dX5_walk_39 : decode cX5_walk 39 = .ok (.goto 4, 3) := by decide +kernel
theorem dX5_walk_42 : decode cX5_walk 42 = .ok (.iconst 0, 1) := by decide +kernel
theorem dX5_walk_43 : decode cX5_walk 43 = .ok (.invokevirtual 107, 3) := by decide +kernel
theorem dX5_walk_46 : decode cX5_walk 46 = .ok (.ifCond .eq 5, 3) := by decide +kernel
theorem dX5_walk_49 : decode cX5_walk 49 = .ok (.iconst 0, 1) := by decide +kernel
theorem dX5_walk_50 : decode cX5_walk 50 = .ok (.ireturn, 1) := by decide +kernel
theorem dX5_walk_51 : decode cX5_walk 51 = .ok (.aload_n 0, 1) := by decide +kernel
theorem dX5_walk_52 : decode cX5_walk 52 = .ok (.getfield 21, 3) := by decide +kernel
theorem dX5_walk_55 : decode cX5_walk 55 = .ok (.iload_n 1, 1) := by decide +kernel
theorem dX5_walk_56 : decode cX5_walk 56 = .ok (.iload_n 2, 1) := by decide +kernel
theorem dX5_walk_57 : decode cX5_walk 57 = .ok (.iastore, 1) := by decide +kernel
theorem dX5_walk_58 : decode cX5_walk 58 = .ok (.aload_n 0, 1) := by decide +kernel
theorem dX5_walk_59 : decode cX5_walk 59 = .ok (.getfield 24, 3) := by decide +kernel
theorem dX5_walk_62 : decode cX5_walk 62 = .ok (.iload_n 1, 1) := by decide +kernel
theorem dX5_walk_63 : decode cX5_walk 63 = .ok (.iload_n 3, 1) := by decide +kernel
theorem dX5_walk_64 : decode cX5_walk 64 = .ok (.iastore, 1) := by decide +kernel
theorem dX5_walk_65 : decode cX5_walk 65 = .ok (.aload_n 0, 1) := by decide +kernel
theorem dX5_walk_66 : decode cX5_walk 66 = .ok (.getfield 27, 3) := by decide +kernel
theorem dX5_walk_69 : decode cX5_walk 69 = .ok (.iload_n 1, 1) := by decide +kernel
theorem dX5_walk_70 : decode cX5_walk 70 = .ok (.iconst 0, 1) := by decide +kernel
theorem dX5_walk_71 : decode cX5_walk 71 = .ok (.iastore, 1) := by decide +kernel
theorem dX5_walk_72 : decode cX5_walk 72 = .ok (.aload_n 0, 1) := by decide +kernel
theorem dX5_walk_73 : decode cX5_walk 73 = .ok (.getfield 33, 3) := by decide +kernel
theorem dX5_walk_76 : decode cX5_walk 76 = .ok (.iload_n 1, 1) := by decide +kernel
theorem dX5_walk_77 : decode cX5_walk 77 = .ok (.iconst 0, 1) := by decide +kernel
theorem dX5_walk_78 : decode cX5_walk 78 = .ok (.iastore, 1) := by decide +kernel
theorem dX5_walk_79 : decode cX5_walk 79 = .ok (.aload_n 0, 1) := by decide +kernel
theorem dX5_walk_80 : decode cX5_walk 80 = .ok (.getfield 36, 3) := by decide +kernel
theorem dX5_walk_83 : decode cX5_walk 83 = .ok (.iload_n 1, 1) := by decide +kernel
theorem dX5_walk_84 : decode cX5_walk 84 = .ok (.iconst 0, 1) := by decide +kernel
theorem dX5_walk_85 : decode cX5_walk 85 = .ok (.bastore, 1) := by decide +kernel
theorem dX5_walk_86 : decode cX5_walk 86 = .ok (.aload_n 0, 1) := by decide +kernel
theorem dX5_walk_87 : decode cX5_walk 87 = .ok (.getfield 30, 3) := by decide +kernel
theorem dX5_walk_90 : decode cX5_walk 90 = .ok (.iload_n 1, 1) := by decide +kernel
theorem dX5_walk_91 : decode cX5_walk 91 = .ok (.aload_n 0, 1) := by decide +kernel
theorem dX5_walk_92 : decode cX5_walk 92 = .ok (.getfield 18, 3) := by decide +kernel
theorem dX5_walk_95 : decode cX5_walk 95 = .ok (.iload_n 2, 1) := by decide +kernel
theorem dX5_walk_96 : decode cX5_walk 96 = .ok (.iaload, 1) := by decide +kernel
theorem dX5_walk_97 : decode cX5_walk 97 = .ok (.iastore, 1) := by decide +kernel
theorem dX5_walk_98 : decode cX5_walk 98 = .ok (.aload_n 0, 1) := by decide +kernel
theorem dX5_walk_99 : decode cX5_walk 99 = .ok (.getfield 14, 3) := by decide +kernel
theorem dX5_walk_102 : decode cX5_walk 102 = .ok (.iload_n 2, 1) := by decide +kernel
theorem dX5_walk_103 : decode cX5_walk 103 = .ok (.iaload, 1) := by decide +kernel
theorem dX5_walk_104 : decode cX5_walk 104 = .ok (.ireturn, 1) := by decide +kernel
theorem dX5_next_0 : decode cX5_next 0 = .ok (.aload_n 0, 1) := by decide +kernel
theorem dX5_next_1 : decode cX5_next 1 = .ok (.iload_n 1, 1) := by decide +kernel
theorem dX5_next_2 : decode cX5_next 2 = .ok (.invokestatic 133, 3) := by decide +kernel
theorem dX5_next_5 : decode cX5_next 5 = .ok (.aload_n 0, 1) := by decide +kernel
theorem dX5_next_6 : decode cX5_next 6 = .ok (.iload_n 1, 1) := by decide +kernel
theorem dX5_next_7 : decode cX5_next 7 = .ok (.invokevirtual 136, 3) := by decide +kernel
theorem dX5_next_10 : decode cX5_next 10 = .ok (.invokevirtual 107, 3) := by decide +kernel
theorem dX5_next_13 : decode cX5_next 13 = .ok (.ifCond .eq 5, 3) := by decide +kernel
theorem dX5_next_16 : decode cX5_next 16 = .ok (.iconst 0, 1) := by decide +kernel
theorem dX5_next_17 : decode cX5_next 17 = .ok (.ireturn, 1) := by decide +kernel
theorem dX5_next_18 : decode cX5_next 18 = .ok (.aload_n 0, 1) := by decide +kernel
theorem dX5_next_19 : decode cX5_next 19 = .ok (.iload_n 1, 1) := by decide +kernel
theorem dX5_next_20 : decode cX5_next 20 = .ok (.invokevirtual 139, 3) := by decide +kernel
theorem dX5_next_23 : decode cX5_next 23 = .ok (.ifCond .ne 11, 3) := by decide +kernel
theorem dX5_next_26 : decode cX5_next 26 = .ok (.aload_n 0, 1) := by decide +kernel
theorem dX5_next_27 : decode cX5_next 27 = .ok (.iload_n 1, 1) := by decide +kernel
theorem dX5_next_28 : decode cX5_next 28 = .ok (.invokevirtual 142, 3) := by decide +kernel
theorem dX5_next_31 : decode cX5_next 31 = .ok (.ifCond .ne 10, 3) := by decide +kernel
theorem dX5_next_34 : decode cX5_next 34 = .ok (.aload_n 0, 1) := by decide +kernel
theorem dX5_next_35 : decode cX5_next 35 = .ok (.invokevirtual 99, 3) := by decide +kernel
theorem dX5_next_38 : decode cX5_next 38 = .ok (.goto 8, 3) := by decide +kernel
theorem dX5_next_41 : decode cX5_next 41 = .ok (.aload_n 0, 1) := by decide +kernel
theorem dX5_next_42 : decode cX5_next 42 = .ok (.iload_n 1, 1) := by decide +kernel
theorem dX5_next_43 : decode cX5_next 43 = .ok (.invokevirtual 145, 3) := by decide +kernel
theorem dX5_next_46 : decode cX5_next 46 = .ok (.ireturn, 1) := by decide +kernel
theorem dX5_more_0 : decode cX5_more 0 = .ok (.aload_n 0, 1) := by decide +kernel
theorem dX5_more_1 : decode cX5_more 1 = .ok (.iload_n 1, 1) := by decide +kernel
theorem dX5_more_2 : decode cX5_more 2 = .ok (.invokestatic 133, 3) := by decide +kernel
theorem dX5_more_5 : decode cX5_more 5 = .ok (.aload_n 0, 1) := by decide +kernel
theorem dX5_more_6 : decode cX5_more 6 = .ok (.iload_n 1, 1) := by decide +kernel
theorem dX5_more_7 : decode cX5_more 7 = .ok (.invokevirtual 136, 3) := by decide +kernel
theorem dX5_more_10 : decode cX5_more 10 = .ok (.invokevirtual 107, 3) := by decide +kernel
theorem dX5_more_13 : decode cX5_more 13 = .ok (.ifCond .eq 5, 3) := by decide +kernel
theorem dX5_more_16 : decode cX5_more 16 = .ok (.iconst 0, 1) := by decide +kernel
theorem dX5_more_17 : decode cX5_more 17 = .ok (.ireturn, 1) := by decide +kernel
theorem dX5_more_18 : decode cX5_more 18 = .ok (.aload_n 0, 1) := by decide +kernel
theorem dX5_more_19 : decode cX5_more 19 = .ok (.iload_n 1, 1) := by decide +kernel
theorem dX5_more_20 : decode cX5_more 20 = .ok (.invokevirtual 139, 3) := by decide +kernel
theorem dX5_more_23 : decode cX5_more 23 = .ok (.ifCond .eq 10, 3) := by decide +kernel
theorem dX5_more_26 : decode cX5_more 26 = .ok (.aload_n 0, 1) := by decide +kernel
theorem dX5_more_27 : decode cX5_more 27 = .ok (.invokevirtual 99, 3) := by decide +kernel
theorem dX5_more_30 : decode cX5_more 30 = .ok (.goto 11, 3) := by decide +kernel
theorem dX5_more_33 : decode cX5_more 33 = .ok (.aload_n 0, 1) := by decide +kernel
theorem dX5_more_34 : decode cX5_more 34 = .ok (.iload_n 1, 1) := by decide +kernel
theorem dX5_more_35 : decode cX5_more 35 = .ok (.invokevirtual 142, 3) := by decide +kernel
theorem dX5_more_38 : decode cX5_more 38 = .ok (.invokestatic 77, 3) := by decide +kernel
theorem dX5_more_41 : decode cX5_more 41 = .ok (.ireturn, 1) := by decide +kernel
theorem dX5_takeOut_0 : decode cX5_takeOut 0 = .ok (.aload_n 0, 1) := by decide +kernel
theorem dX5_takeOut_1 : decode cX5_takeOut 1 = .ok (.iload_n 1, 1) := by decide +kernel
theorem dX5_takeOut_2 : decode cX5_takeOut 2 = .ok (.invokestatic 133, 3) := by decide +kernel
theorem dX5_takeOut_5 : decode cX5_takeOut 5 = .ok (.aload_n 0, 1) := by decide +kernel
theorem dX5_takeOut_6 : decode cX5_takeOut 6 = .ok (.iload_n 1, 1) := by decide +kernel
theorem dX5_takeOut_7 : decode cX5_takeOut 7 = .ok (.invokevirtual 136, 3) := by decide +kernel
theorem dX5_takeOut_10 : decode cX5_takeOut 10 = .ok (.invokevirtual 107, 3) := by decide +kernel
theorem dX5_takeOut_13 : decode cX5_takeOut 13 = .ok (.ifCond .eq 5, 3) := by decide +kernel
theorem dX5_takeOut_16 : decode cX5_takeOut 16 = .ok (.iconst 0, 1) := by decide +kernel
theorem dX5_takeOut_17 : decode cX5_takeOut 17 = .ok (.ireturn, 1) := by decide +kernel
theorem dX5_takeOut_18 : decode cX5_takeOut 18 = .ok (.aload_n 0, 1) := by decide +kernel
theorem dX5_takeOut_19 : decode cX5_takeOut 19 = .ok (.iload_n 1, 1) := by decide +kernel
theorem dX5_takeOut_20 : decode cX5_takeOut 20 = .ok (.invokevirtual 139, 3) := by decide +kernel
theorem dX5_takeOut_23 : decode cX5_takeOut 23 = .ok (.ifCond .ne 53, 3) := by decide +kernel
theorem dX5_takeOut_26 : decode cX5_takeOut 26 = .ok (.aload_n 0, 1) := by decide +kernel
theorem dX5_takeOut_27 : decode cX5_takeOut 27 = .ok (.getfield 24, 3) := by decide +kernel
theorem dX5_takeOut_30 : decode cX5_takeOut 30 = .ok (.iload_n 1, 1) := by decide +kernel
theorem dX5_takeOut_31 : decode cX5_takeOut 31 = .ok (.iaload, 1) := by decide +kernel
theorem dX5_takeOut_32 : decode cX5_takeOut 32 = .ok (.iconst 1, 1) := by decide +kernel
theorem dX5_takeOut_33 : decode cX5_takeOut 33 = .ok (.if_icmp .ne 43, 3) := by decide +kernel
theorem dX5_takeOut_36 : decode cX5_takeOut 36 = .ok (.aload_n 0, 1) := by decide +kernel
theorem dX5_takeOut_37 : decode cX5_takeOut 37 = .ok (.getfield 21, 3) := by decide +kernel
theorem dX5_takeOut_40 : decode cX5_takeOut 40 = .ok (.iload_n 1, 1) := by decide +kernel
theorem dX5_takeOut_41 : decode cX5_takeOut 41 = .ok (.iaload, 1) := by decide +kernel
theorem dX5_takeOut_42 : decode cX5_takeOut 42 = .ok (.bipush 7, 2) := by decide +kernel
theorem dX5_takeOut_44 : decode cX5_takeOut 44 = .ok (.if_icmp .eq 32, 3) := by decide +kernel
theorem dX5_takeOut_47 : decode cX5_takeOut 47 = .ok (.aload_n 0, 1) := by decide +kernel
theorem dX5_takeOut_48 : decode cX5_takeOut 48 = .ok (.getfield 36, 3) := by decide +kernel
theorem dX5_takeOut_51 : decode cX5_takeOut 51 = .ok (.iload_n 1, 1) := by decide +kernel
theorem dX5_takeOut_52 : decode cX5_takeOut 52 = .ok (.baload, 1) := by decide +kernel
theorem dX5_takeOut_53 : decode cX5_takeOut 53 = .ok (.ifCond .eq 23, 3) := by decide +kernel
theorem dX5_takeOut_56 : decode cX5_takeOut 56 = .ok (.aload_n 0, 1) := by decide +kernel
theorem dX5_takeOut_57 : decode cX5_takeOut 57 = .ok (.getfield 43, 3) := by decide +kernel
theorem dX5_takeOut_60 : decode cX5_takeOut 60 = .ok (.iload_n 1, 1) := by decide +kernel
theorem dX5_takeOut_61 : decode cX5_takeOut 61 = .ok (.iaload, 1) := by decide +kernel
theorem dX5_takeOut_62 : decode cX5_takeOut 62 = .ok (.aload_n 0, 1) := by decide +kernel
theorem dX5_takeOut_63 : decode cX5_takeOut 63 = .ok (.getfield 40, 3) := by decide +kernel
theorem dX5_takeOut_66 : decode cX5_takeOut 66 = .ok (.aload_n 0, 1) := by decide +kernel
theorem dX5_takeOut_67 : decode cX5_takeOut 67 = .ok (.getfield 21, 3) := by decide +kernel
theorem dX5_takeOut_70 : decode cX5_takeOut 70 = .ok (.iload_n 1, 1) := by decide +kernel
theorem dX5_takeOut_71 : decode cX5_takeOut 71 = .ok (.iaload, 1) := by decide +kernel
theorem dX5_takeOut_72 : decode cX5_takeOut 72 = .ok (.iaload, 1) := by decide +kernel
theorem dX5_takeOut_73 : decode cX5_takeOut 73 = .ok (.if_icmp .eq 8, 3) := by decide +kernel
theorem dX5_takeOut_76 : decode cX5_takeOut 76 = .ok (.aload_n 0, 1) := by decide +kernel
theorem dX5_takeOut_77 : decode cX5_takeOut 77 = .ok (.invokevirtual 99, 3) := by decide +kernel
theorem dX5_takeOut_80 : decode cX5_takeOut 80 = .ok (.ireturn, 1) := by decide +kernel
theorem dX5_takeOut_81 : decode cX5_takeOut 81 = .ok (.aload_n 0, 1) := by decide +kernel
theorem dX5_takeOut_82 : decode cX5_takeOut 82 = .ok (.getfield 33, 3) := by decide +kernel
theorem dX5_takeOut_85 : decode cX5_takeOut 85 = .ok (.iload_n 1, 1) := by decide +kernel
theorem dX5_takeOut_86 : decode cX5_takeOut 86 = .ok (.dup2, 1) := by decide +kernel
theorem dX5_takeOut_87 : decode cX5_takeOut 87 = .ok (.iaload, 1) := by decide +kernel
theorem dX5_takeOut_88 : decode cX5_takeOut 88 = .ok (.iconst 1, 1) := by decide +kernel
theorem dX5_takeOut_89 : decode cX5_takeOut 89 = .ok (.isub, 1) := by decide +kernel
theorem dX5_takeOut_90 : decode cX5_takeOut 90 = .ok (.iastore, 1) := by decide +kernel
theorem dX5_takeOut_91 : decode cX5_takeOut 91 = .ok (.aload_n 0, 1) := by decide +kernel
theorem dX5_takeOut_92 : decode cX5_takeOut 92 = .ok (.aload_n 0, 1) := by decide +kernel
theorem dX5_takeOut_93 : decode cX5_takeOut 93 = .ok (.getfield 21, 3) := by decide +kernel
theorem dX5_takeOut_96 : decode cX5_takeOut 96 = .ok (.iload_n 1, 1) := by decide +kernel
theorem dX5_takeOut_97 : decode cX5_takeOut 97 = .ok (.iaload, 1) := by decide +kernel
theorem dX5_takeOut_98 : decode cX5_takeOut 98 = .ok (.aload_n 0, 1) := by decide +kernel
theorem dX5_takeOut_99 : decode cX5_takeOut 99 = .ok (.getfield 33, 3) := by decide +kernel
theorem dX5_takeOut_102 : decode cX5_takeOut 102 = .ok (.iload_n 1, 1) := by decide +kernel
theorem dX5_takeOut_103 : decode cX5_takeOut 103 = .ok (.iaload, 1) := by decide +kernel
theorem dX5_takeOut_104 : decode cX5_takeOut 104 = .ok (.invokevirtual 113, 3) := by decide +kernel
theorem dX5_takeOut_107 : decode cX5_takeOut 107 = .ok (.aload_n 0, 1) := by decide +kernel
theorem dX5_takeOut_108 : decode cX5_takeOut 108 = .ok (.getfield 36, 3) := by decide +kernel
theorem dX5_takeOut_111 : decode cX5_takeOut 111 = .ok (.iload_n 1, 1) := by decide +kernel
theorem dX5_takeOut_112 : decode cX5_takeOut 112 = .ok (.iconst 0, 1) := by decide +kernel
theorem dX5_takeOut_113 : decode cX5_takeOut 113 = .ok (.bastore, 1) := by decide +kernel
theorem dX5_takeOut_114 : decode cX5_takeOut 114 = .ok (.aload_n 0, 1) := by decide +kernel
theorem dX5_takeOut_115 : decode cX5_takeOut 115 = .ok (.getfield 30, 3) := by decide +kernel
theorem dX5_takeOut_118 : decode cX5_takeOut 118 = .ok (.iload_n 1, 1) := by decide +kernel
theorem dX5_takeOut_119 : decode cX5_takeOut 119 = .ok (.aload_n 0, 1) := by decide +kernel
theorem dX5_takeOut_120 : decode cX5_takeOut 120 = .ok (.getfield 18, 3) := by decide +kernel
theorem dX5_takeOut_123 : decode cX5_takeOut 123 = .ok (.aload_n 0, 1) := by decide +kernel
theorem dX5_takeOut_124 : decode cX5_takeOut 124 = .ok (.getfield 21, 3) := by decide +kernel
theorem dX5_takeOut_127 : decode cX5_takeOut 127 = .ok (.iload_n 1, 1) := by decide +kernel
theorem dX5_takeOut_128 : decode cX5_takeOut 128 = .ok (.iaload, 1) := by decide +kernel
theorem dX5_takeOut_129 : decode cX5_takeOut 129 = .ok (.iaload, 1) := by decide +kernel
theorem dX5_takeOut_130 : decode cX5_takeOut 130 = .ok (.iastore, 1) := by decide +kernel
theorem dX5_takeOut_131 : decode cX5_takeOut 131 = .ok (.aload_n 0, 1) := by decide +kernel
theorem dX5_takeOut_132 : decode cX5_takeOut 132 = .ok (.getfield 14, 3) := by decide +kernel
theorem dX5_takeOut_135 : decode cX5_takeOut 135 = .ok (.aload_n 0, 1) := by decide +kernel
theorem dX5_takeOut_136 : decode cX5_takeOut 136 = .ok (.getfield 21, 3) := by decide +kernel
theorem dX5_takeOut_139 : decode cX5_takeOut 139 = .ok (.iload_n 1, 1) := by decide +kernel
theorem dX5_takeOut_140 : decode cX5_takeOut 140 = .ok (.iaload, 1) := by decide +kernel
theorem dX5_takeOut_141 : decode cX5_takeOut 141 = .ok (.iaload, 1) := by decide +kernel
theorem dX5_takeOut_142 : decode cX5_takeOut 142 = .ok (.ireturn, 1) := by decide +kernel
theorem dX5_left_0 : decode cX5_left 0 = .ok (.aload_n 0, 1) := by decide +kernel
theorem dX5_left_1 : decode cX5_left 1 = .ok (.getfield 14, 3) := by decide +kernel
theorem dX5_left_4 : decode cX5_left 4 = .ok (.aload_n 0, 1) := by decide +kernel
theorem dX5_left_5 : decode cX5_left 5 = .ok (.getfield 21, 3) := by decide +kernel
theorem dX5_left_8 : decode cX5_left 8 = .ok (.iload_n 1, 1) := by decide +kernel
theorem dX5_left_9 : decode cX5_left 9 = .ok (.iaload, 1) := by decide +kernel
theorem dX5_left_10 : decode cX5_left 10 = .ok (.iaload, 1) := by decide +kernel
theorem dX5_left_11 : decode cX5_left 11 = .ok (.aload_n 0, 1) := by decide +kernel
theorem dX5_left_12 : decode cX5_left 12 = .ok (.getfield 33, 3) := by decide +kernel
theorem dX5_left_15 : decode cX5_left 15 = .ok (.iload_n 1, 1) := by decide +kernel
theorem dX5_left_16 : decode cX5_left 16 = .ok (.iaload, 1) := by decide +kernel
theorem dX5_left_17 : decode cX5_left 17 = .ok (.isub, 1) := by decide +kernel
theorem dX5_left_18 : decode cX5_left 18 = .ok (.newarray .int, 2) := by decide +kernel
theorem dX5_left_20 : decode cX5_left 20 = .ok (.astore_n 2, 1) := by decide +kernel
theorem dX5_left_21 : decode cX5_left 21 = .ok (.iconst 0, 1) := by decide +kernel
theorem dX5_left_22 : decode cX5_left 22 = .ok (.istore_n 3, 1) := by decide +kernel
theorem dX5_left_23 : decode cX5_left 23 = .ok (.iload_n 3, 1) := by decide +kernel
theorem dX5_left_24 : decode cX5_left 24 = .ok (.aload_n 2, 1) := by decide +kernel
theorem dX5_left_25 : decode cX5_left 25 = .ok (.arraylength, 1) := by decide +kernel
theorem dX5_left_26 : decode cX5_left 26 = .ok (.if_icmp .ge 17, 3) := by decide +kernel
theorem dX5_left_29 : decode cX5_left 29 = .ok (.aload_n 2, 1) := by decide +kernel
theorem dX5_left_30 : decode cX5_left 30 = .ok (.iload_n 3, 1) := by decide +kernel
theorem dX5_left_31 : decode cX5_left 31 = .ok (.aload_n 0, 1) := by decide +kernel
theorem dX5_left_32 : decode cX5_left 32 = .ok (.iload_n 1, 1) := by decide +kernel
theorem dX5_left_33 : decode cX5_left 33 = .ok (.invokevirtual 145, 3) := by decide +kernel
theorem dX5_left_36 : decode cX5_left 36 = .ok (.iastore, 1) := by decide +kernel
theorem dX5_left_37 : decode cX5_left 37 = .ok (.iinc 3 1, 3) := by decide +kernel
theorem dX5_left_40 : decode cX5_left 40 = .ok (.goto (-17), 3) := by decide +kernel
theorem dX5_left_43 : decode cX5_left 43 = .ok (.aload_n 2, 1) := by decide +kernel
theorem dX5_left_44 : decode cX5_left 44 = .ok (.areturn, 1) := by decide +kernel
theorem dX5_sign_0 : decode cX5_sign 0 = .ok (.iload_n 0, 1) := by decide +kernel
theorem dX5_sign_1 : decode cX5_sign 1 = .ok (.bipush 100, 2) := by decide +kernel
theorem dX5_sign_3 : decode cX5_sign 3 = .ok (.if_icmp .ne 8, 3) := by decide +kernel
theorem dX5_sign_6 : decode cX5_sign 6 = .ok (.ldc 149, 2) := by decide +kernel
theorem dX5_sign_8 : decode cX5_sign 8 = .ok (.goto 22, 3) := by decide +kernel
theorem dX5_sign_11 : decode cX5_sign 11 = .ok (.new 151, 3) := by decide +kernel
theorem dX5_sign_14 : decode cX5_sign 14 = .ok (.dup, 1) := by decide +kernel
theorem dX5_sign_15 : decode cX5_sign 15 = .ok (.invokespecial 153, 3) := by decide +kernel
theorem dX5_sign_18 : decode cX5_sign 18 = .ok (.ldc 154, 2) := by decide +kernel
theorem dX5_sign_20 : decode cX5_sign 20 = .ok (.invokevirtual 156, 3) := by decide +kernel
theorem dX5_sign_23 : decode cX5_sign 23 = .ok (.iload_n 0, 1) := by decide +kernel
theorem dX5_sign_24 : decode cX5_sign 24 = .ok (.invokevirtual 160, 3) := by decide +kernel
theorem dX5_sign_27 : decode cX5_sign 27 = .ok (.invokevirtual 163, 3) := by decide +kernel
theorem dX5_sign_30 : decode cX5_sign 30 = .ok (.areturn, 1) := by decide +kernel
theorem dX5_text_0 : decode cX5_text 0 = .ok (.ldc 154, 2) := by decide +kernel
theorem dX5_text_2 : decode cX5_text 2 = .ok (.astore_n 1, 1) := by decide +kernel
theorem dX5_text_3 : decode cX5_text 3 = .ok (.iconst 0, 1) := by decide +kernel
theorem dX5_text_4 : decode cX5_text 4 = .ok (.istore_n 2, 1) := by decide +kernel
theorem dX5_text_5 : decode cX5_text 5 = .ok (.iload_n 2, 1) := by decide +kernel
theorem dX5_text_6 : decode cX5_text 6 = .ok (.aload_n 0, 1) := by decide +kernel
theorem dX5_text_7 : decode cX5_text 7 = .ok (.arraylength, 1) := by decide +kernel
theorem dX5_text_8 : decode cX5_text 8 = .ok (.if_icmp .ge 47, 3) := by decide +kernel
theorem dX5_text_11 : decode cX5_text 11 = .ok (.new 151, 3) := by decide +kernel
theorem dX5_text_14 : decode cX5_text 14 = .ok (.dup, 1) := by decide +kernel
theorem dX5_text_15 : decode cX5_text 15 = .ok (.invokespecial 153, 3) := by decide +kernel
theorem dX5_text_18 : decode cX5_text 18 = .ok (.aload_n 1, 1) := by decide +kernel
theorem dX5_text_19 : decode cX5_text 19 = .ok (.invokevirtual 156, 3) := by decide +kernel
theorem dX5_text_22 : decode cX5_text 22 = .ok (.iload_n 2, 1) := by decide +kernel
theorem dX5_text_23 : decode cX5_text 23 = .ok (.ifCond .ne 8, 3) := by decide +kernel
theorem dX5_text_26 : decode cX5_text 26 = .ok (.ldc 154, 2) := by decide +kernel
theorem dX5_text_28 : decode cX5_text 28 = .ok (.goto 5, 3) := by decide +kernel
theorem dX5_text_31 : decode cX5_text 31 = .ok (.ldc 167, 2) := by decide +kernel
theorem dX5_text_33 : decode cX5_text 33 = .ok (.invokevirtual 156, 3) := by decide +kernel
theorem dX5_text_36 : decode cX5_text 36 = .ok (.aload_n 0, 1) := by decide +kernel
theorem dX5_text_37 : decode cX5_text 37 = .ok (.iload_n 2, 1) := by decide +kernel
theorem dX5_text_38 : decode cX5_text 38 = .ok (.iaload, 1) := by decide +kernel
theorem dX5_text_39 : decode cX5_text 39 = .ok (.invokestatic 169, 3) := by decide +kernel
theorem dX5_text_42 : decode cX5_text 42 = .ok (.invokevirtual 156, 3) := by decide +kernel
theorem dX5_text_45 : decode cX5_text 45 = .ok (.invokevirtual 163, 3) := by decide +kernel
theorem dX5_text_48 : decode cX5_text 48 = .ok (.astore_n 1, 1) := by decide +kernel
theorem dX5_text_49 : decode cX5_text 49 = .ok (.iinc 2 1, 3) := by decide +kernel
theorem dX5_text_52 : decode cX5_text 52 = .ok (.goto (-47), 3) := by decide +kernel
theorem dX5_text_55 : decode cX5_text 55 = .ok (.aload_n 1, 1) := by decide +kernel
theorem dX5_text_56 : decode cX5_text 56 = .ok (.areturn, 1) := by decide +kernel
theorem dX5_rest_0 : decode cX5_rest 0 = .ok (.aload_n 0, 1) := by decide +kernel
theorem dX5_rest_1 : decode cX5_rest 1 = .ok (.iload_n 1, 1) := by decide +kernel
theorem dX5_rest_2 : decode cX5_rest 2 = .ok (.invokestatic 133, 3) := by decide +kernel
theorem dX5_rest_5 : decode cX5_rest 5 = .ok (.aload_n 0, 1) := by decide +kernel
theorem dX5_rest_6 : decode cX5_rest 6 = .ok (.iload_n 1, 1) := by decide +kernel
theorem dX5_rest_7 : decode cX5_rest 7 = .ok (.invokevirtual 136, 3) := by decide +kernel
theorem dX5_rest_10 : decode cX5_rest 10 = .ok (.invokevirtual 107, 3) := by decide +kernel
theorem dX5_rest_13 : decode cX5_rest 13 = .ok (.ifCond .eq 6, 3) := by decide +kernel
theorem dX5_rest_16 : decode cX5_rest 16 = .ok (.ldc 154, 2) := by decide +kernel
theorem dX5_rest_18 : decode cX5_rest 18 = .ok (.areturn, 1) := by decide +kernel
theorem dX5_rest_19 : decode cX5_rest 19 = .ok (.aload_n 0, 1) := by decide +kernel
theorem dX5_rest_20 : decode cX5_rest 20 = .ok (.iload_n 1, 1) := by decide +kernel
theorem dX5_rest_21 : decode cX5_rest 21 = .ok (.invokevirtual 139, 3) := by decide +kernel
theorem dX5_rest_24 : decode cX5_rest 24 = .ok (.ifCond .ne 13, 3) := by decide +kernel
theorem dX5_rest_27 : decode cX5_rest 27 = .ok (.aload_n 0, 1) := by decide +kernel
theorem dX5_rest_28 : decode cX5_rest 28 = .ok (.getfield 24, 3) := by decide +kernel
theorem dX5_rest_31 : decode cX5_rest 31 = .ok (.iload_n 1, 1) := by decide +kernel
theorem dX5_rest_32 : decode cX5_rest 32 = .ok (.iaload, 1) := by decide +kernel
theorem dX5_rest_33 : decode cX5_rest 33 = .ok (.iconst 1, 1) := by decide +kernel
theorem dX5_rest_34 : decode cX5_rest 34 = .ok (.if_icmp .ne 10, 3) := by decide +kernel
theorem dX5_rest_37 : decode cX5_rest 37 = .ok (.aload_n 0, 1) := by decide +kernel
theorem dX5_rest_38 : decode cX5_rest 38 = .ok (.invokevirtual 173, 3) := by decide +kernel
theorem dX5_rest_41 : decode cX5_rest 41 = .ok (.goto 11, 3) := by decide +kernel
theorem dX5_rest_44 : decode cX5_rest 44 = .ok (.aload_n 0, 1) := by decide +kernel
theorem dX5_rest_45 : decode cX5_rest 45 = .ok (.iload_n 1, 1) := by decide +kernel
theorem dX5_rest_46 : decode cX5_rest 46 = .ok (.invokevirtual 176, 3) := by decide +kernel
theorem dX5_rest_49 : decode cX5_rest 49 = .ok (.invokestatic 180, 3) := by decide +kernel
theorem dX5_rest_52 : decode cX5_rest 52 = .ok (.areturn, 1) := by decide +kernel
theorem dX5_made_0 : decode cX5_made 0 = .ok (.iconst 0, 1) := by decide +kernel
theorem dX5_made_1 : decode cX5_made 1 = .ok (.istore_n 3, 1) := by decide +kernel
theorem dX5_made_2 : decode cX5_made 2 = .ok (.iload_n 3, 1) := by decide +kernel
theorem dX5_made_3 : decode cX5_made 3 = .ok (.aload_n 2, 1) := by decide +kernel
theorem dX5_made_4 : decode cX5_made 4 = .ok (.arraylength, 1) := by decide +kernel
theorem dX5_made_5 : decode cX5_made 5 = .ok (.if_icmp .ge 20, 3) := by decide +kernel
theorem dX5_made_8 : decode cX5_made 8 = .ok (.aload_n 0, 1) := by decide +kernel
theorem dX5_made_9 : decode cX5_made 9 = .ok (.getfield 11, 3) := by decide +kernel
theorem dX5_made_12 : decode cX5_made 12 = .ok (.iload_n 1, 1) := by decide +kernel
theorem dX5_made_13 : decode cX5_made 13 = .ok (.aaload, 1) := by decide +kernel
theorem dX5_made_14 : decode cX5_made 14 = .ok (.iload_n 3, 1) := by decide +kernel
theorem dX5_made_15 : decode cX5_made 15 = .ok (.aload_n 2, 1) := by decide +kernel
theorem dX5_made_16 : decode cX5_made 16 = .ok (.iload_n 3, 1) := by decide +kernel
theorem dX5_made_17 : decode cX5_made 17 = .ok (.iaload, 1) := by decide +kernel
theorem dX5_made_18 : decode cX5_made 18 = .ok (.iastore, 1) := by decide +kernel
theorem dX5_made_19 : decode cX5_made 19 = .ok (.iinc 3 1, 3) := by decide +kernel
theorem dX5_made_22 : decode cX5_made 22 = .ok (.goto (-20), 3) := by decide +kernel
theorem dX5_made_25 : decode cX5_made 25 = .ok (.aload_n 0, 1) := by decide +kernel
theorem dX5_made_26 : decode cX5_made 26 = .ok (.getfield 14, 3) := by decide +kernel
theorem dX5_made_29 : decode cX5_made 29 = .ok (.iload_n 1, 1) := by decide +kernel
theorem dX5_made_30 : decode cX5_made 30 = .ok (.aload_n 2, 1) := by decide +kernel
theorem dX5_made_31 : decode cX5_made 31 = .ok (.arraylength, 1) := by decide +kernel
theorem dX5_made_32 : decode cX5_made 32 = .ok (.iastore, 1) := by decide +kernel
theorem dX5_made_33 : decode cX5_made 33 = .ok (.aload_n 0, 1) := by decide +kernel
theorem dX5_made_34 : decode cX5_made 34 = .ok (.getfield 18, 3) := by decide +kernel
theorem dX5_made_37 : decode cX5_made 37 = .ok (.iload_n 1, 1) := by decide +kernel
theorem dX5_made_38 : decode cX5_made 38 = .ok (.dup2, 1) := by decide +kernel
theorem dX5_made_39 : decode cX5_made 39 = .ok (.iaload, 1) := by decide +kernel
theorem dX5_made_40 : decode cX5_made 40 = .ok (.iconst 1, 1) := by decide +kernel
theorem dX5_made_41 : decode cX5_made 41 = .ok (.iadd, 1) := by decide +kernel
theorem dX5_made_42 : decode cX5_made 42 = .ok (.iastore, 1) := by decide +kernel
theorem dX5_made_43 : decode cX5_made 43 = .ok (.aload_n 2, 1) := by decide +kernel
theorem dX5_made_44 : decode cX5_made 44 = .ok (.arraylength, 1) := by decide +kernel
theorem dX5_made_45 : decode cX5_made 45 = .ok (.ireturn, 1) := by decide +kernel
theorem dX5_keepRest_0 : decode cX5_keepRest 0 = .ok (.aload_n 0, 1) := by decide +kernel
theorem dX5_keepRest_1 : decode cX5_keepRest 1 = .ok (.iload_n 1, 1) := by decide +kernel
theorem dX5_keepRest_2 : decode cX5_keepRest 2 = .ok (.invokestatic 133, 3) := by decide +kernel
theorem dX5_keepRest_5 : decode cX5_keepRest 5 = .ok (.ifCond .ne 10, 3) := by decide +kernel
theorem dX5_keepRest_8 : decode cX5_keepRest 8 = .ok (.iload_n 2, 1) := by decide +kernel
theorem dX5_keepRest_9 : decode cX5_keepRest 9 = .ok (.invokestatic 184, 3) := by decide +kernel
theorem dX5_keepRest_12 : decode cX5_keepRest 12 = .ok (.ifCond .eq 7, 3) := by decide +kernel
theorem dX5_keepRest_15 : decode cX5_keepRest 15 = .ok (.iconst 1, 1) := by decide +kernel
theorem dX5_keepRest_16 : decode cX5_keepRest 16 = .ok (.goto 4, 3) := by decide +kernel
theorem dX5_keepRest_19 : decode cX5_keepRest 19 = .ok (.iconst 0, 1) := by decide +kernel
theorem dX5_keepRest_20 : decode cX5_keepRest 20 = .ok (.aload_n 0, 1) := by decide +kernel
theorem dX5_keepRest_21 : decode cX5_keepRest 21 = .ok (.iload_n 1, 1) := by decide +kernel
theorem dX5_keepRest_22 : decode cX5_keepRest 22 = .ok (.invokevirtual 136, 3) := by decide +kernel
theorem dX5_keepRest_25 : decode cX5_keepRest 25 = .ok (.invokevirtual 107, 3) := by decide +kernel
theorem dX5_keepRest_28 : decode cX5_keepRest 28 = .ok (.ifCond .eq 5, 3) := by decide +kernel
theorem dX5_keepRest_31 : decode cX5_keepRest 31 = .ok (.iconst 0, 1) := by decide +kernel
theorem dX5_keepRest_32 : decode cX5_keepRest 32 = .ok (.ireturn, 1) := by decide +kernel
theorem dX5_keepRest_33 : decode cX5_keepRest 33 = .ok (.aload_n 0, 1) := by decide +kernel
theorem dX5_keepRest_34 : decode cX5_keepRest 34 = .ok (.iload_n 1, 1) := by decide +kernel
theorem dX5_keepRest_35 : decode cX5_keepRest 35 = .ok (.invokevirtual 139, 3) := by decide +kernel
theorem dX5_keepRest_38 : decode cX5_keepRest 38 = .ok (.ifCond .ne 23, 3) := by decide +kernel
theorem dX5_keepRest_41 : decode cX5_keepRest 41 = .ok (.aload_n 0, 1) := by decide +kernel
theorem dX5_keepRest_42 : decode cX5_keepRest 42 = .ok (.getfield 24, 3) := by decide +kernel
theorem dX5_keepRest_45 : decode cX5_keepRest 45 = .ok (.iload_n 1, 1) := by decide +kernel
theorem dX5_keepRest_46 : decode cX5_keepRest 46 = .ok (.iaload, 1) := by decide +kernel
theorem dX5_keepRest_47 : decode cX5_keepRest 47 = .ok (.iconst 1, 1) := by decide +kernel
theorem dX5_keepRest_48 : decode cX5_keepRest 48 = .ok (.if_icmp .eq 13, 3) := by decide +kernel
theorem dX5_keepRest_51 : decode cX5_keepRest 51 = .ok (.aload_n 0, 1) := by decide +kernel
theorem dX5_keepRest_52 : decode cX5_keepRest 52 = .ok (.getfield 21, 3) := by decide +kernel
theorem dX5_keepRest_55 : decode cX5_keepRest 55 = .ok (.iload_n 1, 1) := by decide +kernel
theorem dX5_keepRest_56 : decode cX5_keepRest 56 = .ok (.iaload, 1) := by decide +kernel
theorem dX5_keepRest_57 : decode cX5_keepRest 57 = .ok (.iload_n 2, 1) := by decide +kernel
theorem dX5_keepRest_58 : decode cX5_keepRest 58 = .ok (.if_icmp .ne 10, 3) := by decide +kernel
theorem dX5_keepRest_61 : decode cX5_keepRest 61 = .ok (.aload_n 0, 1) := by decide +kernel
theorem dX5_keepRest_62 : decode cX5_keepRest 62 = .ok (.invokevirtual 99, 3) := by decide +kernel
theorem dX5_keepRest_65 : decode cX5_keepRest 65 = .ok (.goto 13, 3) := by decide +kernel
theorem dX5_keepRest_68 : decode cX5_keepRest 68 = .ok (.aload_n 0, 1) := by decide +kernel
theorem dX5_keepRest_69 : decode cX5_keepRest 69 = .ok (.iload_n 2, 1) := by decide +kernel
theorem dX5_keepRest_70 : decode cX5_keepRest 70 = .ok (.aload_n 0, 1) := by decide +kernel
theorem dX5_keepRest_71 : decode cX5_keepRest 71 = .ok (.iload_n 1, 1) := by decide +kernel
theorem dX5_keepRest_72 : decode cX5_keepRest 72 = .ok (.invokevirtual 176, 3) := by decide +kernel
theorem dX5_keepRest_75 : decode cX5_keepRest 75 = .ok (.invokevirtual 187, 3) := by decide +kernel
theorem dX5_keepRest_78 : decode cX5_keepRest 78 = .ok (.ireturn, 1) := by decide +kernel
theorem dX5_keep_0 : decode cX5_keep 0 = .ok (.aload_n 0, 1) := by decide +kernel
theorem dX5_keep_1 : decode cX5_keep 1 = .ok (.iload_n 1, 1) := by decide +kernel
theorem dX5_keep_2 : decode cX5_keep 2 = .ok (.invokestatic 184, 3) := by decide +kernel
theorem dX5_keep_5 : decode cX5_keep 5 = .ok (.ifCond .ne 10, 3) := by decide +kernel
theorem dX5_keep_8 : decode cX5_keep 8 = .ok (.iload_n 2, 1) := by decide +kernel
theorem dX5_keep_9 : decode cX5_keep 9 = .ok (.invokestatic 63, 3) := by decide +kernel
theorem dX5_keep_12 : decode cX5_keep 12 = .ok (.ifCond .eq 7, 3) := by decide +kernel
theorem dX5_keep_15 : decode cX5_keep 15 = .ok (.iconst 1, 1) := by decide +kernel
theorem dX5_keep_16 : decode cX5_keep 16 = .ok (.goto 4, 3) := by decide +kernel
theorem dX5_keep_19 : decode cX5_keep 19 = .ok (.iconst 0, 1) := by decide +kernel
theorem dX5_keep_20 : decode cX5_keep 20 = .ok (.invokevirtual 116, 3) := by decide +kernel
theorem dX5_keep_23 : decode cX5_keep 23 = .ok (.ifCond .eq 7, 3) := by decide +kernel
theorem dX5_keep_26 : decode cX5_keep 26 = .ok (.iconst 0, 1) := by decide +kernel
theorem dX5_keep_27 : decode cX5_keep 27 = .ok (.goto 14, 3) := by decide +kernel
theorem dX5_keep_30 : decode cX5_keep 30 = .ok (.aload_n 0, 1) := by decide +kernel
theorem dX5_keep_31 : decode cX5_keep 31 = .ok (.iload_n 1, 1) := by decide +kernel
theorem dX5_keep_32 : decode cX5_keep 32 = .ok (.aload_n 0, 1) := by decide +kernel
theorem dX5_keep_33 : decode cX5_keep 33 = .ok (.iload_n 2, 1) := by decide +kernel
theorem dX5_keep_34 : decode cX5_keep 34 = .ok (.iconst 0, 1) := by decide +kernel
theorem dX5_keep_35 : decode cX5_keep 35 = .ok (.invokevirtual 126, 3) := by decide +kernel
theorem dX5_keep_38 : decode cX5_keep 38 = .ok (.invokevirtual 187, 3) := by decide +kernel
theorem dX5_keep_41 : decode cX5_keep 41 = .ok (.ireturn, 1) := by decide +kernel
theorem dX5_drop_0 : decode cX5_drop 0 = .ok (.aload_n 0, 1) := by decide +kernel
theorem dX5_drop_1 : decode cX5_drop 1 = .ok (.iload_n 1, 1) := by decide +kernel
theorem dX5_drop_2 : decode cX5_drop 2 = .ok (.invokestatic 133, 3) := by decide +kernel
theorem dX5_drop_5 : decode cX5_drop 5 = .ok (.invokevirtual 116, 3) := by decide +kernel
theorem dX5_drop_8 : decode cX5_drop 8 = .ok (.ifCond .eq 5, 3) := by decide +kernel
theorem dX5_drop_11 : decode cX5_drop 11 = .ok (.iconst 0, 1) := by decide +kernel
theorem dX5_drop_12 : decode cX5_drop 12 = .ok (.ireturn, 1) := by decide +kernel
theorem dX5_drop_13 : decode cX5_drop 13 = .ok (.aload_n 0, 1) := by decide +kernel
theorem dX5_drop_14 : decode cX5_drop 14 = .ok (.getfield 21, 3) := by decide +kernel
theorem dX5_drop_17 : decode cX5_drop 17 = .ok (.iload_n 1, 1) := by decide +kernel
theorem dX5_drop_18 : decode cX5_drop 18 = .ok (.iaload, 1) := by decide +kernel
theorem dX5_drop_19 : decode cX5_drop 19 = .ok (.iconst (-1), 1) := by decide +kernel
theorem dX5_drop_20 : decode cX5_drop 20 = .ok (.if_icmp .eq 7, 3) := by decide +kernel
theorem dX5_drop_23 : decode cX5_drop 23 = .ok (.iconst 1, 1) := by decide +kernel
theorem dX5_drop_24 : decode cX5_drop 24 = .ok (.goto 4, 3) := by decide +kernel
theorem dX5_drop_27 : decode cX5_drop 27 = .ok (.iconst 0, 1) := by decide +kernel
theorem dX5_drop_28 : decode cX5_drop 28 = .ok (.istore_n 2, 1) := by decide +kernel
theorem dX5_drop_29 : decode cX5_drop 29 = .ok (.aload_n 0, 1) := by decide +kernel
theorem dX5_drop_30 : decode cX5_drop 30 = .ok (.getfield 21, 3) := by decide +kernel
theorem dX5_drop_33 : decode cX5_drop 33 = .ok (.iload_n 1, 1) := by decide +kernel
theorem dX5_drop_34 : decode cX5_drop 34 = .ok (.iconst (-1), 1) := by decide +kernel
theorem dX5_drop_35 : decode cX5_drop 35 = .ok (.iastore, 1) := by decide +kernel
theorem dX5_drop_36 : decode cX5_drop 36 = .ok (.iload_n 2, 1) := by decide +kernel
theorem dX5_drop_37 : decode cX5_drop 37 = .ok (.invokestatic 77, 3) := by decide +kernel
theorem dX5_drop_40 : decode cX5_drop 40 = .ok (.ireturn, 1) := by decide +kernel
theorem dX5_skip_0 : decode cX5_skip 0 = .ok (.aload_n 0, 1) := by decide +kernel
theorem dX5_skip_1 : decode cX5_skip 1 = .ok (.iload_n 1, 1) := by decide +kernel
theorem dX5_skip_2 : decode cX5_skip 2 = .ok (.invokestatic 133, 3) := by decide +kernel
theorem dX5_skip_5 : decode cX5_skip 5 = .ok (.iload_n 2, 1) := by decide +kernel
theorem dX5_skip_6 : decode cX5_skip 6 = .ok (.iconst 0, 1) := by decide +kernel
theorem dX5_skip_7 : decode cX5_skip 7 = .ok (.bipush 12, 2) := by decide +kernel
theorem dX5_skip_9 : decode cX5_skip 9 = .ok (.invokestatic 59, 3) := by decide +kernel
theorem dX5_skip_12 : decode cX5_skip 12 = .ok (.ifCond .ne 7, 3) := by decide +kernel
theorem dX5_skip_15 : decode cX5_skip 15 = .ok (.iconst 1, 1) := by decide +kernel
theorem dX5_skip_16 : decode cX5_skip 16 = .ok (.goto 4, 3) := by decide +kernel
theorem dX5_skip_19 : decode cX5_skip 19 = .ok (.iconst 0, 1) := by decide +kernel
theorem dX5_skip_20 : decode cX5_skip 20 = .ok (.aload_n 0, 1) := by decide +kernel
theorem dX5_skip_21 : decode cX5_skip 21 = .ok (.iload_n 1, 1) := by decide +kernel
theorem dX5_skip_22 : decode cX5_skip 22 = .ok (.invokevirtual 136, 3) := by decide +kernel
theorem dX5_skip_25 : decode cX5_skip 25 = .ok (.invokevirtual 50, 3) := by decide +kernel
theorem dX5_skip_28 : decode cX5_skip 28 = .ok (.ifCond .eq 5, 3) := by decide +kernel
theorem dX5_skip_31 : decode cX5_skip 31 = .ok (.iconst 0, 1) := by decide +kernel
theorem dX5_skip_32 : decode cX5_skip 32 = .ok (.ireturn, 1) := by decide +kernel
theorem dX5_skip_33 : decode cX5_skip 33 = .ok (.aload_n 0, 1) := by decide +kernel
theorem dX5_skip_34 : decode cX5_skip 34 = .ok (.iload_n 1, 1) := by decide +kernel
theorem dX5_skip_35 : decode cX5_skip 35 = .ok (.invokevirtual 139, 3) := by decide +kernel
theorem dX5_skip_38 : decode cX5_skip 38 = .ok (.ifCond .eq 8, 3) := by decide +kernel
theorem dX5_skip_41 : decode cX5_skip 41 = .ok (.aload_n 0, 1) := by decide +kernel
theorem dX5_skip_42 : decode cX5_skip 42 = .ok (.invokevirtual 99, 3) := by decide +kernel
theorem dX5_skip_45 : decode cX5_skip 45 = .ok (.ireturn, 1) := by decide +kernel
theorem dX5_skip_46 : decode cX5_skip 46 = .ok (.iconst 0, 1) := by decide +kernel
theorem dX5_skip_47 : decode cX5_skip 47 = .ok (.istore_n 3, 1) := by decide +kernel
theorem dX5_skip_48 : decode cX5_skip 48 = .ok (.iload_n 3, 1) := by decide +kernel
theorem dX5_skip_49 : decode cX5_skip 49 = .ok (.iload_n 2, 1) := by decide +kernel
theorem dX5_skip_50 : decode cX5_skip 50 = .ok (.if_icmp .ge 23, 3) := by decide +kernel
theorem dX5_skip_53 : decode cX5_skip 53 = .ok (.aload_n 0, 1) := by decide +kernel
theorem dX5_skip_54 : decode cX5_skip 54 = .ok (.iload_n 1, 1) := by decide +kernel
theorem dX5_skip_55 : decode cX5_skip 55 = .ok (.invokevirtual 142, 3) := by decide +kernel
theorem dX5_skip_58 : decode cX5_skip 58 = .ok (.ifCond .eq 15, 3) := by decide +kernel
theorem dX5_skip_61 : decode cX5_skip 61 = .ok (.aload_n 0, 1) := by decide +kernel
theorem dX5_skip_62 : decode cX5_skip 62 = .ok (.iload_n 1, 1) := by decide +kernel
theorem dX5_skip_63 : decode cX5_skip 63 = .ok (.invokevirtual 145, 3) := by decide +kernel
theorem dX5_skip_66 : decode cX5_skip 66 = .ok (.pop, 1) := by decide +kernel
theorem dX5_skip_67 : decode cX5_skip 67 = .ok (.iinc 3 1, 3) := by decide +kernel
theorem dX5_skip_70 : decode cX5_skip 70 = .ok (.goto (-22), 3) := by decide +kernel
theorem dX5_skip_73 : decode cX5_skip 73 = .ok (.iload_n 3, 1) := by decide +kernel
theorem dX5_skip_74 : decode cX5_skip 74 = .ok (.ireturn, 1) := by decide +kernel
theorem dX5_pourRest_0 : decode cX5_pourRest 0 = .ok (.iload_n 1, 1) := by decide +kernel
theorem dX5_pourRest_1 : decode cX5_pourRest 1 = .ok (.invokestatic 133, 3) := by decide +kernel
theorem dX5_pourRest_4 : decode cX5_pourRest 4 = .ok (.ifCond .ne 10, 3) := by decide +kernel
theorem dX5_pourRest_7 : decode cX5_pourRest 7 = .ok (.iload_n 2, 1) := by decide +kernel
theorem dX5_pourRest_8 : decode cX5_pourRest 8 = .ok (.invokestatic 63, 3) := by decide +kernel
theorem dX5_pourRest_11 : decode cX5_pourRest 11 = .ok (.ifCond .eq 7, 3) := by decide +kernel
theorem dX5_pourRest_14 : decode cX5_pourRest 14 = .ok (.iconst 1, 1) := by decide +kernel
theorem dX5_pourRest_15 : decode cX5_pourRest 15 = .ok (.goto 4, 3) := by decide +kernel
theorem dX5_pourRest_18 : decode cX5_pourRest 18 = .ok (.iconst 0, 1) := by decide +kernel
theorem dX5_pourRest_19 : decode cX5_pourRest 19 = .ok (.istore_n 3, 1) := by decide +kernel
theorem dX5_pourRest_20 : decode cX5_pourRest 20 = .ok (.aload_n 0, 1) := by decide +kernel
theorem dX5_pourRest_21 : decode cX5_pourRest 21 = .ok (.iload_n 3, 1) := by decide +kernel
theorem dX5_pourRest_22 : decode cX5_pourRest 22 = .ok (.iload_n 3, 1) := by decide +kernel
theorem dX5_pourRest_23 : decode cX5_pourRest 23 = .ok (.ifCond .ne 38, 3) := by decide +kernel
theorem dX5_pourRest_26 : decode cX5_pourRest 26 = .ok (.aload_n 0, 1) := by decide +kernel
theorem dX5_pourRest_27 : decode cX5_pourRest 27 = .ok (.iload_n 1, 1) := by decide +kernel
theorem dX5_pourRest_28 : decode cX5_pourRest 28 = .ok (.invokevirtual 136, 3) := by decide +kernel
theorem dX5_pourRest_31 : decode cX5_pourRest 31 = .ok (.ifCond .ne 26, 3) := by decide +kernel
theorem dX5_pourRest_34 : decode cX5_pourRest 34 = .ok (.aload_n 0, 1) := by decide +kernel
theorem dX5_pourRest_35 : decode cX5_pourRest 35 = .ok (.getfield 14, 3) := by decide +kernel
theorem dX5_pourRest_38 : decode cX5_pourRest 38 = .ok (.aload_n 0, 1) := by decide +kernel
theorem dX5_pourRest_39 : decode cX5_pourRest 39 = .ok (.getfield 21, 3) := by decide +kernel
theorem dX5_pourRest_42 : decode cX5_pourRest 42 = .ok (.iload_n 1, 1) := by decide +kernel
theorem dX5_pourRest_43 : decode cX5_pourRest 43 = .ok (.iaload, 1) := by decide +kernel
theorem dX5_pourRest_44 : decode cX5_pourRest 44 = .ok (.iaload, 1) := by decide +kernel
theorem dX5_pourRest_45 : decode cX5_pourRest 45 = .ok (.aload_n 0, 1) := by decide +kernel
theorem dX5_pourRest_46 : decode cX5_pourRest 46 = .ok (.getfield 14, 3) := by decide +kernel
theorem dX5_pourRest_49 : decode cX5_pourRest 49 = .ok (.iload_n 2, 1) := by decide +kernel
theorem dX5_pourRest_50 : decode cX5_pourRest 50 = .ok (.iaload, 1) := by decide +kernel
theorem dX5_pourRest_51 : decode cX5_pourRest 51 = .ok (.iadd, 1) := by decide +kernel
theorem dX5_pourRest_52 : decode cX5_pourRest 52 = .ok (.bipush 12, 2) := by decide +kernel
theorem dX5_pourRest_54 : decode cX5_pourRest 54 = .ok (.if_icmp .le 7, 3) := by decide +kernel
theorem dX5_pourRest_57 : decode cX5_pourRest 57 = .ok (.iconst 1, 1) := by decide +kernel
theorem dX5_pourRest_58 : decode cX5_pourRest 58 = .ok (.goto 4, 3) := by decide +kernel
theorem dX5_pourRest_61 : decode cX5_pourRest 61 = .ok (.iconst 0, 1) := by decide +kernel
theorem dX5_pourRest_62 : decode cX5_pourRest 62 = .ok (.invokevirtual 107, 3) := by decide +kernel
theorem dX5_pourRest_65 : decode cX5_pourRest 65 = .ok (.ifCond .eq 5, 3) := by decide +kernel
theorem dX5_pourRest_68 : decode cX5_pourRest 68 = .ok (.iconst 0, 1) := by decide +kernel
theorem dX5_pourRest_69 : decode cX5_pourRest 69 = .ok (.ireturn, 1) := by decide +kernel
theorem dX5_pourRest_70 : decode cX5_pourRest 70 = .ok (.aload_n 0, 1) := by decide +kernel
theorem dX5_pourRest_71 : decode cX5_pourRest 71 = .ok (.iload_n 1, 1) := by decide +kernel
theorem dX5_pourRest_72 : decode cX5_pourRest 72 = .ok (.invokevirtual 139, 3) := by decide +kernel
theorem dX5_pourRest_75 : decode cX5_pourRest 75 = .ok (.ifCond .ne 40, 3) := by decide +kernel
theorem dX5_pourRest_78 : decode cX5_pourRest 78 = .ok (.aload_n 0, 1) := by decide +kernel
theorem dX5_pourRest_79 : decode cX5_pourRest 79 = .ok (.getfield 24, 3) := by decide +kernel
theorem dX5_pourRest_82 : decode cX5_pourRest 82 = .ok (.iload_n 1, 1) := by decide +kernel
theorem dX5_pourRest_83 : decode cX5_pourRest 83 = .ok (.iaload, 1) := by decide +kernel
theorem dX5_pourRest_84 : decode cX5_pourRest 84 = .ok (.iconst 1, 1) := by decide +kernel
theorem dX5_pourRest_85 : decode cX5_pourRest 85 = .ok (.if_icmp .eq 30, 3) := by decide +kernel
theorem dX5_pourRest_88 : decode cX5_pourRest 88 = .ok (.iload_n 2, 1) := by decide +kernel
theorem dX5_pourRest_89 : decode cX5_pourRest 89 = .ok (.invokestatic 67, 3) := by decide +kernel
theorem dX5_pourRest_92 : decode cX5_pourRest 92 = .ok (.ifCond .ne 23, 3) := by decide +kernel
theorem dX5_pourRest_95 : decode cX5_pourRest 95 = .ok (.aload_n 0, 1) := by decide +kernel
theorem dX5_pourRest_96 : decode cX5_pourRest 96 = .ok (.aload_n 0, 1) := by decide +kernel
theorem dX5_pourRest_97 : decode cX5_pourRest 97 = .ok (.getfield 21, 3) := by decide +kernel
theorem dX5_pourRest_100 : decode cX5_pourRest 100 = .ok (.iload_n 1, 1) := by decide +kernel
theorem dX5_pourRest_101 : decode cX5_pourRest 101 = .ok (.iaload, 1) := by decide +kernel
theorem dX5_pourRest_102 : decode cX5_pourRest 102 = .ok (.invokevirtual 123, 3) := by decide +kernel
theorem dX5_pourRest_105 : decode cX5_pourRest 105 = .ok (.ifCond .eq 15, 3) := by decide +kernel
theorem dX5_pourRest_108 : decode cX5_pourRest 108 = .ok (.iload_n 2, 1) := by decide +kernel
theorem dX5_pourRest_109 : decode cX5_pourRest 109 = .ok (.invokestatic 96, 3) := by decide +kernel
theorem dX5_pourRest_112 : decode cX5_pourRest 112 = .ok (.ifCond .ne 8, 3) := by decide +kernel
theorem dX5_pourRest_115 : decode cX5_pourRest 115 = .ok (.aload_n 0, 1) := by decide +kernel
theorem dX5_pourRest_116 : decode cX5_pourRest 116 = .ok (.invokevirtual 99, 3) := by decide +kernel
theorem dX5_pourRest_119 : decode cX5_pourRest 119 = .ok (.ireturn, 1) := by decide +kernel
theorem dX5_pourRest_120 : decode cX5_pourRest 120 = .ok (.aload_n 0, 1) := by decide +kernel
theorem dX5_pourRest_121 : decode cX5_pourRest 121 = .ok (.iload_n 1, 1) := by decide +kernel
theorem dX5_pourRest_122 : decode cX5_pourRest 122 = .ok (.invokevirtual 176, 3) := by decide +kernel
theorem dX5_pourRest_125 : decode cX5_pourRest 125 = .ok (.astore 4, 2) := by decide +kernel
theorem dX5_pourRest_127 : decode cX5_pourRest 127 = .ok (.aload_n 0, 1) := by decide +kernel
theorem dX5_pourRest_128 : decode cX5_pourRest 128 = .ok (.iload_n 2, 1) := by decide +kernel
theorem dX5_pourRest_129 : decode cX5_pourRest 129 = .ok (.aload 4, 2) := by decide +kernel
theorem dX5_pourRest_131 : decode cX5_pourRest 131 = .ok (.aload 4, 2) := by decide +kernel
theorem dX5_pourRest_133 : decode cX5_pourRest 133 = .ok (.arraylength, 1) := by decide +kernel
theorem dX5_pourRest_134 : decode cX5_pourRest 134 = .ok (.invokevirtual 103, 3) := by decide +kernel
theorem dX5_pourRest_137 : decode cX5_pourRest 137 = .ok (.pop, 1) := by decide +kernel
theorem dX5_pourRest_138 : decode cX5_pourRest 138 = .ok (.aload 4, 2) := by decide +kernel
theorem dX5_pourRest_140 : decode cX5_pourRest 140 = .ok (.arraylength, 1) := by decide +kernel
theorem dX5_pourRest_141 : decode cX5_pourRest 141 = .ok (.ireturn, 1) := by decide +kernel
theorem dX5_zip_0 : decode cX5_zip 0 = .ok (.aload_n 0, 1) := by decide +kernel
theorem dX5_zip_1 : decode cX5_zip 1 = .ok (.iload_n 1, 1) := by decide +kernel
theorem dX5_zip_2 : decode cX5_zip 2 = .ok (.invokestatic 133, 3) := by decide +kernel
theorem dX5_zip_5 : decode cX5_zip 5 = .ok (.ifCond .ne 10, 3) := by decide +kernel
theorem dX5_zip_8 : decode cX5_zip 8 = .ok (.iload_n 2, 1) := by decide +kernel
theorem dX5_zip_9 : decode cX5_zip 9 = .ok (.invokestatic 133, 3) := by decide +kernel
theorem dX5_zip_12 : decode cX5_zip 12 = .ok (.ifCond .eq 7, 3) := by decide +kernel
theorem dX5_zip_15 : decode cX5_zip 15 = .ok (.iconst 1, 1) := by decide +kernel
theorem dX5_zip_16 : decode cX5_zip 16 = .ok (.goto 4, 3) := by decide +kernel
theorem dX5_zip_19 : decode cX5_zip 19 = .ok (.iconst 0, 1) := by decide +kernel
theorem dX5_zip_20 : decode cX5_zip 20 = .ok (.iload_n 1, 1) := by decide +kernel
theorem dX5_zip_21 : decode cX5_zip 21 = .ok (.iload_n 2, 1) := by decide +kernel
theorem dX5_zip_22 : decode cX5_zip 22 = .ok (.if_icmp .ne 7, 3) := by decide +kernel
theorem dX5_zip_25 : decode cX5_zip 25 = .ok (.iconst 1, 1) := by decide +kernel
theorem dX5_zip_26 : decode cX5_zip 26 = .ok (.goto 4, 3) := by decide +kernel
theorem dX5_zip_29 : decode cX5_zip 29 = .ok (.iconst 0, 1) := by decide +kernel
theorem dX5_zip_30 : decode cX5_zip 30 = .ok (.aload_n 0, 1) := by decide +kernel
theorem dX5_zip_31 : decode cX5_zip 31 = .ok (.iload_n 1, 1) := by decide +kernel
theorem dX5_zip_32 : decode cX5_zip 32 = .ok (.invokevirtual 136, 3) := by decide +kernel
theorem dX5_zip_35 : decode cX5_zip 35 = .ok (.ifCond .ne 11, 3) := by decide +kernel
theorem dX5_zip_38 : decode cX5_zip 38 = .ok (.aload_n 0, 1) := by decide +kernel
theorem dX5_zip_39 : decode cX5_zip 39 = .ok (.iload_n 2, 1) := by decide +kernel
theorem dX5_zip_40 : decode cX5_zip 40 = .ok (.invokevirtual 136, 3) := by decide +kernel
theorem dX5_zip_43 : decode cX5_zip 43 = .ok (.ifCond .eq 7, 3) := by decide +kernel
theorem dX5_zip_46 : decode cX5_zip 46 = .ok (.iconst 1, 1) := by decide +kernel
theorem dX5_zip_47 : decode cX5_zip 47 = .ok (.goto 4, 3) := by decide +kernel
theorem dX5_zip_50 : decode cX5_zip 50 = .ok (.iconst 0, 1) := by decide +kernel
theorem dX5_zip_51 : decode cX5_zip 51 = .ok (.invokevirtual 50, 3) := by decide +kernel
theorem dX5_zip_54 : decode cX5_zip 54 = .ok (.ifCond .eq 6, 3) := by decide +kernel
theorem dX5_zip_57 : decode cX5_zip 57 = .ok (.ldc 154, 2) := by decide +kernel
theorem dX5_zip_59 : decode cX5_zip 59 = .ok (.areturn, 1) := by decide +kernel
theorem dX5_zip_60 : decode cX5_zip 60 = .ok (.aload_n 0, 1) := by decide +kernel
theorem dX5_zip_61 : decode cX5_zip 61 = .ok (.iload_n 1, 1) := by decide +kernel
theorem dX5_zip_62 : decode cX5_zip 62 = .ok (.invokevirtual 139, 3) := by decide +kernel
theorem dX5_zip_65 : decode cX5_zip 65 = .ok (.ifCond .ne 11, 3) := by decide +kernel
theorem dX5_zip_68 : decode cX5_zip 68 = .ok (.aload_n 0, 1) := by decide +kernel
theorem dX5_zip_69 : decode cX5_zip 69 = .ok (.iload_n 2, 1) := by decide +kernel
theorem dX5_zip_70 : decode cX5_zip 70 = .ok (.invokevirtual 139, 3) := by decide +kernel
theorem dX5_zip_73 : decode cX5_zip 73 = .ok (.ifCond .eq 8, 3) := by decide +kernel
theorem dX5_zip_76 : decode cX5_zip 76 = .ok (.aload_n 0, 1) := by decide +kernel
theorem dX5_zip_77 : decode cX5_zip 77 = .ok (.invokevirtual 173, 3) := by decide +kernel
theorem dX5_zip_80 : decode cX5_zip 80 = .ok (.areturn, 1) := by decide +kernel
theorem dX5_zip_81 : decode cX5_zip 81 = .ok (.ldc 154, 2) := by decide +kernel
theorem dX5_zip_83 : decode cX5_zip 83 = .ok (.astore_n 3, 1) := by decide +kernel
theorem dX5_zip_84 : decode cX5_zip 84 = .ok (.aload_n 0, 1) := by decide +kernel
theorem dX5_zip_85 : decode cX5_zip 85 = .ok (.iload_n 1, 1) := by decide +kernel
theorem dX5_zip_86 : decode cX5_zip 86 = .ok (.invokevirtual 142, 3) := by decide +kernel
theorem dX5_zip_89 : decode cX5_zip 89 = .ok (.ifCond .eq 73, 3) := by decide +kernel
theorem dX5_zip_92 : decode cX5_zip 92 = .ok (.aload_n 0, 1) := by decide +kernel
theorem dX5_zip_93 : decode cX5_zip 93 = .ok (.iload_n 2, 1) := by decide +kernel
theorem dX5_zip_94 : decode cX5_zip 94 = .ok (.invokevirtual 142, 3) := by decide +kernel
theorem dX5_zip_97 : decode cX5_zip 97 = .ok (.ifCond .eq 65, 3) := by decide +kernel
theorem dX5_zip_100 : decode cX5_zip 100 = .ok (.new 151, 3) := by decide +kernel
theorem dX5_zip_103 : decode cX5_zip 103 = .ok (.dup, 1) := by decide +kernel
theorem dX5_zip_104 : decode cX5_zip 104 = .ok (.invokespecial 153, 3) := by decide +kernel
theorem dX5_zip_107 : decode cX5_zip 107 = .ok (.aload_n 3, 1) := by decide +kernel
theorem dX5_zip_108 : decode cX5_zip 108 = .ok (.invokevirtual 156, 3) := by decide +kernel
theorem dX5_zip_111 : decode cX5_zip 111 = .ok (.aload_n 3, 1) := by decide +kernel
theorem dX5_zip_112 : decode cX5_zip 112 = .ok (.invokevirtual 191, 3) := by decide +kernel
theorem dX5_zip_115 : decode cX5_zip 115 = .ok (.ifCond .eq 8, 3) := by decide +kernel
theorem dX5_zip_118 : decode cX5_zip 118 = .ok (.ldc 154, 2) := by decide +kernel
theorem dX5_zip_120 : decode cX5_zip 120 = .ok (.goto 5, 3) := by decide +kernel
theorem dX5_zip_123 : decode cX5_zip 123 = .ok (.ldc 167, 2) := by decide +kernel
theorem dX5_zip_125 : decode cX5_zip 125 = .ok (.invokevirtual 156, 3) := by decide +kernel
theorem dX5_zip_128 : decode cX5_zip 128 = .ok (.aload_n 0, 1) := by decide +kernel
theorem dX5_zip_129 : decode cX5_zip 129 = .ok (.iload_n 1, 1) := by decide +kernel
theorem dX5_zip_130 : decode cX5_zip 130 = .ok (.invokevirtual 145, 3) := by decide +kernel
theorem dX5_zip_133 : decode cX5_zip 133 = .ok (.invokestatic 169, 3) := by decide +kernel
theorem dX5_zip_136 : decode cX5_zip 136 = .ok (.invokevirtual 156, 3) := by decide +kernel
theorem dX5_zip_139 : decode cX5_zip 139 = .ok (.ldc 197, 2) := by decide +kernel
theorem dX5_zip_141 : decode cX5_zip 141 = .ok (.invokevirtual 156, 3) := by decide +kernel
theorem dX5_zip_144 : decode cX5_zip 144 = .ok (.aload_n 0, 1) := by decide +kernel
theorem dX5_zip_145 : decode cX5_zip 145 = .ok (.iload_n 2, 1) := by decide +kernel
theorem dX5_zip_146 : decode cX5_zip 146 = .ok (.invokevirtual 145, 3) := by decide +kernel
theorem dX5_zip_149 : decode cX5_zip 149 = .ok (.invokestatic 169, 3) := by decide +kernel
theorem dX5_zip_152 : decode cX5_zip 152 = .ok (.invokevirtual 156, 3) := by decide +kernel
theorem dX5_zip_155 : decode cX5_zip 155 = .ok (.invokevirtual 163, 3) := by decide +kernel
theorem dX5_zip_158 : decode cX5_zip 158 = .ok (.astore_n 3, 1) := by decide +kernel
theorem dX5_zip_159 : decode cX5_zip 159 = .ok (.goto (-75), 3) := by decide +kernel
theorem dX5_zip_162 : decode cX5_zip 162 = .ok (.aload_n 3, 1) := by decide +kernel
theorem dX5_zip_163 : decode cX5_zip 163 = .ok (.areturn, 1) := by decide +kernel
theorem dX5_text__0 : decode cX5_text_ 0 = .ok (.aload_n 0, 1) := by decide +kernel
theorem dX5_text__1 : decode cX5_text_ 1 = .ok (.iload_n 1, 1) := by decide +kernel
theorem dX5_text__2 : decode cX5_text_ 2 = .ok (.invokestatic 63, 3) := by decide +kernel
theorem dX5_text__5 : decode cX5_text_ 5 = .ok (.invokevirtual 116, 3) := by decide +kernel
theorem dX5_text__8 : decode cX5_text_ 8 = .ok (.ifCond .eq 8, 3) := by decide +kernel
theorem dX5_text__11 : decode cX5_text_ 11 = .ok (.ldc 154, 2) := by decide +kernel
theorem dX5_text__13 : decode cX5_text_ 13 = .ok (.goto 12, 3) := by decide +kernel
theorem dX5_text__16 : decode cX5_text_ 16 = .ok (.aload_n 0, 1) := by decide +kernel
theorem dX5_text__17 : decode cX5_text_ 17 = .ok (.iload_n 1, 1) := by decide +kernel
theorem dX5_text__18 : decode cX5_text_ 18 = .ok (.iconst 0, 1) := by decide +kernel
theorem dX5_text__19 : decode cX5_text_ 19 = .ok (.invokevirtual 126, 3) := by decide +kernel
theorem dX5_text__22 : decode cX5_text_ 22 = .ok (.invokestatic 180, 3) := by decide +kernel
theorem dX5_text__25 : decode cX5_text_ 25 = .ok (.areturn, 1) := by decide +kernel
theorem dX5_list_0 : decode cX5_list 0 = .ok (.aload_n 0, 1) := by decide +kernel
theorem dX5_list_1 : decode cX5_list 1 = .ok (.iload_n 1, 1) := by decide +kernel
theorem dX5_list_2 : decode cX5_list 2 = .ok (.invokevirtual 199, 3) := by decide +kernel
theorem dX5_list_5 : decode cX5_list 5 = .ok (.areturn, 1) := by decide +kernel
theorem dX5_size_0 : decode cX5_size 0 = .ok (.aload_n 0, 1) := by decide +kernel
theorem dX5_size_1 : decode cX5_size 1 = .ok (.iload_n 1, 1) := by decide +kernel
theorem dX5_size_2 : decode cX5_size 2 = .ok (.invokestatic 63, 3) := by decide +kernel
theorem dX5_size_5 : decode cX5_size 5 = .ok (.invokevirtual 116, 3) := by decide +kernel
theorem dX5_size_8 : decode cX5_size 8 = .ok (.ifCond .eq 7, 3) := by decide +kernel
theorem dX5_size_11 : decode cX5_size 11 = .ok (.iconst 0, 1) := by decide +kernel
theorem dX5_size_12 : decode cX5_size 12 = .ok (.goto 9, 3) := by decide +kernel
theorem dX5_size_15 : decode cX5_size 15 = .ok (.aload_n 0, 1) := by decide +kernel
theorem dX5_size_16 : decode cX5_size 16 = .ok (.getfield 14, 3) := by decide +kernel
theorem dX5_size_19 : decode cX5_size 19 = .ok (.iload_n 1, 1) := by decide +kernel
theorem dX5_size_20 : decode cX5_size 20 = .ok (.iaload, 1) := by decide +kernel
theorem dX5_size_21 : decode cX5_size 21 = .ok (.ireturn, 1) := by decide +kernel
theorem dX5_isEmpty_0 : decode cX5_isEmpty 0 = .ok (.aload_n 0, 1) := by decide +kernel
theorem dX5_isEmpty_1 : decode cX5_isEmpty 1 = .ok (.iload_n 1, 1) := by decide +kernel
theorem dX5_isEmpty_2 : decode cX5_isEmpty 2 = .ok (.invokestatic 63, 3) := by decide +kernel
theorem dX5_isEmpty_5 : decode cX5_isEmpty 5 = .ok (.invokevirtual 116, 3) := by decide +kernel
theorem dX5_isEmpty_8 : decode cX5_isEmpty 8 = .ok (.ifCond .ne 16, 3) := by decide +kernel
theorem dX5_isEmpty_11 : decode cX5_isEmpty 11 = .ok (.aload_n 0, 1) := by decide +kernel
theorem dX5_isEmpty_12 : decode cX5_isEmpty 12 = .ok (.getfield 14, 3) := by decide +kernel
theorem dX5_isEmpty_15 : decode cX5_isEmpty 15 = .ok (.iload_n 1, 1) := by decide +kernel
theorem dX5_isEmpty_16 : decode cX5_isEmpty 16 = .ok (.iaload, 1) := by decide +kernel
theorem dX5_isEmpty_17 : decode cX5_isEmpty 17 = .ok (.ifCond .ne 7, 3) := by decide +kernel
theorem dX5_isEmpty_20 : decode cX5_isEmpty 20 = .ok (.iconst 1, 1) := by decide +kernel
theorem dX5_isEmpty_21 : decode cX5_isEmpty 21 = .ok (.goto 4, 3) := by decide +kernel
theorem dX5_isEmpty_24 : decode cX5_isEmpty 24 = .ok (.iconst 0, 1) := by decide +kernel
theorem dX5_isEmpty_25 : decode cX5_isEmpty 25 = .ok (.ireturn, 1) := by decide +kernel
theorem dX5_has_0 : decode cX5_has 0 = .ok (.aload_n 0, 1) := by decide +kernel
theorem dX5_has_1 : decode cX5_has 1 = .ok (.iload_n 1, 1) := by decide +kernel
theorem dX5_has_2 : decode cX5_has 2 = .ok (.invokestatic 63, 3) := by decide +kernel
theorem dX5_has_5 : decode cX5_has 5 = .ok (.iload_n 2, 1) := by decide +kernel
theorem dX5_has_6 : decode cX5_has 6 = .ok (.invokestatic 93, 3) := by decide +kernel
theorem dX5_has_9 : decode cX5_has 9 = .ok (.invokevirtual 107, 3) := by decide +kernel
theorem dX5_has_12 : decode cX5_has 12 = .ok (.ifCond .eq 5, 3) := by decide +kernel
theorem dX5_has_15 : decode cX5_has 15 = .ok (.iconst 0, 1) := by decide +kernel
theorem dX5_has_16 : decode cX5_has 16 = .ok (.ireturn, 1) := by decide +kernel
theorem dX5_has_17 : decode cX5_has 17 = .ok (.iload_n 2, 1) := by decide +kernel
theorem dX5_has_18 : decode cX5_has 18 = .ok (.bipush 100, 2) := by decide +kernel
theorem dX5_has_20 : decode cX5_has 20 = .ok (.if_icmp .ne 17, 3) := by decide +kernel
theorem dX5_has_23 : decode cX5_has 23 = .ok (.iload_n 1, 1) := by decide +kernel
theorem dX5_has_24 : decode cX5_has 24 = .ok (.invokestatic 96, 3) := by decide +kernel
theorem dX5_has_27 : decode cX5_has 27 = .ok (.ifCond .ne 10, 3) := by decide +kernel
theorem dX5_has_30 : decode cX5_has 30 = .ok (.aload_n 0, 1) := by decide +kernel
theorem dX5_has_31 : decode cX5_has 31 = .ok (.invokevirtual 99, 3) := by decide +kernel
theorem dX5_has_34 : decode cX5_has 34 = .ok (.goto 20, 3) := by decide +kernel
theorem dX5_has_37 : decode cX5_has 37 = .ok (.aload_n 0, 1) := by decide +kernel
theorem dX5_has_38 : decode cX5_has 38 = .ok (.iload_n 1, 1) := by decide +kernel
theorem dX5_has_39 : decode cX5_has 39 = .ok (.iload_n 2, 1) := by decide +kernel
theorem dX5_has_40 : decode cX5_has 40 = .ok (.invokevirtual 73, 3) := by decide +kernel
theorem dX5_has_43 : decode cX5_has 43 = .ok (.ifCond .le 7, 3) := by decide +kernel
theorem dX5_has_46 : decode cX5_has 46 = .ok (.iconst 1, 1) := by decide +kernel
theorem dX5_has_47 : decode cX5_has 47 = .ok (.goto 4, 3) := by decide +kernel
theorem dX5_has_50 : decode cX5_has 50 = .ok (.iconst 0, 1) := by decide +kernel
theorem dX5_has_51 : decode cX5_has 51 = .ok (.invokestatic 77, 3) := by decide +kernel
theorem dX5_has_54 : decode cX5_has 54 = .ok (.ireturn, 1) := by decide +kernel
theorem dX5_often_0 : decode cX5_often 0 = .ok (.aload_n 0, 1) := by decide +kernel
theorem dX5_often_1 : decode cX5_often 1 = .ok (.iload_n 1, 1) := by decide +kernel
theorem dX5_often_2 : decode cX5_often 2 = .ok (.invokestatic 63, 3) := by decide +kernel
theorem dX5_often_5 : decode cX5_often 5 = .ok (.iload_n 2, 1) := by decide +kernel
theorem dX5_often_6 : decode cX5_often 6 = .ok (.invokestatic 93, 3) := by decide +kernel
theorem dX5_often_9 : decode cX5_often 9 = .ok (.invokevirtual 107, 3) := by decide +kernel
theorem dX5_often_12 : decode cX5_often 12 = .ok (.ifCond .eq 7, 3) := by decide +kernel
theorem dX5_often_15 : decode cX5_often 15 = .ok (.iconst 0, 1) := by decide +kernel
theorem dX5_often_16 : decode cX5_often 16 = .ok (.goto 9, 3) := by decide +kernel
theorem dX5_often_19 : decode cX5_often 19 = .ok (.aload_n 0, 1) := by decide +kernel
theorem dX5_often_20 : decode cX5_often 20 = .ok (.iload_n 1, 1) := by decide +kernel
theorem dX5_often_21 : decode cX5_often 21 = .ok (.iload_n 2, 1) := by decide +kernel
theorem dX5_often_22 : decode cX5_often 22 = .ok (.invokevirtual 73, 3) := by decide +kernel
theorem dX5_often_25 : decode cX5_often 25 = .ok (.ireturn, 1) := by decide +kernel
theorem dX5_placeOf_0 : decode cX5_placeOf 0 = .ok (.aload_n 0, 1) := by decide +kernel
theorem dX5_placeOf_1 : decode cX5_placeOf 1 = .ok (.iload_n 1, 1) := by decide +kernel
theorem dX5_placeOf_2 : decode cX5_placeOf 2 = .ok (.invokestatic 70, 3) := by decide +kernel
theorem dX5_placeOf_5 : decode cX5_placeOf 5 = .ok (.iload_n 2, 1) := by decide +kernel
theorem dX5_placeOf_6 : decode cX5_placeOf 6 = .ok (.invokestatic 93, 3) := by decide +kernel
theorem dX5_placeOf_9 : decode cX5_placeOf 9 = .ok (.invokevirtual 107, 3) := by decide +kernel
theorem dX5_placeOf_12 : decode cX5_placeOf 12 = .ok (.ifCond .eq 5, 3) := by decide +kernel
theorem dX5_placeOf_15 : decode cX5_placeOf 15 = .ok (.iconst 0, 1) := by decide +kernel
theorem dX5_placeOf_16 : decode cX5_placeOf 16 = .ok (.ireturn, 1) := by decide +kernel
theorem dX5_placeOf_17 : decode cX5_placeOf 17 = .ok (.aload_n 0, 1) := by decide +kernel
theorem dX5_placeOf_18 : decode cX5_placeOf 18 = .ok (.iload_n 1, 1) := by decide +kernel
theorem dX5_placeOf_19 : decode cX5_placeOf 19 = .ok (.iload_n 2, 1) := by decide +kernel
theorem dX5_placeOf_20 : decode cX5_placeOf 20 = .ok (.invokevirtual 110, 3) := by decide +kernel
theorem dX5_placeOf_23 : decode cX5_placeOf 23 = .ok (.istore 4, 2) := by decide +kernel
theorem dX5_placeOf_25 : decode cX5_placeOf 25 = .ok (.iconst 0, 1) := by decide +kernel
theorem dX5_placeOf_26 : decode cX5_placeOf 26 = .ok (.istore 5, 2) := by decide +kernel
theorem dX5_placeOf_28 : decode cX5_placeOf 28 = .ok (.iload_n 3, 1) := by decide +kernel
theorem dX5_placeOf_29 : decode cX5_placeOf 29 = .ok (.ifCond .eq 42, 3) := by decide +kernel
theorem dX5_placeOf_32 : decode cX5_placeOf 32 = .ok (.iload 5, 2) := by decide +kernel
theorem dX5_placeOf_34 : decode cX5_placeOf 34 = .ok (.aload_n 0, 1) := by decide +kernel
theorem dX5_placeOf_35 : decode cX5_placeOf 35 = .ok (.getfield 14, 3) := by decide +kernel
theorem dX5_placeOf_38 : decode cX5_placeOf 38 = .ok (.iload_n 1, 1) := by decide +kernel
theorem dX5_placeOf_39 : decode cX5_placeOf 39 = .ok (.iaload, 1) := by decide +kernel
theorem dX5_placeOf_40 : decode cX5_placeOf 40 = .ok (.if_icmp .ge 31, 3) := by decide +kernel
theorem dX5_placeOf_43 : decode cX5_placeOf 43 = .ok (.aload_n 0, 1) := by decide +kernel
theorem dX5_placeOf_44 : decode cX5_placeOf 44 = .ok (.getfield 11, 3) := by decide +kernel
theorem dX5_placeOf_47 : decode cX5_placeOf 47 = .ok (.iload_n 1, 1) := by decide +kernel
theorem dX5_placeOf_48 : decode cX5_placeOf 48 = .ok (.aaload, 1) := by decide +kernel
theorem dX5_placeOf_49 : decode cX5_placeOf 49 = .ok (.iload 5, 2) := by decide +kernel
theorem dX5_placeOf_51 : decode cX5_placeOf 51 = .ok (.iaload, 1) := by decide +kernel
theorem dX5_placeOf_52 : decode cX5_placeOf 52 = .ok (.iload_n 2, 1) := by decide +kernel
theorem dX5_placeOf_53 : decode cX5_placeOf 53 = .ok (.if_icmp .ne 8, 3) := by decide +kernel
theorem dX5_placeOf_56 : decode cX5_placeOf 56 = .ok (.iload 5, 2) := by decide +kernel
theorem dX5_placeOf_58 : decode cX5_placeOf 58 = .ok (.goto 5, 3) := by decide +kernel
theorem dX5_placeOf_61 : decode cX5_placeOf 61 = .ok (.iload 4, 2) := by decide +kernel
theorem dX5_placeOf_63 : decode cX5_placeOf 63 = .ok (.istore 4, 2) := by decide +kernel
theorem dX5_placeOf_65 : decode cX5_placeOf 65 = .ok (.iinc 5 1, 3) := by decide +kernel
theorem dX5_placeOf_68 : decode cX5_placeOf 68 = .ok (.goto (-40), 3) := by decide +kernel
theorem dX5_placeOf_71 : decode cX5_placeOf 71 = .ok (.iload 4, 2) := by decide +kernel
theorem dX5_placeOf_73 : decode cX5_placeOf 73 = .ok (.ireturn, 1) := by decide +kernel
theorem dX5_disjoint_0 : decode cX5_disjoint 0 = .ok (.aload_n 0, 1) := by decide +kernel
theorem dX5_disjoint_1 : decode cX5_disjoint 1 = .ok (.iload_n 1, 1) := by decide +kernel
theorem dX5_disjoint_2 : decode cX5_disjoint 2 = .ok (.invokestatic 63, 3) := by decide +kernel
theorem dX5_disjoint_5 : decode cX5_disjoint 5 = .ok (.ifCond .ne 10, 3) := by decide +kernel
theorem dX5_disjoint_8 : decode cX5_disjoint 8 = .ok (.iload_n 2, 1) := by decide +kernel
theorem dX5_disjoint_9 : decode cX5_disjoint 9 = .ok (.invokestatic 63, 3) := by decide +kernel
theorem dX5_disjoint_12 : decode cX5_disjoint 12 = .ok (.ifCond .eq 7, 3) := by decide +kernel
theorem dX5_disjoint_15 : decode cX5_disjoint 15 = .ok (.iconst 1, 1) := by decide +kernel
theorem dX5_disjoint_16 : decode cX5_disjoint 16 = .ok (.goto 4, 3) := by decide +kernel
theorem dX5_disjoint_19 : decode cX5_disjoint 19 = .ok (.iconst 0, 1) := by decide +kernel
theorem dX5_disjoint_20 : decode cX5_disjoint 20 = .ok (.invokevirtual 116, 3) := by decide +kernel
theorem dX5_disjoint_23 : decode cX5_disjoint 23 = .ok (.ifCond .eq 5, 3) := by decide +kernel
theorem dX5_disjoint_26 : decode cX5_disjoint 26 = .ok (.iconst 0, 1) := by decide +kernel
theorem dX5_disjoint_27 : decode cX5_disjoint 27 = .ok (.ireturn, 1) := by decide +kernel
theorem dX5_disjoint_28 : decode cX5_disjoint 28 = .ok (.aload_n 0, 1) := by decide +kernel
theorem dX5_disjoint_29 : decode cX5_disjoint 29 = .ok (.iload_n 1, 1) := by decide +kernel
theorem dX5_disjoint_30 : decode cX5_disjoint 30 = .ok (.invokevirtual 123, 3) := by decide +kernel
theorem dX5_disjoint_33 : decode cX5_disjoint 33 = .ok (.ifCond .eq 10, 3) := by decide +kernel
theorem dX5_disjoint_36 : decode cX5_disjoint 36 = .ok (.iload_n 2, 1) := by decide +kernel
theorem dX5_disjoint_37 : decode cX5_disjoint 37 = .ok (.invokestatic 96, 3) := by decide +kernel
theorem dX5_disjoint_40 : decode cX5_disjoint 40 = .ok (.ifCond .eq 18, 3) := by decide +kernel
theorem dX5_disjoint_43 : decode cX5_disjoint 43 = .ok (.aload_n 0, 1) := by decide +kernel
theorem dX5_disjoint_44 : decode cX5_disjoint 44 = .ok (.iload_n 2, 1) := by decide +kernel
theorem dX5_disjoint_45 : decode cX5_disjoint 45 = .ok (.invokevirtual 123, 3) := by decide +kernel
theorem dX5_disjoint_48 : decode cX5_disjoint 48 = .ok (.ifCond .eq 15, 3) := by decide +kernel
theorem dX5_disjoint_51 : decode cX5_disjoint 51 = .ok (.iload_n 1, 1) := by decide +kernel
theorem dX5_disjoint_52 : decode cX5_disjoint 52 = .ok (.invokestatic 96, 3) := by decide +kernel
theorem dX5_disjoint_55 : decode cX5_disjoint 55 = .ok (.ifCond .ne 8, 3) := by decide +kernel
theorem dX5_disjoint_58 : decode cX5_disjoint 58 = .ok (.aload_n 0, 1) := by decide +kernel
theorem dX5_disjoint_59 : decode cX5_disjoint 59 = .ok (.invokevirtual 99, 3) := by decide +kernel
theorem dX5_disjoint_62 : decode cX5_disjoint 62 = .ok (.ireturn, 1) := by decide +kernel
theorem dX5_disjoint_63 : decode cX5_disjoint 63 = .ok (.iconst 1, 1) := by decide +kernel
theorem dX5_disjoint_64 : decode cX5_disjoint 64 = .ok (.istore_n 3, 1) := by decide +kernel
theorem dX5_disjoint_65 : decode cX5_disjoint 65 = .ok (.iconst 0, 1) := by decide +kernel
theorem dX5_disjoint_66 : decode cX5_disjoint 66 = .ok (.istore 4, 2) := by decide +kernel
theorem dX5_disjoint_68 : decode cX5_disjoint 68 = .ok (.iload 4, 2) := by decide +kernel
theorem dX5_disjoint_70 : decode cX5_disjoint 70 = .ok (.aload_n 0, 1) := by decide +kernel
theorem dX5_disjoint_71 : decode cX5_disjoint 71 = .ok (.getfield 14, 3) := by decide +kernel
theorem dX5_disjoint_74 : decode cX5_disjoint 74 = .ok (.iload_n 1, 1) := by decide +kernel
theorem dX5_disjoint_75 : decode cX5_disjoint 75 = .ok (.iaload, 1) := by decide +kernel
theorem dX5_disjoint_76 : decode cX5_disjoint 76 = .ok (.if_icmp .ge 34, 3) := by decide +kernel
theorem dX5_disjoint_79 : decode cX5_disjoint 79 = .ok (.iload_n 3, 1) := by decide +kernel
theorem dX5_disjoint_80 : decode cX5_disjoint 80 = .ok (.aload_n 0, 1) := by decide +kernel
theorem dX5_disjoint_81 : decode cX5_disjoint 81 = .ok (.iload_n 2, 1) := by decide +kernel
theorem dX5_disjoint_82 : decode cX5_disjoint 82 = .ok (.aload_n 0, 1) := by decide +kernel
theorem dX5_disjoint_83 : decode cX5_disjoint 83 = .ok (.getfield 11, 3) := by decide +kernel
theorem dX5_disjoint_86 : decode cX5_disjoint 86 = .ok (.iload_n 1, 1) := by decide +kernel
theorem dX5_disjoint_87 : decode cX5_disjoint 87 = .ok (.aaload, 1) := by decide +kernel
theorem dX5_disjoint_88 : decode cX5_disjoint 88 = .ok (.iload 4, 2) := by decide +kernel
theorem dX5_disjoint_90 : decode cX5_disjoint 90 = .ok (.iaload, 1) := by decide +kernel
theorem dX5_disjoint_91 : decode cX5_disjoint 91 = .ok (.invokevirtual 73, 3) := by decide +kernel
theorem dX5_disjoint_94 : decode cX5_disjoint 94 = .ok (.ifCond .ne 7, 3) := by decide +kernel
theorem dX5_disjoint_97 : decode cX5_disjoint 97 = .ok (.iconst 1, 1) := by decide +kernel
theorem dX5_disjoint_98 : decode cX5_disjoint 98 = .ok (.goto 4, 3) := by decide +kernel
theorem dX5_disjoint_101 : decode cX5_disjoint 101 = .ok (.iconst 0, 1) := by decide +kernel
theorem dX5_disjoint_102 : decode cX5_disjoint 102 = .ok (.iand, 1) := by decide +kernel
theorem dX5_disjoint_103 : decode cX5_disjoint 103 = .ok (.istore_n 3, 1) := by decide +kernel
theorem dX5_disjoint_104 : decode cX5_disjoint 104 = .ok (.iinc 4 1, 3) := by decide +kernel
theorem dX5_disjoint_107 : decode cX5_disjoint 107 = .ok (.goto (-39), 3) := by decide +kernel
theorem dX5_disjoint_110 : decode cX5_disjoint 110 = .ok (.iload_n 3, 1) := by decide +kernel
theorem dX5_disjoint_111 : decode cX5_disjoint 111 = .ok (.invokestatic 77, 3) := by decide +kernel
theorem dX5_disjoint_114 : decode cX5_disjoint 114 = .ok (.ireturn, 1) := by decide +kernel
theorem dX5_end_0 : decode cX5_end 0 = .ok (.aload_n 0, 1) := by decide +kernel
theorem dX5_end_1 : decode cX5_end 1 = .ok (.iload_n 1, 1) := by decide +kernel
theorem dX5_end_2 : decode cX5_end 2 = .ok (.invokestatic 63, 3) := by decide +kernel
theorem dX5_end_5 : decode cX5_end 5 = .ok (.invokevirtual 116, 3) := by decide +kernel
theorem dX5_end_8 : decode cX5_end 8 = .ok (.ifCond .eq 5, 3) := by decide +kernel
theorem dX5_end_11 : decode cX5_end 11 = .ok (.iconst 0, 1) := by decide +kernel
theorem dX5_end_12 : decode cX5_end 12 = .ok (.ireturn, 1) := by decide +kernel
theorem dX5_end_13 : decode cX5_end 13 = .ok (.aload_n 0, 1) := by decide +kernel
theorem dX5_end_14 : decode cX5_end 14 = .ok (.getfield 14, 3) := by decide +kernel
theorem dX5_end_17 : decode cX5_end 17 = .ok (.iload_n 1, 1) := by decide +kernel
theorem dX5_end_18 : decode cX5_end 18 = .ok (.iaload, 1) := by decide +kernel
theorem dX5_end_19 : decode cX5_end 19 = .ok (.ifCond .eq 11, 3) := by decide +kernel
theorem dX5_end_22 : decode cX5_end 22 = .ok (.aload_n 0, 1) := by decide +kernel
theorem dX5_end_23 : decode cX5_end 23 = .ok (.iload_n 1, 1) := by decide +kernel
theorem dX5_end_24 : decode cX5_end 24 = .ok (.invokevirtual 123, 3) := by decide +kernel
theorem dX5_end_27 : decode cX5_end 27 = .ok (.ifCond .eq 8, 3) := by decide +kernel
theorem dX5_end_30 : decode cX5_end 30 = .ok (.aload_n 0, 1) := by decide +kernel
theorem dX5_end_31 : decode cX5_end 31 = .ok (.invokevirtual 99, 3) := by decide +kernel
theorem dX5_end_34 : decode cX5_end 34 = .ok (.ireturn, 1) := by decide +kernel
theorem dX5_end_35 : decode cX5_end 35 = .ok (.aload_n 0, 1) := by decide +kernel
theorem dX5_end_36 : decode cX5_end 36 = .ok (.getfield 11, 3) := by decide +kernel
theorem dX5_end_39 : decode cX5_end 39 = .ok (.iload_n 1, 1) := by decide +kernel
theorem dX5_end_40 : decode cX5_end 40 = .ok (.aaload, 1) := by decide +kernel
theorem dX5_end_41 : decode cX5_end 41 = .ok (.iconst 0, 1) := by decide +kernel
theorem dX5_end_42 : decode cX5_end 42 = .ok (.iaload, 1) := by decide +kernel
theorem dX5_end_43 : decode cX5_end 43 = .ok (.istore_n 3, 1) := by decide +kernel
theorem dX5_end_44 : decode cX5_end 44 = .ok (.iconst 1, 1) := by decide +kernel
theorem dX5_end_45 : decode cX5_end 45 = .ok (.istore 4, 2) := by decide +kernel
theorem dX5_end_47 : decode cX5_end 47 = .ok (.iload 4, 2) := by decide +kernel
theorem dX5_end_49 : decode cX5_end 49 = .ok (.aload_n 0, 1) := by decide +kernel
theorem dX5_end_50 : decode cX5_end 50 = .ok (.getfield 14, 3) := by decide +kernel
theorem dX5_end_53 : decode cX5_end 53 = .ok (.iload_n 1, 1) := by decide +kernel
theorem dX5_end_54 : decode cX5_end 54 = .ok (.iaload, 1) := by decide +kernel
theorem dX5_end_55 : decode cX5_end 55 = .ok (.if_icmp .ge 43, 3) := by decide +kernel
theorem dX5_end_58 : decode cX5_end 58 = .ok (.iload_n 2, 1) := by decide +kernel
theorem dX5_end_59 : decode cX5_end 59 = .ok (.ifCond .eq 19, 3) := by decide +kernel
theorem dX5_end_62 : decode cX5_end 62 = .ok (.iload_n 3, 1) := by decide +kernel
theorem dX5_end_63 : decode cX5_end 63 = .ok (.aload_n 0, 1) := by decide +kernel
theorem dX5_end_64 : decode cX5_end 64 = .ok (.getfield 11, 3) := by decide +kernel
theorem dX5_end_67 : decode cX5_end 67 = .ok (.iload_n 1, 1) := by decide +kernel
theorem dX5_end_68 : decode cX5_end 68 = .ok (.aaload, 1) := by decide +kernel
theorem dX5_end_69 : decode cX5_end 69 = .ok (.iload 4, 2) := by decide +kernel
theorem dX5_end_71 : decode cX5_end 71 = .ok (.iaload, 1) := by decide +kernel
theorem dX5_end_72 : decode cX5_end 72 = .ok (.invokestatic 201, 3) := by decide +kernel
theorem dX5_end_75 : decode cX5_end 75 = .ok (.goto 16, 3) := by decide +kernel
theorem dX5_end_78 : decode cX5_end 78 = .ok (.iload_n 3, 1) := by decide +kernel
theorem dX5_end_79 : decode cX5_end 79 = .ok (.aload_n 0, 1) := by decide +kernel
theorem dX5_end_80 : decode cX5_end 80 = .ok (.getfield 11, 3) := by decide +kernel
theorem dX5_end_83 : decode cX5_end 83 = .ok (.iload_n 1, 1) := by decide +kernel
theorem dX5_end_84 : decode cX5_end 84 = .ok (.aaload, 1) := by decide +kernel
theorem dX5_end_85 : decode cX5_end 85 = .ok (.iload 4, 2) := by decide +kernel
theorem dX5_end_87 : decode cX5_end 87 = .ok (.iaload, 1) := by decide +kernel
theorem dX5_end_88 : decode cX5_end 88 = .ok (.invokestatic 206, 3) := by decide +kernel
theorem dX5_end_91 : decode cX5_end 91 = .ok (.istore_n 3, 1) := by decide +kernel
theorem dX5_end_92 : decode cX5_end 92 = .ok (.iinc 4 1, 3) := by decide +kernel
theorem dX5_end_95 : decode cX5_end 95 = .ok (.goto (-48), 3) := by decide +kernel
theorem dX5_end_98 : decode cX5_end 98 = .ok (.iload_n 3, 1) := by decide +kernel
theorem dX5_end_99 : decode cX5_end 99 = .ok (.ireturn, 1) := by decide +kernel
theorem dX5_code_0 : decode cX5_code 0 = .ok (.aload_n 0, 1) := by decide +kernel
theorem dX5_code_1 : decode cX5_code 1 = .ok (.iload_n 1, 1) := by decide +kernel
theorem dX5_code_2 : decode cX5_code 2 = .ok (.invokestatic 63, 3) := by decide +kernel
theorem dX5_code_5 : decode cX5_code 5 = .ok (.invokevirtual 116, 3) := by decide +kernel
theorem dX5_code_8 : decode cX5_code 8 = .ok (.ifCond .eq 5, 3) := by decide +kernel
theorem dX5_code_11 : decode cX5_code 11 = .ok (.iconst 0, 1) := by decide +kernel
theorem dX5_code_12 : decode cX5_code 12 = .ok (.ireturn, 1) := by decide +kernel
theorem dX5_code_13 : decode cX5_code 13 = .ok (.iconst 1, 1) := by decide +kernel
theorem dX5_code_14 : decode cX5_code 14 = .ok (.istore_n 2, 1) := by decide +kernel
theorem dX5_code_15 : decode cX5_code 15 = .ok (.iconst 0, 1) := by decide +kernel
theorem dX5_code_16 : decode cX5_code 16 = .ok (.istore_n 3, 1) := by decide +kernel
theorem dX5_code_17 : decode cX5_code 17 = .ok (.iload_n 3, 1) := by decide +kernel
theorem dX5_code_18 : decode cX5_code 18 = .ok (.aload_n 0, 1) := by decide +kernel
theorem dX5_code_19 : decode cX5_code 19 = .ok (.getfield 14, 3) := by decide +kernel
theorem dX5_code_22 : decode cX5_code 22 = .ok (.iload_n 1, 1) := by decide +kernel
theorem dX5_code_23 : decode cX5_code 23 = .ok (.iaload, 1) := by decide +kernel
theorem dX5_code_24 : decode cX5_code 24 = .ok (.if_icmp .ge 26, 3) := by decide +kernel
theorem dX5_code_27 : decode cX5_code 27 = .ok (.iload_n 2, 1) := by decide +kernel
theorem dX5_code_28 : decode cX5_code 28 = .ok (.bipush 31, 2) := by decide +kernel
theorem dX5_code_30 : decode cX5_code 30 = .ok (.imul, 1) := by decide +kernel
theorem dX5_code_31 : decode cX5_code 31 = .ok (.aload_n 0, 1) := by decide +kernel
theorem dX5_code_32 : decode cX5_code 32 = .ok (.getfield 11, 3) := by decide +kernel
theorem dX5_code_35 : decode cX5_code 35 = .ok (.iload_n 1, 1) := by decide +kernel
theorem dX5_code_36 : decode cX5_code 36 = .ok (.aaload, 1) := by decide +kernel
theorem dX5_code_37 : decode cX5_code 37 = .ok (.iload_n 3, 1) := by decide +kernel
theorem dX5_code_38 : decode cX5_code 38 = .ok (.iaload, 1) := by decide +kernel
theorem dX5_code_39 : decode cX5_code 39 = .ok (.bipush 100, 2) := by decide +kernel
theorem dX5_code_41 : decode cX5_code 41 = .ok (.irem, 1) := by decide +kernel
theorem dX5_code_42 : decode cX5_code 42 = .ok (.iadd, 1) := by decide +kernel
theorem dX5_code_43 : decode cX5_code 43 = .ok (.istore_n 2, 1) := by decide +kernel
theorem dX5_code_44 : decode cX5_code 44 = .ok (.iinc 3 1, 3) := by decide +kernel
theorem dX5_code_47 : decode cX5_code 47 = .ok (.goto (-30), 3) := by decide +kernel
theorem dX5_code_50 : decode cX5_code 50 = .ok (.iload_n 2, 1) := by decide +kernel
theorem dX5_code_51 : decode cX5_code 51 = .ok (.ireturn, 1) := by decide +kernel
theorem dX5_areAlike_0 : decode cX5_areAlike 0 = .ok (.aload_n 0, 1) := by decide +kernel
theorem dX5_areAlike_1 : decode cX5_areAlike 1 = .ok (.iload_n 1, 1) := by decide +kernel
theorem dX5_areAlike_2 : decode cX5_areAlike 2 = .ok (.invokestatic 63, 3) := by decide +kernel
theorem dX5_areAlike_5 : decode cX5_areAlike 5 = .ok (.ifCond .ne 10, 3) := by decide +kernel
theorem dX5_areAlike_8 : decode cX5_areAlike 8 = .ok (.iload_n 2, 1) := by decide +kernel
theorem dX5_areAlike_9 : decode cX5_areAlike 9 = .ok (.invokestatic 63, 3) := by decide +kernel
theorem dX5_areAlike_12 : decode cX5_areAlike 12 = .ok (.ifCond .eq 7, 3) := by decide +kernel
theorem dX5_areAlike_15 : decode cX5_areAlike 15 = .ok (.iconst 1, 1) := by decide +kernel
theorem dX5_areAlike_16 : decode cX5_areAlike 16 = .ok (.goto 4, 3) := by decide +kernel
theorem dX5_areAlike_19 : decode cX5_areAlike 19 = .ok (.iconst 0, 1) := by decide +kernel
theorem dX5_areAlike_20 : decode cX5_areAlike 20 = .ok (.invokevirtual 116, 3) := by decide +kernel
theorem dX5_areAlike_23 : decode cX5_areAlike 23 = .ok (.ifCond .eq 5, 3) := by decide +kernel
theorem dX5_areAlike_26 : decode cX5_areAlike 26 = .ok (.iconst 0, 1) := by decide +kernel
theorem dX5_areAlike_27 : decode cX5_areAlike 27 = .ok (.ireturn, 1) := by decide +kernel
theorem dX5_areAlike_28 : decode cX5_areAlike 28 = .ok (.aload_n 0, 1) := by decide +kernel
theorem dX5_areAlike_29 : decode cX5_areAlike 29 = .ok (.getfield 14, 3) := by decide +kernel
theorem dX5_areAlike_32 : decode cX5_areAlike 32 = .ok (.iload_n 1, 1) := by decide +kernel
theorem dX5_areAlike_33 : decode cX5_areAlike 33 = .ok (.iaload, 1) := by decide +kernel
theorem dX5_areAlike_34 : decode cX5_areAlike 34 = .ok (.aload_n 0, 1) := by decide +kernel
theorem dX5_areAlike_35 : decode cX5_areAlike 35 = .ok (.getfield 14, 3) := by decide +kernel
theorem dX5_areAlike_38 : decode cX5_areAlike 38 = .ok (.iload_n 2, 1) := by decide +kernel
theorem dX5_areAlike_39 : decode cX5_areAlike 39 = .ok (.iaload, 1) := by decide +kernel
theorem dX5_areAlike_40 : decode cX5_areAlike 40 = .ok (.if_icmp .ne 7, 3) := by decide +kernel
theorem dX5_areAlike_43 : decode cX5_areAlike 43 = .ok (.iconst 1, 1) := by decide +kernel
theorem dX5_areAlike_44 : decode cX5_areAlike 44 = .ok (.goto 4, 3) := by decide +kernel
theorem dX5_areAlike_47 : decode cX5_areAlike 47 = .ok (.iconst 0, 1) := by decide +kernel
theorem dX5_areAlike_48 : decode cX5_areAlike 48 = .ok (.istore_n 3, 1) := by decide +kernel
theorem dX5_areAlike_49 : decode cX5_areAlike 49 = .ok (.iconst 0, 1) := by decide +kernel
theorem dX5_areAlike_50 : decode cX5_areAlike 50 = .ok (.istore 4, 2) := by decide +kernel
theorem dX5_areAlike_52 : decode cX5_areAlike 52 = .ok (.iload_n 3, 1) := by decide +kernel
theorem dX5_areAlike_53 : decode cX5_areAlike 53 = .ok (.ifCond .eq 47, 3) := by decide +kernel
theorem dX5_areAlike_56 : decode cX5_areAlike 56 = .ok (.iload 4, 2) := by decide +kernel
theorem dX5_areAlike_58 : decode cX5_areAlike 58 = .ok (.aload_n 0, 1) := by decide +kernel
theorem dX5_areAlike_59 : decode cX5_areAlike 59 = .ok (.getfield 14, 3) := by decide +kernel
theorem dX5_areAlike_62 : decode cX5_areAlike 62 = .ok (.iload_n 1, 1) := by decide +kernel
theorem dX5_areAlike_63 : decode cX5_areAlike 63 = .ok (.iaload, 1) := by decide +kernel
theorem dX5_areAlike_64 : decode cX5_areAlike 64 = .ok (.if_icmp .ge 36, 3) := by decide +kernel
theorem dX5_areAlike_67 : decode cX5_areAlike 67 = .ok (.aload_n 0, 1) := by decide +kernel
theorem dX5_areAlike_68 : decode cX5_areAlike 68 = .ok (.getfield 11, 3) := by decide +kernel
theorem dX5_areAlike_71 : decode cX5_areAlike 71 = .ok (.iload_n 1, 1) := by decide +kernel
theorem dX5_areAlike_72 : decode cX5_areAlike 72 = .ok (.aaload, 1) := by decide +kernel
theorem dX5_areAlike_73 : decode cX5_areAlike 73 = .ok (.iload 4, 2) := by decide +kernel
theorem dX5_areAlike_75 : decode cX5_areAlike 75 = .ok (.iaload, 1) := by decide +kernel
theorem dX5_areAlike_76 : decode cX5_areAlike 76 = .ok (.aload_n 0, 1) := by decide +kernel
theorem dX5_areAlike_77 : decode cX5_areAlike 77 = .ok (.getfield 11, 3) := by decide +kernel
theorem dX5_areAlike_80 : decode cX5_areAlike 80 = .ok (.iload_n 2, 1) := by decide +kernel
theorem dX5_areAlike_81 : decode cX5_areAlike 81 = .ok (.aaload, 1) := by decide +kernel
theorem dX5_areAlike_82 : decode cX5_areAlike 82 = .ok (.iload 4, 2) := by decide +kernel
theorem dX5_areAlike_84 : decode cX5_areAlike 84 = .ok (.iaload, 1) := by decide +kernel
theorem dX5_areAlike_85 : decode cX5_areAlike 85 = .ok (.if_icmp .ne 7, 3) := by decide +kernel
theorem dX5_areAlike_88 : decode cX5_areAlike 88 = .ok (.iconst 1, 1) := by decide +kernel
theorem dX5_areAlike_89 : decode cX5_areAlike 89 = .ok (.goto 4, 3) := by decide +kernel
theorem dX5_areAlike_92 : decode cX5_areAlike 92 = .ok (.iconst 0, 1) := by decide +kernel
theorem dX5_areAlike_93 : decode cX5_areAlike 93 = .ok (.istore_n 3, 1) := by decide +kernel
theorem dX5_areAlike_94 : decode cX5_areAlike 94 = .ok (.iinc 4 1, 3) := by decide +kernel
theorem dX5_areAlike_97 : decode cX5_areAlike 97 = .ok (.goto (-45), 3) := by decide +kernel
theorem dX5_areAlike_100 : decode cX5_areAlike 100 = .ok (.iload_n 3, 1) := by decide +kernel
theorem dX5_areAlike_101 : decode cX5_areAlike 101 = .ok (.ireturn, 1) := by decide +kernel
theorem dX5_first_0 : decode cX5_first 0 = .ok (.aload_n 0, 1) := by decide +kernel
theorem dX5_first_1 : decode cX5_first 1 = .ok (.iload_n 1, 1) := by decide +kernel
theorem dX5_first_2 : decode cX5_first 2 = .ok (.invokestatic 63, 3) := by decide +kernel
theorem dX5_first_5 : decode cX5_first 5 = .ok (.invokevirtual 116, 3) := by decide +kernel
theorem dX5_first_8 : decode cX5_first 8 = .ok (.ifCond .eq 5, 3) := by decide +kernel
theorem dX5_first_11 : decode cX5_first 11 = .ok (.iconst 0, 1) := by decide +kernel
theorem dX5_first_12 : decode cX5_first 12 = .ok (.ireturn, 1) := by decide +kernel
theorem dX5_first_13 : decode cX5_first 13 = .ok (.aload_n 0, 1) := by decide +kernel
theorem dX5_first_14 : decode cX5_first 14 = .ok (.getfield 14, 3) := by decide +kernel
theorem dX5_first_17 : decode cX5_first 17 = .ok (.iload_n 1, 1) := by decide +kernel
theorem dX5_first_18 : decode cX5_first 18 = .ok (.iaload, 1) := by decide +kernel
theorem dX5_first_19 : decode cX5_first 19 = .ok (.ifCond .ne 10, 3) := by decide +kernel
theorem dX5_first_22 : decode cX5_first 22 = .ok (.aload_n 0, 1) := by decide +kernel
theorem dX5_first_23 : decode cX5_first 23 = .ok (.invokevirtual 99, 3) := by decide +kernel
theorem dX5_first_26 : decode cX5_first 26 = .ok (.goto 26, 3) := by decide +kernel
theorem dX5_first_29 : decode cX5_first 29 = .ok (.aload_n 0, 1) := by decide +kernel
theorem dX5_first_30 : decode cX5_first 30 = .ok (.getfield 11, 3) := by decide +kernel
theorem dX5_first_33 : decode cX5_first 33 = .ok (.iload_n 1, 1) := by decide +kernel
theorem dX5_first_34 : decode cX5_first 34 = .ok (.aaload, 1) := by decide +kernel
theorem dX5_first_35 : decode cX5_first 35 = .ok (.iload_n 2, 1) := by decide +kernel
theorem dX5_first_36 : decode cX5_first 36 = .ok (.ifCond .eq 14, 3) := by decide +kernel
theorem dX5_first_39 : decode cX5_first 39 = .ok (.aload_n 0, 1) := by decide +kernel
theorem dX5_first_40 : decode cX5_first 40 = .ok (.getfield 14, 3) := by decide +kernel
theorem dX5_first_43 : decode cX5_first 43 = .ok (.iload_n 1, 1) := by decide +kernel
theorem dX5_first_44 : decode cX5_first 44 = .ok (.iaload, 1) := by decide +kernel
theorem dX5_first_45 : decode cX5_first 45 = .ok (.iconst 1, 1) := by decide +kernel
theorem dX5_first_46 : decode cX5_first 46 = .ok (.isub, 1) := by decide +kernel
theorem dX5_first_47 : decode cX5_first 47 = .ok (.goto 4, 3) := by decide +kernel
theorem dX5_first_50 : decode cX5_first 50 = .ok (.iconst 0, 1) := by decide +kernel
theorem dX5_first_51 : decode cX5_first 51 = .ok (.iaload, 1) := by decide +kernel
theorem dX5_first_52 : decode cX5_first 52 = .ok (.ireturn, 1) := by decide +kernel
theorem dX5_valueOf_0 : decode cX5_valueOf 0 = .ok (.aload_n 0, 1) := by decide +kernel
theorem dX5_valueOf_1 : decode cX5_valueOf 1 = .ok (.iload_n 1, 1) := by decide +kernel
theorem dX5_valueOf_2 : decode cX5_valueOf 2 = .ok (.iconst 0, 1) := by decide +kernel
theorem dX5_valueOf_3 : decode cX5_valueOf 3 = .ok (.bipush 99, 2) := by decide +kernel
theorem dX5_valueOf_5 : decode cX5_valueOf 5 = .ok (.invokestatic 59, 3) := by decide +kernel
theorem dX5_valueOf_8 : decode cX5_valueOf 8 = .ok (.ifCond .ne 7, 3) := by decide +kernel
theorem dX5_valueOf_11 : decode cX5_valueOf 11 = .ok (.iconst 1, 1) := by decide +kernel
theorem dX5_valueOf_12 : decode cX5_valueOf 12 = .ok (.goto 4, 3) := by decide +kernel
theorem dX5_valueOf_15 : decode cX5_valueOf 15 = .ok (.iconst 0, 1) := by decide +kernel
theorem dX5_valueOf_16 : decode cX5_valueOf 16 = .ok (.invokevirtual 116, 3) := by decide +kernel
theorem dX5_valueOf_19 : decode cX5_valueOf 19 = .ok (.ifCond .eq 5, 3) := by decide +kernel
theorem dX5_valueOf_22 : decode cX5_valueOf 22 = .ok (.iconst 0, 1) := by decide +kernel
theorem dX5_valueOf_23 : decode cX5_valueOf 23 = .ok (.ireturn, 1) := by decide +kernel
theorem dX5_valueOf_24 : decode cX5_valueOf 24 = .ok (.aload_n 0, 1) := by decide +kernel
theorem dX5_valueOf_25 : decode cX5_valueOf 25 = .ok (.bipush 6, 2) := by decide +kernel
theorem dX5_valueOf_27 : decode cX5_valueOf 27 = .ok (.iload_n 1, 1) := by decide +kernel
theorem dX5_valueOf_28 : decode cX5_valueOf 28 = .ok (.invokevirtual 110, 3) := by decide +kernel
theorem dX5_valueOf_31 : decode cX5_valueOf 31 = .ok (.istore_n 2, 1) := by decide +kernel
theorem dX5_valueOf_32 : decode cX5_valueOf 32 = .ok (.iload_n 2, 1) := by decide +kernel
theorem dX5_valueOf_33 : decode cX5_valueOf 33 = .ok (.iconst (-1), 1) := by decide +kernel
theorem dX5_valueOf_34 : decode cX5_valueOf 34 = .ok (.if_icmp .ne 7, 3) := by decide +kernel
theorem dX5_valueOf_37 : decode cX5_valueOf 37 = .ok (.iconst (-1), 1) := by decide +kernel
theorem dX5_valueOf_38 : decode cX5_valueOf 38 = .ok (.goto 12, 3) := by decide +kernel
theorem dX5_valueOf_41 : decode cX5_valueOf 41 = .ok (.aload_n 0, 1) := by decide +kernel
theorem dX5_valueOf_42 : decode cX5_valueOf 42 = .ok (.getfield 11, 3) := by decide +kernel
theorem dX5_valueOf_45 : decode cX5_valueOf 45 = .ok (.bipush 7, 2) := by decide +kernel
theorem dX5_valueOf_47 : decode cX5_valueOf 47 = .ok (.aaload, 1) := by decide +kernel
theorem dX5_valueOf_48 : decode cX5_valueOf 48 = .ok (.iload_n 2, 1) := by decide +kernel
theorem dX5_valueOf_49 : decode cX5_valueOf 49 = .ok (.iaload, 1) := by decide +kernel
theorem dX5_valueOf_50 : decode cX5_valueOf 50 = .ok (.ireturn, 1) := by decide +kernel
theorem dX5_told_0 : decode cX5_told 0 = .ok (.aload_n 0, 1) := by decide +kernel
theorem dX5_told_1 : decode cX5_told 1 = .ok (.getfield 21, 3) := by decide +kernel
theorem dX5_told_4 : decode cX5_told 4 = .ok (.iload_n 1, 1) := by decide +kernel
theorem dX5_told_5 : decode cX5_told 5 = .ok (.iaload, 1) := by decide +kernel
theorem dX5_told_6 : decode cX5_told 6 = .ok (.iconst (-1), 1) := by decide +kernel
theorem dX5_told_7 : decode cX5_told 7 = .ok (.if_icmp .ne 5, 3) := by decide +kernel
theorem dX5_told_10 : decode cX5_told 10 = .ok (.iconst (-1), 1) := by decide +kernel
theorem dX5_told_11 : decode cX5_told 11 = .ok (.ireturn, 1) := by decide +kernel
theorem dX5_told_12 : decode cX5_told 12 = .ok (.iconst 4, 1) := by decide +kernel
theorem dX5_told_13 : decode cX5_told 13 = .ok (.newarray .int, 2) := by decide +kernel
theorem dX5_told_15 : decode cX5_told 15 = .ok (.dup, 1) := by decide +kernel
theorem dX5_told_16 : decode cX5_told 16 = .ok (.iconst 0, 1) := by decide +kernel
theorem dX5_told_17 : decode cX5_told 17 = .ok (.aload_n 0, 1) := by decide +kernel
theorem dX5_told_18 : decode cX5_told 18 = .ok (.getfield 21, 3) := by decide +kernel
theorem dX5_told_21 : decode cX5_told 21 = .ok (.iload_n 1, 1) := by decide +kernel
theorem dX5_told_22 : decode cX5_told 22 = .ok (.iaload, 1) := by decide +kernel
theorem dX5_told_23 : decode cX5_told 23 = .ok (.iastore, 1) := by decide +kernel
theorem dX5_told_24 : decode cX5_told 24 = .ok (.dup, 1) := by decide +kernel
theorem dX5_told_25 : decode cX5_told 25 = .ok (.iconst 1, 1) := by decide +kernel
theorem dX5_told_26 : decode cX5_told 26 = .ok (.aload_n 0, 1) := by decide +kernel
theorem dX5_told_27 : decode cX5_told 27 = .ok (.getfield 24, 3) := by decide +kernel
theorem dX5_told_30 : decode cX5_told 30 = .ok (.iload_n 1, 1) := by decide +kernel
theorem dX5_told_31 : decode cX5_told 31 = .ok (.iaload, 1) := by decide +kernel
theorem dX5_told_32 : decode cX5_told 32 = .ok (.iastore, 1) := by decide +kernel
theorem dX5_told_33 : decode cX5_told 33 = .ok (.dup, 1) := by decide +kernel
theorem dX5_told_34 : decode cX5_told 34 = .ok (.iconst 2, 1) := by decide +kernel
theorem dX5_told_35 : decode cX5_told 35 = .ok (.aload_n 0, 1) := by decide +kernel
theorem dX5_told_36 : decode cX5_told 36 = .ok (.getfield 27, 3) := by decide +kernel
theorem dX5_told_39 : decode cX5_told 39 = .ok (.iload_n 1, 1) := by decide +kernel
theorem dX5_told_40 : decode cX5_told 40 = .ok (.iaload, 1) := by decide +kernel
theorem dX5_told_41 : decode cX5_told 41 = .ok (.iastore, 1) := by decide +kernel
theorem dX5_told_42 : decode cX5_told 42 = .ok (.dup, 1) := by decide +kernel
theorem dX5_told_43 : decode cX5_told 43 = .ok (.iconst 3, 1) := by decide +kernel
theorem dX5_told_44 : decode cX5_told 44 = .ok (.aload_n 0, 1) := by decide +kernel
theorem dX5_told_45 : decode cX5_told 45 = .ok (.iload_n 1, 1) := by decide +kernel
theorem dX5_told_46 : decode cX5_told 46 = .ok (.invokevirtual 139, 3) := by decide +kernel
theorem dX5_told_49 : decode cX5_told 49 = .ok (.invokestatic 77, 3) := by decide +kernel
theorem dX5_told_52 : decode cX5_told 52 = .ok (.iastore, 1) := by decide +kernel
theorem dX5_told_53 : decode cX5_told 53 = .ok (.astore_n 3, 1) := by decide +kernel
theorem dX5_told_54 : decode cX5_told 54 = .ok (.aload_n 3, 1) := by decide +kernel
theorem dX5_told_55 : decode cX5_told 55 = .ok (.iload_n 2, 1) := by decide +kernel
theorem dX5_told_56 : decode cX5_told 56 = .ok (.iaload, 1) := by decide +kernel
theorem dX5_told_57 : decode cX5_told 57 = .ok (.ireturn, 1) := by decide +kernel
theorem dX5_ofWalk_0 : decode cX5_ofWalk 0 = .ok (.aload_n 0, 1) := by decide +kernel
theorem dX5_ofWalk_1 : decode cX5_ofWalk 1 = .ok (.iload_n 1, 1) := by decide +kernel
theorem dX5_ofWalk_2 : decode cX5_ofWalk 2 = .ok (.invokestatic 133, 3) := by decide +kernel
theorem dX5_ofWalk_5 : decode cX5_ofWalk 5 = .ok (.iload_n 2, 1) := by decide +kernel
theorem dX5_ofWalk_6 : decode cX5_ofWalk 6 = .ok (.iconst 0, 1) := by decide +kernel
theorem dX5_ofWalk_7 : decode cX5_ofWalk 7 = .ok (.iconst 3, 1) := by decide +kernel
theorem dX5_ofWalk_8 : decode cX5_ofWalk 8 = .ok (.invokestatic 59, 3) := by decide +kernel
theorem dX5_ofWalk_11 : decode cX5_ofWalk 11 = .ok (.ifCond .ne 7, 3) := by decide +kernel
theorem dX5_ofWalk_14 : decode cX5_ofWalk 14 = .ok (.iconst 1, 1) := by decide +kernel
theorem dX5_ofWalk_15 : decode cX5_ofWalk 15 = .ok (.goto 4, 3) := by decide +kernel
theorem dX5_ofWalk_18 : decode cX5_ofWalk 18 = .ok (.iconst 0, 1) := by decide +kernel
theorem dX5_ofWalk_19 : decode cX5_ofWalk 19 = .ok (.invokevirtual 107, 3) := by decide +kernel
theorem dX5_ofWalk_22 : decode cX5_ofWalk 22 = .ok (.ifCond .eq 7, 3) := by decide +kernel
theorem dX5_ofWalk_25 : decode cX5_ofWalk 25 = .ok (.iconst 0, 1) := by decide +kernel
theorem dX5_ofWalk_26 : decode cX5_ofWalk 26 = .ok (.goto 9, 3) := by decide +kernel
theorem dX5_ofWalk_29 : decode cX5_ofWalk 29 = .ok (.aload_n 0, 1) := by decide +kernel
theorem dX5_ofWalk_30 : decode cX5_ofWalk 30 = .ok (.iload_n 1, 1) := by decide +kernel
theorem dX5_ofWalk_31 : decode cX5_ofWalk 31 = .ok (.iload_n 2, 1) := by decide +kernel
theorem dX5_ofWalk_32 : decode cX5_ofWalk 32 = .ok (.invokevirtual 209, 3) := by decide +kernel
theorem dX5_ofWalk_35 : decode cX5_ofWalk 35 = .ok (.ireturn, 1) := by decide +kernel
theorem dX5_houseTold_0 : decode cX5_houseTold 0 = .ok (.iconst 0, 1) := by decide +kernel
theorem dX5_houseTold_1 : decode cX5_houseTold 1 = .ok (.istore_n 2, 1) := by decide +kernel
theorem dX5_houseTold_2 : decode cX5_houseTold 2 = .ok (.iconst 0, 1) := by decide +kernel
theorem dX5_houseTold_3 : decode cX5_houseTold 3 = .ok (.istore_n 3, 1) := by decide +kernel
theorem dX5_houseTold_4 : decode cX5_houseTold 4 = .ok (.iconst 0, 1) := by decide +kernel
theorem dX5_houseTold_5 : decode cX5_houseTold 5 = .ok (.istore 4, 2) := by decide +kernel
theorem dX5_houseTold_7 : decode cX5_houseTold 7 = .ok (.iconst 0, 1) := by decide +kernel
theorem dX5_houseTold_8 : decode cX5_houseTold 8 = .ok (.istore 5, 2) := by decide +kernel
theorem dX5_houseTold_10 : decode cX5_houseTold 10 = .ok (.iconst 0, 1) := by decide +kernel
theorem dX5_houseTold_11 : decode cX5_houseTold 11 = .ok (.istore 6, 2) := by decide +kernel
theorem dX5_houseTold_13 : decode cX5_houseTold 13 = .ok (.iload 6, 2) := by decide +kernel
theorem dX5_houseTold_15 : decode cX5_houseTold 15 = .ok (.bipush 11, 2) := by decide +kernel
theorem dX5_houseTold_17 : decode cX5_houseTold 17 = .ok (.if_icmp .ge 30, 3) := by decide +kernel
theorem dX5_houseTold_20 : decode cX5_houseTold 20 = .ok (.iload_n 2, 1) := by decide +kernel
theorem dX5_houseTold_21 : decode cX5_houseTold 21 = .ok (.aload_n 0, 1) := by decide +kernel
theorem dX5_houseTold_22 : decode cX5_houseTold 22 = .ok (.getfield 14, 3) := by decide +kernel
theorem dX5_houseTold_25 : decode cX5_houseTold 25 = .ok (.iload 6, 2) := by decide +kernel
theorem dX5_houseTold_27 : decode cX5_houseTold 27 = .ok (.iaload, 1) := by decide +kernel
theorem dX5_houseTold_28 : decode cX5_houseTold 28 = .ok (.iadd, 1) := by decide +kernel
theorem dX5_houseTold_29 : decode cX5_houseTold 29 = .ok (.istore_n 2, 1) := by decide +kernel
theorem dX5_houseTold_30 : decode cX5_houseTold 30 = .ok (.iload_n 3, 1) := by decide +kernel
theorem dX5_houseTold_31 : decode cX5_houseTold 31 = .ok (.aload_n 0, 1) := by decide +kernel
theorem dX5_houseTold_32 : decode cX5_houseTold 32 = .ok (.iload 6, 2) := by decide +kernel
theorem dX5_houseTold_34 : decode cX5_houseTold 34 = .ok (.bipush 100, 2) := by decide +kernel
theorem dX5_houseTold_36 : decode cX5_houseTold 36 = .ok (.invokevirtual 73, 3) := by decide +kernel
theorem dX5_houseTold_39 : decode cX5_houseTold 39 = .ok (.iadd, 1) := by decide +kernel
theorem dX5_houseTold_40 : decode cX5_houseTold 40 = .ok (.istore_n 3, 1) := by decide +kernel
theorem dX5_houseTold_41 : decode cX5_houseTold 41 = .ok (.iinc 6 1, 3) := by decide +kernel
theorem dX5_houseTold_44 : decode cX5_houseTold 44 = .ok (.goto (-31), 3) := by decide +kernel
theorem dX5_houseTold_47 : decode cX5_houseTold 47 = .ok (.iconst 0, 1) := by decide +kernel
theorem dX5_houseTold_48 : decode cX5_houseTold 48 = .ok (.istore 6, 2) := by decide +kernel
theorem dX5_houseTold_50 : decode cX5_houseTold 50 = .ok (.iload 6, 2) := by decide +kernel
theorem dX5_houseTold_52 : decode cX5_houseTold 52 = .ok (.bipush 6, 2) := by decide +kernel
theorem dX5_houseTold_54 : decode cX5_houseTold 54 = .ok (.if_icmp .ge 66, 3) := by decide +kernel
theorem dX5_houseTold_57 : decode cX5_houseTold 57 = .ok (.iload 4, 2) := by decide +kernel
theorem dX5_houseTold_59 : decode cX5_houseTold 59 = .ok (.aload_n 0, 1) := by decide +kernel
theorem dX5_houseTold_60 : decode cX5_houseTold 60 = .ok (.getfield 21, 3) := by decide +kernel
theorem dX5_houseTold_63 : decode cX5_houseTold 63 = .ok (.iload 6, 2) := by decide +kernel
theorem dX5_houseTold_65 : decode cX5_houseTold 65 = .ok (.iaload, 1) := by decide +kernel
theorem dX5_houseTold_66 : decode cX5_houseTold 66 = .ok (.iconst (-1), 1) := by decide +kernel
theorem dX5_houseTold_67 : decode cX5_houseTold 67 = .ok (.if_icmp .eq 7, 3) := by decide +kernel
theorem dX5_houseTold_70 : decode cX5_houseTold 70 = .ok (.iconst 1, 1) := by decide +kernel
theorem dX5_houseTold_71 : decode cX5_houseTold 71 = .ok (.goto 4, 3) := by decide +kernel
theorem dX5_houseTold_74 : decode cX5_houseTold 74 = .ok (.iconst 0, 1) := by decide +kernel
theorem dX5_houseTold_75 : decode cX5_houseTold 75 = .ok (.invokestatic 77, 3) := by decide +kernel
theorem dX5_houseTold_78 : decode cX5_houseTold 78 = .ok (.iadd, 1) := by decide +kernel
theorem dX5_houseTold_79 : decode cX5_houseTold 79 = .ok (.istore 4, 2) := by decide +kernel
theorem dX5_houseTold_81 : decode cX5_houseTold 81 = .ok (.iload 5, 2) := by decide +kernel
theorem dX5_houseTold_83 : decode cX5_houseTold 83 = .ok (.aload_n 0, 1) := by decide +kernel
theorem dX5_houseTold_84 : decode cX5_houseTold 84 = .ok (.getfield 21, 3) := by decide +kernel
theorem dX5_houseTold_87 : decode cX5_houseTold 87 = .ok (.iload 6, 2) := by decide +kernel
theorem dX5_houseTold_89 : decode cX5_houseTold 89 = .ok (.iaload, 1) := by decide +kernel
theorem dX5_houseTold_90 : decode cX5_houseTold 90 = .ok (.iconst (-1), 1) := by decide +kernel
theorem dX5_houseTold_91 : decode cX5_houseTold 91 = .ok (.if_icmp .eq 16, 3) := by decide +kernel
theorem dX5_houseTold_94 : decode cX5_houseTold 94 = .ok (.aload_n 0, 1) := by decide +kernel
theorem dX5_houseTold_95 : decode cX5_houseTold 95 = .ok (.iload 6, 2) := by decide +kernel
theorem dX5_houseTold_97 : decode cX5_houseTold 97 = .ok (.invokevirtual 139, 3) := by decide +kernel
theorem dX5_houseTold_100 : decode cX5_houseTold 100 = .ok (.ifCond .eq 7, 3) := by decide +kernel
theorem dX5_houseTold_103 : decode cX5_houseTold 103 = .ok (.iconst 1, 1) := by decide +kernel
theorem dX5_houseTold_104 : decode cX5_houseTold 104 = .ok (.goto 4, 3) := by decide +kernel
theorem dX5_houseTold_107 : decode cX5_houseTold 107 = .ok (.iconst 0, 1) := by decide +kernel
theorem dX5_houseTold_108 : decode cX5_houseTold 108 = .ok (.invokestatic 77, 3) := by decide +kernel
theorem dX5_houseTold_111 : decode cX5_houseTold 111 = .ok (.iadd, 1) := by decide +kernel
theorem dX5_houseTold_112 : decode cX5_houseTold 112 = .ok (.istore 5, 2) := by decide +kernel
theorem dX5_houseTold_114 : decode cX5_houseTold 114 = .ok (.iinc 6 1, 3) := by decide +kernel
theorem dX5_houseTold_117 : decode cX5_houseTold 117 = .ok (.goto (-67), 3) := by decide +kernel
theorem dX5_houseTold_120 : decode cX5_houseTold 120 = .ok (.bipush 6, 2) := by decide +kernel
theorem dX5_houseTold_122 : decode cX5_houseTold 122 = .ok (.newarray .int, 2) := by decide +kernel
theorem dX5_houseTold_124 : decode cX5_houseTold 124 = .ok (.dup, 1) := by decide +kernel
theorem dX5_houseTold_125 : decode cX5_houseTold 125 = .ok (.iconst 0, 1) := by decide +kernel
theorem dX5_houseTold_126 : decode cX5_houseTold 126 = .ok (.iload_n 2, 1) := by decide +kernel
theorem dX5_houseTold_127 : decode cX5_houseTold 127 = .ok (.iastore, 1) := by decide +kernel
theorem dX5_houseTold_128 : decode cX5_houseTold 128 = .ok (.dup, 1) := by decide +kernel
theorem dX5_houseTold_129 : decode cX5_houseTold 129 = .ok (.iconst 1, 1) := by decide +kernel
theorem dX5_houseTold_130 : decode cX5_houseTold 130 = .ok (.iload_n 3, 1) := by decide +kernel
theorem dX5_houseTold_131 : decode cX5_houseTold 131 = .ok (.iastore, 1) := by decide +kernel
theorem dX5_houseTold_132 : decode cX5_houseTold 132 = .ok (.dup, 1) := by decide +kernel
theorem dX5_houseTold_133 : decode cX5_houseTold 133 = .ok (.iconst 2, 1) := by decide +kernel
theorem dX5_houseTold_134 : decode cX5_houseTold 134 = .ok (.iload 4, 2) := by decide +kernel
theorem dX5_houseTold_136 : decode cX5_houseTold 136 = .ok (.iastore, 1) := by decide +kernel
theorem dX5_houseTold_137 : decode cX5_houseTold 137 = .ok (.dup, 1) := by decide +kernel
theorem dX5_houseTold_138 : decode cX5_houseTold 138 = .ok (.iconst 3, 1) := by decide +kernel
theorem dX5_houseTold_139 : decode cX5_houseTold 139 = .ok (.iload 5, 2) := by decide +kernel
theorem dX5_houseTold_141 : decode cX5_houseTold 141 = .ok (.iastore, 1) := by decide +kernel
theorem dX5_houseTold_142 : decode cX5_houseTold 142 = .ok (.dup, 1) := by decide +kernel
theorem dX5_houseTold_143 : decode cX5_houseTold 143 = .ok (.iconst 4, 1) := by decide +kernel
theorem dX5_houseTold_144 : decode cX5_houseTold 144 = .ok (.aload_n 0, 1) := by decide +kernel
theorem dX5_houseTold_145 : decode cX5_houseTold 145 = .ok (.getfield 54, 3) := by decide +kernel
theorem dX5_houseTold_148 : decode cX5_houseTold 148 = .ok (.iastore, 1) := by decide +kernel
theorem dX5_houseTold_149 : decode cX5_houseTold 149 = .ok (.dup, 1) := by decide +kernel
theorem dX5_houseTold_150 : decode cX5_houseTold 150 = .ok (.iconst 5, 1) := by decide +kernel
theorem dX5_houseTold_151 : decode cX5_houseTold 151 = .ok (.aload_n 0, 1) := by decide +kernel
theorem dX5_houseTold_152 : decode cX5_houseTold 152 = .ok (.getfield 212, 3) := by decide +kernel
theorem dX5_houseTold_155 : decode cX5_houseTold 155 = .ok (.iastore, 1) := by decide +kernel
theorem dX5_houseTold_156 : decode cX5_houseTold 156 = .ok (.astore 6, 2) := by decide +kernel
theorem dX5_houseTold_158 : decode cX5_houseTold 158 = .ok (.aload 6, 2) := by decide +kernel
theorem dX5_houseTold_160 : decode cX5_houseTold 160 = .ok (.iload_n 1, 1) := by decide +kernel
theorem dX5_houseTold_161 : decode cX5_houseTold 161 = .ok (.iaload, 1) := by decide +kernel
theorem dX5_houseTold_162 : decode cX5_houseTold 162 = .ok (.ireturn, 1) := by decide +kernel
theorem dX5_house_0 : decode cX5_house 0 = .ok (.aload_n 0, 1) := by decide +kernel
theorem dX5_house_1 : decode cX5_house 1 = .ok (.iload_n 1, 1) := by decide +kernel
theorem dX5_house_2 : decode cX5_house 2 = .ok (.iconst 0, 1) := by decide +kernel
theorem dX5_house_3 : decode cX5_house 3 = .ok (.iconst 5, 1) := by decide +kernel
theorem dX5_house_4 : decode cX5_house 4 = .ok (.invokestatic 59, 3) := by decide +kernel
theorem dX5_house_7 : decode cX5_house 7 = .ok (.ifCond .ne 7, 3) := by decide +kernel
theorem dX5_house_10 : decode cX5_house 10 = .ok (.iconst 1, 1) := by decide +kernel
theorem dX5_house_11 : decode cX5_house 11 = .ok (.goto 4, 3) := by decide +kernel
theorem dX5_house_14 : decode cX5_house 14 = .ok (.iconst 0, 1) := by decide +kernel
theorem dX5_house_15 : decode cX5_house 15 = .ok (.invokevirtual 116, 3) := by decide +kernel
theorem dX5_house_18 : decode cX5_house 18 = .ok (.ifCond .eq 7, 3) := by decide +kernel
theorem dX5_house_21 : decode cX5_house 21 = .ok (.iconst 0, 1) := by decide +kernel
theorem dX5_house_22 : decode cX5_house 22 = .ok (.goto 8, 3) := by decide +kernel
theorem dX5_house_25 : decode cX5_house 25 = .ok (.aload_n 0, 1) := by decide +kernel
theorem dX5_house_26 : decode cX5_house 26 = .ok (.iload_n 1, 1) := by decide +kernel
theorem dX5_house_27 : decode cX5_house 27 = .ok (.invokevirtual 215, 3) := by decide +kernel
theorem dX5_house_30 : decode cX5_house 30 = .ok (.ireturn, 1) := by decide +kernel
theorem dX5_knock_0 : decode cX5_knock 0 = .ok (.aload_n 0, 1) := by decide +kernel
theorem dX5_knock_1 : decode cX5_knock 1 = .ok (.iconst 0, 1) := by decide +kernel
theorem dX5_knock_2 : decode cX5_knock 2 = .ok (.putfield 46, 3) := by decide +kernel
