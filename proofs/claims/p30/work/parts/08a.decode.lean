theorem dJ9_floorMod_7cf53_0 : decode cJ9_floorMod_7cf53 0 = .ok (.iload_n 0, 1) := by decide +kernel
theorem dJ9_floorMod_7cf53_1 : decode cJ9_floorMod_7cf53 1 = .ok (.iload_n 1, 1) := by decide +kernel
theorem dJ9_floorMod_7cf53_2 : decode cJ9_floorMod_7cf53 2 = .ok (.irem, 1) := by decide +kernel
theorem dJ9_floorMod_7cf53_3 : decode cJ9_floorMod_7cf53 3 = .ok (.istore_n 2, 1) := by decide +kernel
theorem dJ9_floorMod_7cf53_4 : decode cJ9_floorMod_7cf53 4 = .ok (.iload_n 0, 1) := by decide +kernel
theorem dJ9_floorMod_7cf53_5 : decode cJ9_floorMod_7cf53 5 = .ok (.iload_n 1, 1) := by decide +kernel
theorem dJ9_floorMod_7cf53_6 : decode cJ9_floorMod_7cf53 6 = .ok (.ixor, 1) := by decide +kernel
theorem dJ9_floorMod_7cf53_7 : decode cJ9_floorMod_7cf53 7 = .ok (.ifCond .ge 11, 3) := by decide +kernel
theorem dJ9_floorMod_7cf53_10 : decode cJ9_floorMod_7cf53 10 = .ok (.iload_n 2, 1) := by decide +kernel
theorem dJ9_floorMod_7cf53_11 : decode cJ9_floorMod_7cf53 11 = .ok (.ifCond .eq 7, 3) := by decide +kernel
theorem dJ9_floorMod_7cf53_14 : decode cJ9_floorMod_7cf53 14 = .ok (.iload_n 2, 1) := by decide +kernel
theorem dJ9_floorMod_7cf53_15 : decode cJ9_floorMod_7cf53 15 = .ok (.iload_n 1, 1) := by decide +kernel
theorem dJ9_floorMod_7cf53_16 : decode cJ9_floorMod_7cf53 16 = .ok (.iadd, 1) := by decide +kernel
theorem dJ9_floorMod_7cf53_17 : decode cJ9_floorMod_7cf53 17 = .ok (.ireturn, 1) := by decide +kernel
theorem dJ9_floorMod_7cf53_18 : decode cJ9_floorMod_7cf53 18 = .ok (.iload_n 2, 1) := by decide +kernel
theorem dJ9_floorMod_7cf53_19 : decode cJ9_floorMod_7cf53 19 = .ok (.ireturn, 1) := by decide +kernel
theorem dJ9_max_7cf53_0 : decode cJ9_max_7cf53 0 = .ok (.iload_n 0, 1) := by decide +kernel
theorem dJ9_max_7cf53_1 : decode cJ9_max_7cf53 1 = .ok (.iload_n 1, 1) := by decide +kernel
theorem dJ9_max_7cf53_2 : decode cJ9_max_7cf53 2 = .ok (.if_icmp .lt 7, 3) := by decide +kernel
theorem dJ9_max_7cf53_5 : decode cJ9_max_7cf53 5 = .ok (.iload_n 0, 1) := by decide +kernel
theorem dJ9_max_7cf53_6 : decode cJ9_max_7cf53 6 = .ok (.goto 4, 3) := by decide +kernel
theorem dJ9_max_7cf53_9 : decode cJ9_max_7cf53 9 = .ok (.iload_n 1, 1) := by decide +kernel
theorem dJ9_max_7cf53_10 : decode cJ9_max_7cf53 10 = .ok (.ireturn, 1) := by decide +kernel
theorem dJ9_min_7cf53_0 : decode cJ9_min_7cf53 0 = .ok (.iload_n 0, 1) := by decide +kernel
theorem dJ9_min_7cf53_1 : decode cJ9_min_7cf53 1 = .ok (.iload_n 1, 1) := by decide +kernel
theorem dJ9_min_7cf53_2 : decode cJ9_min_7cf53 2 = .ok (.if_icmp .gt 7, 3) := by decide +kernel
theorem dJ9_min_7cf53_5 : decode cJ9_min_7cf53 5 = .ok (.iload_n 0, 1) := by decide +kernel
theorem dJ9_min_7cf53_6 : decode cJ9_min_7cf53 6 = .ok (.goto 4, 3) := by decide +kernel
theorem dJ9_min_7cf53_9 : decode cJ9_min_7cf53 9 = .ok (.iload_n 1, 1) := by decide +kernel
theorem dJ9_min_7cf53_10 : decode cJ9_min_7cf53 10 = .ok (.ireturn, 1) := by decide +kernel
theorem dX0_catches_0 : decode cX0_catches 0 = .ok (.aload_n 0, 1) := by decide +kernel
theorem dX0_catches_1 : decode cX0_catches 1 = .ok (.aload_n 1, 1) := by decide +kernel
theorem dX0_catches_2 : decode cX0_catches 2 = .ok (.invokevirtual 39, 3) := by decide +kernel
theorem dX0_catches_5 : decode cX0_catches 5 = .ok (.invokevirtual 43, 3) := by decide +kernel
theorem dX0_catches_8 : decode cX0_catches 8 = .ok (.aload_n 1, 1) := by decide +kernel
theorem dX0_catches_9 : decode cX0_catches 9 = .ok (.invokevirtual 46, 3) := by decide +kernel
theorem dX0_catches_12 : decode cX0_catches 12 = .ok (.if_icmp .eq 7, 3) := by decide +kernel
theorem dX0_catches_15 : decode cX0_catches 15 = .ok (.iconst 1, 1) := by decide +kernel
theorem dX0_catches_16 : decode cX0_catches 16 = .ok (.goto 4, 3) := by decide +kernel
theorem dX0_catches_19 : decode cX0_catches 19 = .ok (.iconst 0, 1) := by decide +kernel
theorem dX0_catches_20 : decode cX0_catches 20 = .ok (.ireturn, 1) := by decide +kernel
theorem dX0_copyHalf_0 : decode cX0_copyHalf 0 = .ok (.iconst 0, 1) := by decide +kernel
theorem dX0_copyHalf_1 : decode cX0_copyHalf 1 = .ok (.istore_n 2, 1) := by decide +kernel
theorem dX0_copyHalf_2 : decode cX0_copyHalf 2 = .ok (.iload_n 2, 1) := by decide +kernel
theorem dX0_copyHalf_3 : decode cX0_copyHalf 3 = .ok (.iconst 5, 1) := by decide +kernel
theorem dX0_copyHalf_4 : decode cX0_copyHalf 4 = .ok (.if_icmp .ge 33, 3) := by decide +kernel
theorem dX0_copyHalf_7 : decode cX0_copyHalf 7 = .ok (.aload_n 0, 1) := by decide +kernel
theorem dX0_copyHalf_8 : decode cX0_copyHalf 8 = .ok (.getfield 9, 3) := by decide +kernel
theorem dX0_copyHalf_11 : decode cX0_copyHalf 11 = .ok (.iload_n 2, 1) := by decide +kernel
theorem dX0_copyHalf_12 : decode cX0_copyHalf 12 = .ok (.aload_n 1, 1) := by decide +kernel
theorem dX0_copyHalf_13 : decode cX0_copyHalf 13 = .ok (.getfield 9, 3) := by decide +kernel
theorem dX0_copyHalf_16 : decode cX0_copyHalf 16 = .ok (.iload_n 2, 1) := by decide +kernel
theorem dX0_copyHalf_17 : decode cX0_copyHalf 17 = .ok (.iaload, 1) := by decide +kernel
theorem dX0_copyHalf_18 : decode cX0_copyHalf 18 = .ok (.iastore, 1) := by decide +kernel
theorem dX0_copyHalf_19 : decode cX0_copyHalf 19 = .ok (.aload_n 0, 1) := by decide +kernel
theorem dX0_copyHalf_20 : decode cX0_copyHalf 20 = .ok (.getfield 15, 3) := by decide +kernel
theorem dX0_copyHalf_23 : decode cX0_copyHalf 23 = .ok (.iload_n 2, 1) := by decide +kernel
theorem dX0_copyHalf_24 : decode cX0_copyHalf 24 = .ok (.aload_n 1, 1) := by decide +kernel
theorem dX0_copyHalf_25 : decode cX0_copyHalf 25 = .ok (.getfield 15, 3) := by decide +kernel
theorem dX0_copyHalf_28 : decode cX0_copyHalf 28 = .ok (.iload_n 2, 1) := by decide +kernel
theorem dX0_copyHalf_29 : decode cX0_copyHalf 29 = .ok (.baload, 1) := by decide +kernel
theorem dX0_copyHalf_30 : decode cX0_copyHalf 30 = .ok (.bastore, 1) := by decide +kernel
theorem dX0_copyHalf_31 : decode cX0_copyHalf 31 = .ok (.iinc 2 1, 3) := by decide +kernel
theorem dX0_copyHalf_34 : decode cX0_copyHalf 34 = .ok (.goto (-32), 3) := by decide +kernel
theorem dX0_copyHalf_37 : decode cX0_copyHalf 37 = .ok (.aload_n 0, 1) := by decide +kernel
theorem dX0_copyHalf_38 : decode cX0_copyHalf 38 = .ok (.aload_n 1, 1) := by decide +kernel
theorem dX0_copyHalf_39 : decode cX0_copyHalf 39 = .ok (.getfield 19, 3) := by decide +kernel
theorem dX0_copyHalf_42 : decode cX0_copyHalf 42 = .ok (.putfield 19, 3) := by decide +kernel
theorem dX0_copyHalf_45 : decode cX0_copyHalf 45 = .ok (.aload_n 0, 1) := by decide +kernel
theorem dX0_copyHalf_46 : decode cX0_copyHalf 46 = .ok (.aload_n 1, 1) := by decide +kernel
theorem dX0_copyHalf_47 : decode cX0_copyHalf 47 = .ok (.getfield 23, 3) := by decide +kernel
theorem dX0_copyHalf_50 : decode cX0_copyHalf 50 = .ok (.putfield 23, 3) := by decide +kernel
theorem dX0_copyHalf_53 : decode cX0_copyHalf 53 = .ok (.aload_n 0, 1) := by decide +kernel
theorem dX0_copyHalf_54 : decode cX0_copyHalf 54 = .ok (.aload_n 1, 1) := by decide +kernel
theorem dX0_copyHalf_55 : decode cX0_copyHalf 55 = .ok (.getfield 26, 3) := by decide +kernel
theorem dX0_copyHalf_58 : decode cX0_copyHalf 58 = .ok (.putfield 26, 3) := by decide +kernel
theorem dX0_copyHalf_61 : decode cX0_copyHalf 61 = .ok (.aload_n 0, 1) := by decide +kernel
theorem dX0_copyHalf_62 : decode cX0_copyHalf 62 = .ok (.aload_n 1, 1) := by decide +kernel
theorem dX0_copyHalf_63 : decode cX0_copyHalf 63 = .ok (.getfield 29, 3) := by decide +kernel
theorem dX0_copyHalf_66 : decode cX0_copyHalf 66 = .ok (.putfield 29, 3) := by decide +kernel
theorem dX0_copyHalf_69 : decode cX0_copyHalf 69 = .ok (.aload_n 0, 1) := by decide +kernel
theorem dX0_copyHalf_70 : decode cX0_copyHalf 70 = .ok (.aload_n 1, 1) := by decide +kernel
theorem dX0_copyHalf_71 : decode cX0_copyHalf 71 = .ok (.getfield 32, 3) := by decide +kernel
theorem dX0_copyHalf_74 : decode cX0_copyHalf 74 = .ok (.putfield 32, 3) := by decide +kernel
theorem dX0_copyHalf_77 : decode cX0_copyHalf 77 = .ok (.return_, 1) := by decide +kernel
theorem dX0_freeRowOfNow_0 : decode cX0_freeRowOfNow 0 = .ok (.iconst 4, 1) := by decide +kernel
theorem dX0_freeRowOfNow_1 : decode cX0_freeRowOfNow 1 = .ok (.istore_n 1, 1) := by decide +kernel
theorem dX0_freeRowOfNow_2 : decode cX0_freeRowOfNow 2 = .ok (.iload_n 1, 1) := by decide +kernel
theorem dX0_freeRowOfNow_3 : decode cX0_freeRowOfNow 3 = .ok (.ifCond .le 37, 3) := by decide +kernel
theorem dX0_freeRowOfNow_6 : decode cX0_freeRowOfNow 6 = .ok (.aload_n 0, 1) := by decide +kernel
theorem dX0_freeRowOfNow_7 : decode cX0_freeRowOfNow 7 = .ok (.getfield 9, 3) := by decide +kernel
theorem dX0_freeRowOfNow_10 : decode cX0_freeRowOfNow 10 = .ok (.iload_n 1, 1) := by decide +kernel
theorem dX0_freeRowOfNow_11 : decode cX0_freeRowOfNow 11 = .ok (.aload_n 0, 1) := by decide +kernel
theorem dX0_freeRowOfNow_12 : decode cX0_freeRowOfNow 12 = .ok (.getfield 9, 3) := by decide +kernel
theorem dX0_freeRowOfNow_15 : decode cX0_freeRowOfNow 15 = .ok (.iload_n 1, 1) := by decide +kernel
theorem dX0_freeRowOfNow_16 : decode cX0_freeRowOfNow 16 = .ok (.iconst 1, 1) := by decide +kernel
theorem dX0_freeRowOfNow_17 : decode cX0_freeRowOfNow 17 = .ok (.isub, 1) := by decide +kernel
theorem dX0_freeRowOfNow_18 : decode cX0_freeRowOfNow 18 = .ok (.iaload, 1) := by decide +kernel
theorem dX0_freeRowOfNow_19 : decode cX0_freeRowOfNow 19 = .ok (.iastore, 1) := by decide +kernel
theorem dX0_freeRowOfNow_20 : decode cX0_freeRowOfNow 20 = .ok (.aload_n 0, 1) := by decide +kernel
theorem dX0_freeRowOfNow_21 : decode cX0_freeRowOfNow 21 = .ok (.getfield 15, 3) := by decide +kernel
theorem dX0_freeRowOfNow_24 : decode cX0_freeRowOfNow 24 = .ok (.iload_n 1, 1) := by decide +kernel
theorem dX0_freeRowOfNow_25 : decode cX0_freeRowOfNow 25 = .ok (.aload_n 0, 1) := by decide +kernel
theorem dX0_freeRowOfNow_26 : decode cX0_freeRowOfNow 26 = .ok (.getfield 15, 3) := by decide +kernel
theorem dX0_freeRowOfNow_29 : decode cX0_freeRowOfNow 29 = .ok (.iload_n 1, 1) := by decide +kernel
theorem dX0_freeRowOfNow_30 : decode cX0_freeRowOfNow 30 = .ok (.iconst 1, 1) := by decide +kernel
theorem dX0_freeRowOfNow_31 : decode cX0_freeRowOfNow 31 = .ok (.isub, 1) := by decide +kernel
theorem dX0_freeRowOfNow_32 : decode cX0_freeRowOfNow 32 = .ok (.baload, 1) := by decide +kernel
theorem dX0_freeRowOfNow_33 : decode cX0_freeRowOfNow 33 = .ok (.bastore, 1) := by decide +kernel
theorem dX0_freeRowOfNow_34 : decode cX0_freeRowOfNow 34 = .ok (.iinc 1 (-1), 3) := by decide +kernel
theorem dX0_freeRowOfNow_37 : decode cX0_freeRowOfNow 37 = .ok (.goto (-35), 3) := by decide +kernel
theorem dX0_freeRowOfNow_40 : decode cX0_freeRowOfNow 40 = .ok (.aload_n 0, 1) := by decide +kernel
theorem dX0_freeRowOfNow_41 : decode cX0_freeRowOfNow 41 = .ok (.getfield 15, 3) := by decide +kernel
theorem dX0_freeRowOfNow_44 : decode cX0_freeRowOfNow 44 = .ok (.iconst 0, 1) := by decide +kernel
theorem dX0_freeRowOfNow_45 : decode cX0_freeRowOfNow 45 = .ok (.iconst 0, 1) := by decide +kernel
theorem dX0_freeRowOfNow_46 : decode cX0_freeRowOfNow 46 = .ok (.bastore, 1) := by decide +kernel
theorem dX0_freeRowOfNow_47 : decode cX0_freeRowOfNow 47 = .ok (.return_, 1) := by decide +kernel
theorem dX0_init_0 : decode cX0_init 0 = .ok (.aload_n 0, 1) := by decide +kernel
theorem dX0_init_1 : decode cX0_init 1 = .ok (.invokespecial 3, 3) := by decide +kernel
theorem dX0_init_4 : decode cX0_init 4 = .ok (.aload_n 0, 1) := by decide +kernel
theorem dX0_init_5 : decode cX0_init 5 = .ok (.iconst 5, 1) := by decide +kernel
theorem dX0_init_6 : decode cX0_init 6 = .ok (.newarray .int, 2) := by decide +kernel
theorem dX0_init_8 : decode cX0_init 8 = .ok (.putfield 9, 3) := by decide +kernel
theorem dX0_init_11 : decode cX0_init 11 = .ok (.aload_n 0, 1) := by decide +kernel
theorem dX0_init_12 : decode cX0_init 12 = .ok (.iconst 5, 1) := by decide +kernel
theorem dX0_init_13 : decode cX0_init 13 = .ok (.newarray .boolean, 2) := by decide +kernel
theorem dX0_init_15 : decode cX0_init 15 = .ok (.putfield 15, 3) := by decide +kernel
theorem dX0_init_18 : decode cX0_init 18 = .ok (.return_, 1) := by decide +kernel
theorem dX0_lies_0 : decode cX0_lies 0 = .ok (.aload_n 0, 1) := by decide +kernel
theorem dX0_lies_1 : decode cX0_lies 1 = .ok (.getfield 29, 3) := by decide +kernel
theorem dX0_lies_4 : decode cX0_lies 4 = .ok (.ifCond .gt 10, 3) := by decide +kernel
theorem dX0_lies_7 : decode cX0_lies 7 = .ok (.aload_n 0, 1) := by decide +kernel
theorem dX0_lies_8 : decode cX0_lies 8 = .ok (.getfield 32, 3) := by decide +kernel
theorem dX0_lies_11 : decode cX0_lies 11 = .ok (.ifCond .le 7, 3) := by decide +kernel
theorem dX0_lies_14 : decode cX0_lies 14 = .ok (.iconst 1, 1) := by decide +kernel
theorem dX0_lies_15 : decode cX0_lies 15 = .ok (.goto 4, 3) := by decide +kernel
theorem dX0_lies_18 : decode cX0_lies 18 = .ok (.iconst 0, 1) := by decide +kernel
theorem dX0_lies_19 : decode cX0_lies 19 = .ok (.ireturn, 1) := by decide +kernel
theorem dX0_partWith_0 : decode cX0_partWith 0 = .ok (.aload_n 0, 1) := by decide +kernel
theorem dX0_partWith_1 : decode cX0_partWith 1 = .ok (.getfield 9, 3) := by decide +kernel
theorem dX0_partWith_4 : decode cX0_partWith 4 = .ok (.iconst 0, 1) := by decide +kernel
theorem dX0_partWith_5 : decode cX0_partWith 5 = .ok (.iaload, 1) := by decide +kernel
theorem dX0_partWith_6 : decode cX0_partWith 6 = .ok (.iload_n 1, 1) := by decide +kernel
theorem dX0_partWith_7 : decode cX0_partWith 7 = .ok (.iadd, 1) := by decide +kernel
theorem dX0_partWith_8 : decode cX0_partWith 8 = .ok (.sipush 256, 3) := by decide +kernel
theorem dX0_partWith_11 : decode cX0_partWith 11 = .ok (.irem, 1) := by decide +kernel
theorem dX0_partWith_12 : decode cX0_partWith 12 = .ok (.ireturn, 1) := by decide +kernel
theorem dX0_tagDueFor_0 : decode cX0_tagDueFor 0 = .ok (.aload_n 0, 1) := by decide +kernel
theorem dX0_tagDueFor_1 : decode cX0_tagDueFor 1 = .ok (.getfield 23, 3) := by decide +kernel
theorem dX0_tagDueFor_4 : decode cX0_tagDueFor 4 = .ok (.iload_n 1, 1) := by decide +kernel
theorem dX0_tagDueFor_5 : decode cX0_tagDueFor 5 = .ok (.imul, 1) := by decide +kernel
theorem dX0_tagDueFor_6 : decode cX0_tagDueFor 6 = .ok (.aload_n 0, 1) := by decide +kernel
theorem dX0_tagDueFor_7 : decode cX0_tagDueFor 7 = .ok (.getfield 26, 3) := by decide +kernel
theorem dX0_tagDueFor_10 : decode cX0_tagDueFor 10 = .ok (.iadd, 1) := by decide +kernel
theorem dX0_tagDueFor_11 : decode cX0_tagDueFor 11 = .ok (.sipush 257, 3) := by decide +kernel
theorem dX0_tagDueFor_14 : decode cX0_tagDueFor 14 = .ok (.irem, 1) := by decide +kernel
theorem dX0_tagDueFor_15 : decode cX0_tagDueFor 15 = .ok (.ireturn, 1) := by decide +kernel
theorem dX0_toldPart_0 : decode cX0_toldPart 0 = .ok (.aload_n 0, 1) := by decide +kernel
theorem dX0_toldPart_1 : decode cX0_toldPart 1 = .ok (.aload_n 0, 1) := by decide +kernel
theorem dX0_toldPart_2 : decode cX0_toldPart 2 = .ok (.getfield 29, 3) := by decide +kernel
theorem dX0_toldPart_5 : decode cX0_toldPart 5 = .ok (.invokevirtual 35, 3) := by decide +kernel
theorem dX0_toldPart_8 : decode cX0_toldPart 8 = .ok (.ireturn, 1) := by decide +kernel
theorem dX0_toldTag_0 : decode cX0_toldTag 0 = .ok (.aload_n 0, 1) := by decide +kernel
theorem dX0_toldTag_1 : decode cX0_toldTag 1 = .ok (.getfield 19, 3) := by decide +kernel
theorem dX0_toldTag_4 : decode cX0_toldTag 4 = .ok (.aload_n 0, 1) := by decide +kernel
theorem dX0_toldTag_5 : decode cX0_toldTag 5 = .ok (.getfield 32, 3) := by decide +kernel
theorem dX0_toldTag_8 : decode cX0_toldTag 8 = .ok (.iadd, 1) := by decide +kernel
theorem dX0_toldTag_9 : decode cX0_toldTag 9 = .ok (.sipush 257, 3) := by decide +kernel
theorem dX0_toldTag_12 : decode cX0_toldTag 12 = .ok (.irem, 1) := by decide +kernel
theorem dX0_toldTag_13 : decode cX0_toldTag 13 = .ok (.ireturn, 1) := by decide +kernel
theorem dX1_draft_0 : decode cX1_draft 0 = .ok (.aload_n 0, 1) := by decide +kernel
theorem dX1_draft_1 : decode cX1_draft 1 = .ok (.getfield 11, 3) := by decide +kernel
theorem dX1_draft_4 : decode cX1_draft 4 = .ok (.aload_n 0, 1) := by decide +kernel
theorem dX1_draft_5 : decode cX1_draft 5 = .ok (.getfield 18, 3) := by decide +kernel
theorem dX1_draft_8 : decode cX1_draft 8 = .ok (.aload_n 0, 1) := by decide +kernel
theorem dX1_draft_9 : decode cX1_draft 9 = .ok (.getfield 22, 3) := by decide +kernel
theorem dX1_draft_12 : decode cX1_draft 12 = .ok (.iadd, 1) := by decide +kernel
theorem dX1_draft_13 : decode cX1_draft 13 = .ok (.bipush 7, 2) := by decide +kernel
theorem dX1_draft_15 : decode cX1_draft 15 = .ok (.irem, 1) := by decide +kernel
theorem dX1_draft_16 : decode cX1_draft 16 = .ok (.aaload, 1) := by decide +kernel
theorem dX1_draft_17 : decode cX1_draft 17 = .ok (.aload_n 1, 1) := by decide +kernel
theorem dX1_draft_18 : decode cX1_draft 18 = .ok (.invokevirtual 25, 3) := by decide +kernel
theorem dX1_draft_21 : decode cX1_draft 21 = .ok (.return_, 1) := by decide +kernel
theorem dX1_init_0 : decode cX1_init 0 = .ok (.aload_n 0, 1) := by decide +kernel
theorem dX1_init_1 : decode cX1_init 1 = .ok (.invokespecial 3, 3) := by decide +kernel
theorem dX1_init_4 : decode cX1_init 4 = .ok (.aload_n 0, 1) := by decide +kernel
theorem dX1_init_5 : decode cX1_init 5 = .ok (.bipush 7, 2) := by decide +kernel
theorem dX1_init_7 : decode cX1_init 7 = .ok (.anewarray 9, 3) := by decide +kernel
theorem dX1_init_10 : decode cX1_init 10 = .ok (.putfield 11, 3) := by decide +kernel
theorem dX1_init_13 : decode cX1_init 13 = .ok (.iconst 0, 1) := by decide +kernel
theorem dX1_init_14 : decode cX1_init 14 = .ok (.istore_n 1, 1) := by decide +kernel
theorem dX1_init_15 : decode cX1_init 15 = .ok (.iload_n 1, 1) := by decide +kernel
theorem dX1_init_16 : decode cX1_init 16 = .ok (.bipush 7, 2) := by decide +kernel
theorem dX1_init_18 : decode cX1_init 18 = .ok (.if_icmp .ge 22, 3) := by decide +kernel
theorem dX1_init_21 : decode cX1_init 21 = .ok (.aload_n 0, 1) := by decide +kernel
theorem dX1_init_22 : decode cX1_init 22 = .ok (.getfield 11, 3) := by decide +kernel
theorem dX1_init_25 : decode cX1_init 25 = .ok (.iload_n 1, 1) := by decide +kernel
theorem dX1_init_26 : decode cX1_init 26 = .ok (.new 9, 3) := by decide +kernel
theorem dX1_init_29 : decode cX1_init 29 = .ok (.dup, 1) := by decide +kernel
theorem dX1_init_30 : decode cX1_init 30 = .ok (.invokespecial 17, 3) := by decide +kernel
theorem dX1_init_33 : decode cX1_init 33 = .ok (.aastore, 1) := by decide +kernel
theorem dX1_init_34 : decode cX1_init 34 = .ok (.iinc 1 1, 3) := by decide +kernel
theorem dX1_init_37 : decode cX1_init 37 = .ok (.goto (-22), 3) := by decide +kernel
theorem dX1_init_40 : decode cX1_init 40 = .ok (.return_, 1) := by decide +kernel
theorem dX1_recordDraft_0 : decode cX1_recordDraft 0 = .ok (.aload_n 0, 1) := by decide +kernel
theorem dX1_recordDraft_1 : decode cX1_recordDraft 1 = .ok (.getfield 22, 3) := by decide +kernel
theorem dX1_recordDraft_4 : decode cX1_recordDraft 4 = .ok (.bipush 6, 2) := by decide +kernel
theorem dX1_recordDraft_6 : decode cX1_recordDraft 6 = .ok (.if_icmp .ge 16, 3) := by decide +kernel
theorem dX1_recordDraft_9 : decode cX1_recordDraft 9 = .ok (.aload_n 0, 1) := by decide +kernel
theorem dX1_recordDraft_10 : decode cX1_recordDraft 10 = .ok (.dup, 1) := by decide +kernel
theorem dX1_recordDraft_11 : decode cX1_recordDraft 11 = .ok (.getfield 22, 3) := by decide +kernel
theorem dX1_recordDraft_14 : decode cX1_recordDraft 14 = .ok (.iconst 1, 1) := by decide +kernel
theorem dX1_recordDraft_15 : decode cX1_recordDraft 15 = .ok (.iadd, 1) := by decide +kernel
theorem dX1_recordDraft_16 : decode cX1_recordDraft 16 = .ok (.putfield 22, 3) := by decide +kernel
theorem dX1_recordDraft_19 : decode cX1_recordDraft 19 = .ok (.goto 16, 3) := by decide +kernel
theorem dX1_recordDraft_22 : decode cX1_recordDraft 22 = .ok (.aload_n 0, 1) := by decide +kernel
theorem dX1_recordDraft_23 : decode cX1_recordDraft 23 = .ok (.aload_n 0, 1) := by decide +kernel
theorem dX1_recordDraft_24 : decode cX1_recordDraft 24 = .ok (.getfield 18, 3) := by decide +kernel
theorem dX1_recordDraft_27 : decode cX1_recordDraft 27 = .ok (.iconst 1, 1) := by decide +kernel
theorem dX1_recordDraft_28 : decode cX1_recordDraft 28 = .ok (.iadd, 1) := by decide +kernel
theorem dX1_recordDraft_29 : decode cX1_recordDraft 29 = .ok (.bipush 7, 2) := by decide +kernel
theorem dX1_recordDraft_31 : decode cX1_recordDraft 31 = .ok (.irem, 1) := by decide +kernel
theorem dX1_recordDraft_32 : decode cX1_recordDraft 32 = .ok (.putfield 18, 3) := by decide +kernel
theorem dX1_recordDraft_35 : decode cX1_recordDraft 35 = .ok (.return_, 1) := by decide +kernel
theorem dX1_takesBack_0 : decode cX1_takesBack 0 = .ok (.aload_n 0, 1) := by decide +kernel
theorem dX1_takesBack_1 : decode cX1_takesBack 1 = .ok (.getfield 22, 3) := by decide +kernel
theorem dX1_takesBack_4 : decode cX1_takesBack 4 = .ok (.ifCond .ne 5, 3) := by decide +kernel
theorem dX1_takesBack_7 : decode cX1_takesBack 7 = .ok (.iconst 0, 1) := by decide +kernel
theorem dX1_takesBack_8 : decode cX1_takesBack 8 = .ok (.ireturn, 1) := by decide +kernel
theorem dX1_takesBack_9 : decode cX1_takesBack 9 = .ok (.aload_n 0, 1) := by decide +kernel
theorem dX1_takesBack_10 : decode cX1_takesBack 10 = .ok (.dup, 1) := by decide +kernel
theorem dX1_takesBack_11 : decode cX1_takesBack 11 = .ok (.getfield 22, 3) := by decide +kernel
theorem dX1_takesBack_14 : decode cX1_takesBack 14 = .ok (.iconst 1, 1) := by decide +kernel
theorem dX1_takesBack_15 : decode cX1_takesBack 15 = .ok (.isub, 1) := by decide +kernel
theorem dX1_takesBack_16 : decode cX1_takesBack 16 = .ok (.putfield 22, 3) := by decide +kernel
theorem dX1_takesBack_19 : decode cX1_takesBack 19 = .ok (.aload_n 1, 1) := by decide +kernel
theorem dX1_takesBack_20 : decode cX1_takesBack 20 = .ok (.aload_n 0, 1) := by decide +kernel
theorem dX1_takesBack_21 : decode cX1_takesBack 21 = .ok (.getfield 11, 3) := by decide +kernel
theorem dX1_takesBack_24 : decode cX1_takesBack 24 = .ok (.aload_n 0, 1) := by decide +kernel
theorem dX1_takesBack_25 : decode cX1_takesBack 25 = .ok (.getfield 18, 3) := by decide +kernel
theorem dX1_takesBack_28 : decode cX1_takesBack 28 = .ok (.aload_n 0, 1) := by decide +kernel
theorem dX1_takesBack_29 : decode cX1_takesBack 29 = .ok (.getfield 22, 3) := by decide +kernel
theorem dX1_takesBack_32 : decode cX1_takesBack 32 = .ok (.iadd, 1) := by decide +kernel
theorem dX1_takesBack_33 : decode cX1_takesBack 33 = .ok (.bipush 7, 2) := by decide +kernel
theorem dX1_takesBack_35 : decode cX1_takesBack 35 = .ok (.irem, 1) := by decide +kernel
theorem dX1_takesBack_36 : decode cX1_takesBack 36 = .ok (.aaload, 1) := by decide +kernel
theorem dX1_takesBack_37 : decode cX1_takesBack 37 = .ok (.invokevirtual 25, 3) := by decide +kernel
theorem dX1_takesBack_40 : decode cX1_takesBack 40 = .ok (.iconst 1, 1) := by decide +kernel
theorem dX1_takesBack_41 : decode cX1_takesBack 41 = .ok (.ireturn, 1) := by decide +kernel
theorem dX2_init_0 : decode cX2_init 0 = .ok (.aload_n 0, 1) := by decide +kernel
theorem dX2_init_1 : decode cX2_init 1 = .ok (.invokespecial 3, 3) := by decide +kernel
theorem dX2_init_4 : decode cX2_init 4 = .ok (.aload_n 0, 1) := by decide +kernel
theorem dX2_init_5 : decode cX2_init 5 = .ok (.bipush 80, 2) := by decide +kernel
theorem dX2_init_7 : decode cX2_init 7 = .ok (.newarray .char, 2) := by decide +kernel
theorem dX2_init_9 : decode cX2_init 9 = .ok (.putfield 9, 3) := by decide +kernel
theorem dX2_init_12 : decode cX2_init 12 = .ok (.return_, 1) := by decide +kernel
theorem dX3_init_0 : decode cX3_init 0 = .ok (.aload_n 0, 1) := by decide +kernel
theorem dX3_init_1 : decode cX3_init 1 = .ok (.invokespecial 3, 3) := by decide +kernel
theorem dX3_init_4 : decode cX3_init 4 = .ok (.aload_n 0, 1) := by decide +kernel
theorem dX3_init_5 : decode cX3_init 5 = .ok (.aload_n 1, 1) := by decide +kernel
theorem dX3_init_6 : decode cX3_init 6 = .ok (.putfield 9, 3) := by decide +kernel
theorem dX3_init_9 : decode cX3_init 9 = .ok (.return_, 1) := by decide +kernel
theorem dX4_ageKeeping_0 : decode cX4_ageKeeping 0 = .ok (.aload_n 0, 1) := by decide +kernel
theorem dX4_ageKeeping_1 : decode cX4_ageKeeping 1 = .ok (.getfield 12, 3) := by decide +kernel
theorem dX4_ageKeeping_4 : decode cX4_ageKeeping 4 = .ok (.invokevirtual 55, 3) := by decide +kernel
theorem dX4_ageKeeping_7 : decode cX4_ageKeeping 7 = .ok (.aload_n 0, 1) := by decide +kernel
theorem dX4_ageKeeping_8 : decode cX4_ageKeeping 8 = .ok (.getfield 18, 3) := by decide +kernel
theorem dX4_ageKeeping_11 : decode cX4_ageKeeping 11 = .ok (.invokevirtual 55, 3) := by decide +kernel
theorem dX4_ageKeeping_14 : decode cX4_ageKeeping 14 = .ok (.aload_n 0, 1) := by decide +kernel
theorem dX4_ageKeeping_15 : decode cX4_ageKeeping 15 = .ok (.getfield 29, 3) := by decide +kernel
theorem dX4_ageKeeping_18 : decode cX4_ageKeeping 18 = .ok (.iconst 1, 1) := by decide +kernel
theorem dX4_ageKeeping_19 : decode cX4_ageKeeping 19 = .ok (.iadd, 1) := by decide +kernel
theorem dX4_ageKeeping_20 : decode cX4_ageKeeping 20 = .ok (.istore_n 2, 1) := by decide +kernel
theorem dX4_ageKeeping_21 : decode cX4_ageKeeping 21 = .ok (.aload_n 0, 1) := by decide +kernel
theorem dX4_ageKeeping_22 : decode cX4_ageKeeping 22 = .ok (.iload_n 2, 1) := by decide +kernel
theorem dX4_ageKeeping_23 : decode cX4_ageKeeping 23 = .ok (.iload_n 1, 1) := by decide +kernel
theorem dX4_ageKeeping_24 : decode cX4_ageKeeping 24 = .ok (.invokestatic 58, 3) := by decide +kernel
theorem dX4_ageKeeping_27 : decode cX4_ageKeeping 27 = .ok (.putfield 29, 3) := by decide +kernel
theorem dX4_ageKeeping_30 : decode cX4_ageKeeping 30 = .ok (.iload_n 2, 1) := by decide +kernel
theorem dX4_ageKeeping_31 : decode cX4_ageKeeping 31 = .ok (.aload_n 0, 1) := by decide +kernel
theorem dX4_ageKeeping_32 : decode cX4_ageKeeping 32 = .ok (.getfield 29, 3) := by decide +kernel
theorem dX4_ageKeeping_35 : decode cX4_ageKeeping 35 = .ok (.isub, 1) := by decide +kernel
theorem dX4_ageKeeping_36 : decode cX4_ageKeeping 36 = .ok (.ireturn, 1) := by decide +kernel
theorem dX4_answerIfMerged_0 : decode cX4_answerIfMerged 0 = .ok (.aload_n 0, 1) := by decide +kernel
theorem dX4_answerIfMerged_1 : decode cX4_answerIfMerged 1 = .ok (.getfield 12, 3) := by decide +kernel
theorem dX4_answerIfMerged_4 : decode cX4_answerIfMerged 4 = .ok (.aload_n 0, 1) := by decide +kernel
theorem dX4_answerIfMerged_5 : decode cX4_answerIfMerged 5 = .ok (.getfield 18, 3) := by decide +kernel
theorem dX4_answerIfMerged_8 : decode cX4_answerIfMerged 8 = .ok (.invokevirtual 64, 3) := by decide +kernel
theorem dX4_answerIfMerged_11 : decode cX4_answerIfMerged 11 = .ok (.ifCond .eq 7, 3) := by decide +kernel
theorem dX4_answerIfMerged_14 : decode cX4_answerIfMerged 14 = .ok (.sipush 1000, 3) := by decide +kernel
theorem dX4_answerIfMerged_17 : decode cX4_answerIfMerged 17 = .ok (.ireturn, 1) := by decide +kernel
theorem dX4_answerIfMerged_18 : decode cX4_answerIfMerged 18 = .ok (.aload_n 0, 1) := by decide +kernel
theorem dX4_answerIfMerged_19 : decode cX4_answerIfMerged 19 = .ok (.getfield 18, 3) := by decide +kernel
theorem dX4_answerIfMerged_22 : decode cX4_answerIfMerged 22 = .ok (.aload_n 0, 1) := by decide +kernel
theorem dX4_answerIfMerged_23 : decode cX4_answerIfMerged 23 = .ok (.getfield 12, 3) := by decide +kernel
theorem dX4_answerIfMerged_26 : decode cX4_answerIfMerged 26 = .ok (.invokevirtual 64, 3) := by decide +kernel
theorem dX4_answerIfMerged_29 : decode cX4_answerIfMerged 29 = .ok (.ifCond .eq 7, 3) := by decide +kernel
theorem dX4_answerIfMerged_32 : decode cX4_answerIfMerged 32 = .ok (.sipush 1001, 3) := by decide +kernel
theorem dX4_answerIfMerged_35 : decode cX4_answerIfMerged 35 = .ok (.ireturn, 1) := by decide +kernel
theorem dX4_answerIfMerged_36 : decode cX4_answerIfMerged 36 = .ok (.aload_n 0, 1) := by decide +kernel
theorem dX4_answerIfMerged_37 : decode cX4_answerIfMerged 37 = .ok (.getfield 12, 3) := by decide +kernel
theorem dX4_answerIfMerged_40 : decode cX4_answerIfMerged 40 = .ok (.invokevirtual 68, 3) := by decide +kernel
theorem dX4_answerIfMerged_43 : decode cX4_answerIfMerged 43 = .ok (.aload_n 0, 1) := by decide +kernel
theorem dX4_answerIfMerged_44 : decode cX4_answerIfMerged 44 = .ok (.getfield 18, 3) := by decide +kernel
theorem dX4_answerIfMerged_47 : decode cX4_answerIfMerged 47 = .ok (.invokevirtual 68, 3) := by decide +kernel
theorem dX4_answerIfMerged_50 : decode cX4_answerIfMerged 50 = .ok (.iadd, 1) := by decide +kernel
theorem dX4_answerIfMerged_51 : decode cX4_answerIfMerged 51 = .ok (.sipush 256, 3) := by decide +kernel
theorem dX4_answerIfMerged_54 : decode cX4_answerIfMerged 54 = .ok (.irem, 1) := by decide +kernel
theorem dX4_answerIfMerged_55 : decode cX4_answerIfMerged 55 = .ok (.ireturn, 1) := by decide +kernel
theorem dX4_copySecret_0 : decode cX4_copySecret 0 = .ok (.aload_n 0, 1) := by decide +kernel
theorem dX4_copySecret_1 : decode cX4_copySecret 1 = .ok (.getfield 12, 3) := by decide +kernel
theorem dX4_copySecret_4 : decode cX4_copySecret 4 = .ok (.aload_n 1, 1) := by decide +kernel
theorem dX4_copySecret_5 : decode cX4_copySecret 5 = .ok (.getfield 12, 3) := by decide +kernel
theorem dX4_copySecret_8 : decode cX4_copySecret 8 = .ok (.invokevirtual 21, 3) := by decide +kernel
theorem dX4_copySecret_11 : decode cX4_copySecret 11 = .ok (.aload_n 0, 1) := by decide +kernel
theorem dX4_copySecret_12 : decode cX4_copySecret 12 = .ok (.getfield 18, 3) := by decide +kernel
theorem dX4_copySecret_15 : decode cX4_copySecret 15 = .ok (.aload_n 1, 1) := by decide +kernel
theorem dX4_copySecret_16 : decode cX4_copySecret 16 = .ok (.getfield 18, 3) := by decide +kernel
theorem dX4_copySecret_19 : decode cX4_copySecret 19 = .ok (.invokevirtual 21, 3) := by decide +kernel
theorem dX4_copySecret_22 : decode cX4_copySecret 22 = .ok (.aload_n 0, 1) := by decide +kernel
theorem dX4_copySecret_23 : decode cX4_copySecret 23 = .ok (.aload_n 1, 1) := by decide +kernel
theorem dX4_copySecret_24 : decode cX4_copySecret 24 = .ok (.getfield 25, 3) := by decide +kernel
theorem dX4_copySecret_27 : decode cX4_copySecret 27 = .ok (.putfield 25, 3) := by decide +kernel
theorem dX4_copySecret_30 : decode cX4_copySecret 30 = .ok (.aload_n 0, 1) := by decide +kernel
theorem dX4_copySecret_31 : decode cX4_copySecret 31 = .ok (.aload_n 1, 1) := by decide +kernel
theorem dX4_copySecret_32 : decode cX4_copySecret 32 = .ok (.getfield 29, 3) := by decide +kernel
theorem dX4_copySecret_35 : decode cX4_copySecret 35 = .ok (.putfield 29, 3) := by decide +kernel
theorem dX4_copySecret_38 : decode cX4_copySecret 38 = .ok (.aload_n 0, 1) := by decide +kernel
theorem dX4_copySecret_39 : decode cX4_copySecret 39 = .ok (.aload_n 1, 1) := by decide +kernel
theorem dX4_copySecret_40 : decode cX4_copySecret 40 = .ok (.getfield 32, 3) := by decide +kernel
theorem dX4_copySecret_43 : decode cX4_copySecret 43 = .ok (.putfield 32, 3) := by decide +kernel
theorem dX4_copySecret_46 : decode cX4_copySecret 46 = .ok (.aload_n 0, 1) := by decide +kernel
theorem dX4_copySecret_47 : decode cX4_copySecret 47 = .ok (.aload_n 1, 1) := by decide +kernel
theorem dX4_copySecret_48 : decode cX4_copySecret 48 = .ok (.getfield 35, 3) := by decide +kernel
theorem dX4_copySecret_51 : decode cX4_copySecret 51 = .ok (.putfield 35, 3) := by decide +kernel
theorem dX4_copySecret_54 : decode cX4_copySecret 54 = .ok (.aload_n 0, 1) := by decide +kernel
theorem dX4_copySecret_55 : decode cX4_copySecret 55 = .ok (.aload_n 1, 1) := by decide +kernel
theorem dX4_copySecret_56 : decode cX4_copySecret 56 = .ok (.getfield 38, 3) := by decide +kernel
theorem dX4_copySecret_59 : decode cX4_copySecret 59 = .ok (.putfield 38, 3) := by decide +kernel
theorem dX4_copySecret_62 : decode cX4_copySecret 62 = .ok (.aload_n 0, 1) := by decide +kernel
theorem dX4_copySecret_63 : decode cX4_copySecret 63 = .ok (.aload_n 1, 1) := by decide +kernel
theorem dX4_copySecret_64 : decode cX4_copySecret 64 = .ok (.getfield 41, 3) := by decide +kernel
theorem dX4_copySecret_67 : decode cX4_copySecret 67 = .ok (.putfield 41, 3) := by decide +kernel
theorem dX4_copySecret_70 : decode cX4_copySecret 70 = .ok (.aload_n 0, 1) := by decide +kernel
theorem dX4_copySecret_71 : decode cX4_copySecret 71 = .ok (.aload_n 1, 1) := by decide +kernel
theorem dX4_copySecret_72 : decode cX4_copySecret 72 = .ok (.getfield 44, 3) := by decide +kernel
theorem dX4_copySecret_75 : decode cX4_copySecret 75 = .ok (.putfield 44, 3) := by decide +kernel
theorem dX4_copySecret_78 : decode cX4_copySecret 78 = .ok (.aload_n 0, 1) := by decide +kernel
theorem dX4_copySecret_79 : decode cX4_copySecret 79 = .ok (.aload_n 1, 1) := by decide +kernel
theorem dX4_copySecret_80 : decode cX4_copySecret 80 = .ok (.getfield 47, 3) := by decide +kernel
theorem dX4_copySecret_83 : decode cX4_copySecret 83 = .ok (.putfield 47, 3) := by decide +kernel
theorem dX4_copySecret_86 : decode cX4_copySecret 86 = .ok (.return_, 1) := by decide +kernel
theorem dX4_halfBeside_0 : decode cX4_halfBeside 0 = .ok (.iload_n 1, 1) := by decide +kernel
theorem dX4_halfBeside_1 : decode cX4_halfBeside 1 = .ok (.ifCond .ne 10, 3) := by decide +kernel
theorem dX4_halfBeside_4 : decode cX4_halfBeside 4 = .ok (.aload_n 0, 1) := by decide +kernel
theorem dX4_halfBeside_5 : decode cX4_halfBeside 5 = .ok (.getfield 18, 3) := by decide +kernel
theorem dX4_halfBeside_8 : decode cX4_halfBeside 8 = .ok (.goto 7, 3) := by decide +kernel
theorem dX4_halfBeside_11 : decode cX4_halfBeside 11 = .ok (.aload_n 0, 1) := by decide +kernel
theorem dX4_halfBeside_12 : decode cX4_halfBeside 12 = .ok (.getfield 12, 3) := by decide +kernel
theorem dX4_halfBeside_15 : decode cX4_halfBeside 15 = .ok (.areturn, 1) := by decide +kernel
theorem dX4_halfIn_0 : decode cX4_halfIn 0 = .ok (.iload_n 1, 1) := by decide +kernel
theorem dX4_halfIn_1 : decode cX4_halfIn 1 = .ok (.ifCond .ne 10, 3) := by decide +kernel
theorem dX4_halfIn_4 : decode cX4_halfIn 4 = .ok (.aload_n 0, 1) := by decide +kernel
theorem dX4_halfIn_5 : decode cX4_halfIn 5 = .ok (.getfield 12, 3) := by decide +kernel
theorem dX4_halfIn_8 : decode cX4_halfIn 8 = .ok (.goto 7, 3) := by decide +kernel
theorem dX4_halfIn_11 : decode cX4_halfIn 11 = .ok (.aload_n 0, 1) := by decide +kernel
theorem dX4_halfIn_12 : decode cX4_halfIn 12 = .ok (.getfield 18, 3) := by decide +kernel
theorem dX4_halfIn_15 : decode cX4_halfIn 15 = .ok (.areturn, 1) := by decide +kernel
theorem dX4_init_0 : decode cX4_init 0 = .ok (.aload_n 0, 1) := by decide +kernel
theorem dX4_init_1 : decode cX4_init 1 = .ok (.invokespecial 3, 3) := by decide +kernel
theorem dX4_init_4 : decode cX4_init 4 = .ok (.aload_n 0, 1) := by decide +kernel
theorem dX4_init_5 : decode cX4_init 5 = .ok (.new 9, 3) := by decide +kernel
theorem dX4_init_8 : decode cX4_init 8 = .ok (.dup, 1) := by decide +kernel
theorem dX4_init_9 : decode cX4_init 9 = .ok (.invokespecial 11, 3) := by decide +kernel
theorem dX4_init_12 : decode cX4_init 12 = .ok (.putfield 12, 3) := by decide +kernel
theorem dX4_init_15 : decode cX4_init 15 = .ok (.aload_n 0, 1) := by decide +kernel
theorem dX4_init_16 : decode cX4_init 16 = .ok (.new 9, 3) := by decide +kernel
theorem dX4_init_19 : decode cX4_init 19 = .ok (.dup, 1) := by decide +kernel
theorem dX4_init_20 : decode cX4_init 20 = .ok (.invokespecial 11, 3) := by decide +kernel
theorem dX4_init_23 : decode cX4_init 23 = .ok (.putfield 18, 3) := by decide +kernel
theorem dX4_init_26 : decode cX4_init 26 = .ok (.return_, 1) := by decide +kernel
theorem dX4_open_0 : decode cX4_open 0 = .ok (.aload_n 0, 1) := by decide +kernel
theorem dX4_open_1 : decode cX4_open 1 = .ok (.iload_n 1, 1) := by decide +kernel
theorem dX4_open_2 : decode cX4_open 2 = .ok (.putfield 32, 3) := by decide +kernel
theorem dX4_open_5 : decode cX4_open 5 = .ok (.aload_n 0, 1) := by decide +kernel
theorem dX4_open_6 : decode cX4_open 6 = .ok (.iload_n 2, 1) := by decide +kernel
theorem dX4_open_7 : decode cX4_open 7 = .ok (.putfield 35, 3) := by decide +kernel
theorem dX4_open_10 : decode cX4_open 10 = .ok (.aload_n 0, 1) := by decide +kernel
theorem dX4_open_11 : decode cX4_open 11 = .ok (.dup, 1) := by decide +kernel
theorem dX4_open_12 : decode cX4_open 12 = .ok (.getfield 41, 3) := by decide +kernel
theorem dX4_open_15 : decode cX4_open 15 = .ok (.iconst 1, 1) := by decide +kernel
theorem dX4_open_16 : decode cX4_open 16 = .ok (.iadd, 1) := by decide +kernel
theorem dX4_open_17 : decode cX4_open 17 = .ok (.putfield 41, 3) := by decide +kernel
theorem dX4_open_20 : decode cX4_open 20 = .ok (.return_, 1) := by decide +kernel
theorem dX4_partForThief_0 : decode cX4_partForThief 0 = .ok (.aload_n 0, 1) := by decide +kernel
theorem dX4_partForThief_1 : decode cX4_partForThief 1 = .ok (.iload_n 1, 1) := by decide +kernel
theorem dX4_partForThief_2 : decode cX4_partForThief 2 = .ok (.invokevirtual 72, 3) := by decide +kernel
theorem dX4_partForThief_5 : decode cX4_partForThief 5 = .ok (.astore_n 3, 1) := by decide +kernel
theorem dX4_partForThief_6 : decode cX4_partForThief 6 = .ok (.aload_n 3, 1) := by decide +kernel
theorem dX4_partForThief_7 : decode cX4_partForThief 7 = .ok (.getfield 76, 3) := by decide +kernel
theorem dX4_partForThief_10 : decode cX4_partForThief 10 = .ok (.iload_n 2, 1) := by decide +kernel
theorem dX4_partForThief_11 : decode cX4_partForThief 11 = .ok (.baload, 1) := by decide +kernel
theorem dX4_partForThief_12 : decode cX4_partForThief 12 = .ok (.ifCond .ne 20, 3) := by decide +kernel
theorem dX4_partForThief_15 : decode cX4_partForThief 15 = .ok (.aload_n 3, 1) := by decide +kernel
theorem dX4_partForThief_16 : decode cX4_partForThief 16 = .ok (.getfield 76, 3) := by decide +kernel
theorem dX4_partForThief_19 : decode cX4_partForThief 19 = .ok (.iload_n 2, 1) := by decide +kernel
theorem dX4_partForThief_20 : decode cX4_partForThief 20 = .ok (.iconst 1, 1) := by decide +kernel
theorem dX4_partForThief_21 : decode cX4_partForThief 21 = .ok (.bastore, 1) := by decide +kernel
theorem dX4_partForThief_22 : decode cX4_partForThief 22 = .ok (.aload_n 0, 1) := by decide +kernel
theorem dX4_partForThief_23 : decode cX4_partForThief 23 = .ok (.dup, 1) := by decide +kernel
theorem dX4_partForThief_24 : decode cX4_partForThief 24 = .ok (.getfield 44, 3) := by decide +kernel
theorem dX4_partForThief_27 : decode cX4_partForThief 27 = .ok (.iconst 1, 1) := by decide +kernel
theorem dX4_partForThief_28 : decode cX4_partForThief 28 = .ok (.iadd, 1) := by decide +kernel
theorem dX4_partForThief_29 : decode cX4_partForThief 29 = .ok (.putfield 44, 3) := by decide +kernel
theorem dX4_partForThief_32 : decode cX4_partForThief 32 = .ok (.aload_n 0, 1) := by decide +kernel
theorem dX4_partForThief_33 : decode cX4_partForThief 33 = .ok (.aload_n 0, 1) := by decide +kernel
theorem dX4_partForThief_34 : decode cX4_partForThief 34 = .ok (.getfield 47, 3) := by decide +kernel
theorem dX4_partForThief_37 : decode cX4_partForThief 37 = .ok (.ifCond .ne 12, 3) := by decide +kernel
theorem dX4_partForThief_40 : decode cX4_partForThief 40 = .ok (.aload_n 0, 1) := by decide +kernel
theorem dX4_partForThief_41 : decode cX4_partForThief 41 = .ok (.iload_n 2, 1) := by decide +kernel
theorem dX4_partForThief_42 : decode cX4_partForThief 42 = .ok (.invokevirtual 80, 3) := by decide +kernel
theorem dX4_partForThief_45 : decode cX4_partForThief 45 = .ok (.iconst 3, 1) := by decide +kernel
theorem dX4_partForThief_46 : decode cX4_partForThief 46 = .ok (.if_icmp .ne 7, 3) := by decide +kernel
theorem dX4_partForThief_49 : decode cX4_partForThief 49 = .ok (.iconst 1, 1) := by decide +kernel
theorem dX4_partForThief_50 : decode cX4_partForThief 50 = .ok (.goto 4, 3) := by decide +kernel
theorem dX4_partForThief_53 : decode cX4_partForThief 53 = .ok (.iconst 0, 1) := by decide +kernel
theorem dX4_partForThief_54 : decode cX4_partForThief 54 = .ok (.putfield 47, 3) := by decide +kernel
theorem dX4_partForThief_57 : decode cX4_partForThief 57 = .ok (.aload_n 3, 1) := by decide +kernel
theorem dX4_partForThief_58 : decode cX4_partForThief 58 = .ok (.getfield 51, 3) := by decide +kernel
theorem dX4_partForThief_61 : decode cX4_partForThief 61 = .ok (.iload_n 2, 1) := by decide +kernel
theorem dX4_partForThief_62 : decode cX4_partForThief 62 = .ok (.iaload, 1) := by decide +kernel
theorem dX4_partForThief_63 : decode cX4_partForThief 63 = .ok (.ireturn, 1) := by decide +kernel
theorem dX4_rowsAtRisk_0 : decode cX4_rowsAtRisk 0 = .ok (.iconst 0, 1) := by decide +kernel
theorem dX4_rowsAtRisk_1 : decode cX4_rowsAtRisk 1 = .ok (.istore_n 1, 1) := by decide +kernel
theorem dX4_rowsAtRisk_2 : decode cX4_rowsAtRisk 2 = .ok (.iconst 0, 1) := by decide +kernel
theorem dX4_rowsAtRisk_3 : decode cX4_rowsAtRisk 3 = .ok (.istore_n 2, 1) := by decide +kernel
theorem dX4_rowsAtRisk_4 : decode cX4_rowsAtRisk 4 = .ok (.iload_n 2, 1) := by decide +kernel
theorem dX4_rowsAtRisk_5 : decode cX4_rowsAtRisk 5 = .ok (.aload_n 0, 1) := by decide +kernel
theorem dX4_rowsAtRisk_6 : decode cX4_rowsAtRisk 6 = .ok (.getfield 29, 3) := by decide +kernel
theorem dX4_rowsAtRisk_9 : decode cX4_rowsAtRisk 9 = .ok (.if_icmp .gt 38, 3) := by decide +kernel
theorem dX4_rowsAtRisk_12 : decode cX4_rowsAtRisk 12 = .ok (.iload_n 2, 1) := by decide +kernel
theorem dX4_rowsAtRisk_13 : decode cX4_rowsAtRisk 13 = .ok (.iconst 5, 1) := by decide +kernel
theorem dX4_rowsAtRisk_14 : decode cX4_rowsAtRisk 14 = .ok (.if_icmp .ge 33, 3) := by decide +kernel
theorem dX4_rowsAtRisk_17 : decode cX4_rowsAtRisk 17 = .ok (.aload_n 0, 1) := by decide +kernel
theorem dX4_rowsAtRisk_18 : decode cX4_rowsAtRisk 18 = .ok (.getfield 12, 3) := by decide +kernel
theorem dX4_rowsAtRisk_21 : decode cX4_rowsAtRisk 21 = .ok (.getfield 76, 3) := by decide +kernel
theorem dX4_rowsAtRisk_24 : decode cX4_rowsAtRisk 24 = .ok (.iload_n 2, 1) := by decide +kernel
theorem dX4_rowsAtRisk_25 : decode cX4_rowsAtRisk 25 = .ok (.baload, 1) := by decide +kernel
theorem dX4_rowsAtRisk_26 : decode cX4_rowsAtRisk 26 = .ok (.aload_n 0, 1) := by decide +kernel
theorem dX4_rowsAtRisk_27 : decode cX4_rowsAtRisk 27 = .ok (.getfield 18, 3) := by decide +kernel
theorem dX4_rowsAtRisk_30 : decode cX4_rowsAtRisk 30 = .ok (.getfield 76, 3) := by decide +kernel
theorem dX4_rowsAtRisk_33 : decode cX4_rowsAtRisk 33 = .ok (.iload_n 2, 1) := by decide +kernel
theorem dX4_rowsAtRisk_34 : decode cX4_rowsAtRisk 34 = .ok (.baload, 1) := by decide +kernel
theorem dX4_rowsAtRisk_35 : decode cX4_rowsAtRisk 35 = .ok (.if_icmp .eq 6, 3) := by decide +kernel
theorem dX4_rowsAtRisk_38 : decode cX4_rowsAtRisk 38 = .ok (.iinc 1 1, 3) := by decide +kernel
theorem dX4_rowsAtRisk_41 : decode cX4_rowsAtRisk 41 = .ok (.iinc 2 1, 3) := by decide +kernel
theorem dX4_rowsAtRisk_44 : decode cX4_rowsAtRisk 44 = .ok (.goto (-40), 3) := by decide +kernel
theorem dX4_rowsAtRisk_47 : decode cX4_rowsAtRisk 47 = .ok (.iload_n 1, 1) := by decide +kernel
theorem dX4_rowsAtRisk_48 : decode cX4_rowsAtRisk 48 = .ok (.ireturn, 1) := by decide +kernel
theorem dX4_takenSet_0 : decode cX4_takenSet 0 = .ok (.aload_n 0, 1) := by decide +kernel
theorem dX4_takenSet_1 : decode cX4_takenSet 1 = .ok (.getfield 12, 3) := by decide +kernel
theorem dX4_takenSet_4 : decode cX4_takenSet 4 = .ok (.getfield 76, 3) := by decide +kernel
theorem dX4_takenSet_7 : decode cX4_takenSet 7 = .ok (.iload_n 1, 1) := by decide +kernel
theorem dX4_takenSet_8 : decode cX4_takenSet 8 = .ok (.baload, 1) := by decide +kernel
theorem dX4_takenSet_9 : decode cX4_takenSet 9 = .ok (.ifCond .eq 7, 3) := by decide +kernel
theorem dX4_takenSet_12 : decode cX4_takenSet 12 = .ok (.iconst 1, 1) := by decide +kernel
theorem dX4_takenSet_13 : decode cX4_takenSet 13 = .ok (.goto 4, 3) := by decide +kernel
theorem dX4_takenSet_16 : decode cX4_takenSet 16 = .ok (.iconst 0, 1) := by decide +kernel
theorem dX4_takenSet_17 : decode cX4_takenSet 17 = .ok (.aload_n 0, 1) := by decide +kernel
theorem dX4_takenSet_18 : decode cX4_takenSet 18 = .ok (.getfield 18, 3) := by decide +kernel
theorem dX4_takenSet_21 : decode cX4_takenSet 21 = .ok (.getfield 76, 3) := by decide +kernel
theorem dX4_takenSet_24 : decode cX4_takenSet 24 = .ok (.iload_n 1, 1) := by decide +kernel
theorem dX4_takenSet_25 : decode cX4_takenSet 25 = .ok (.baload, 1) := by decide +kernel
theorem dX4_takenSet_26 : decode cX4_takenSet 26 = .ok (.ifCond .eq 7, 3) := by decide +kernel
theorem dX4_takenSet_29 : decode cX4_takenSet 29 = .ok (.iconst 2, 1) := by decide +kernel
theorem dX4_takenSet_30 : decode cX4_takenSet 30 = .ok (.goto 4, 3) := by decide +kernel
theorem dX4_takenSet_33 : decode cX4_takenSet 33 = .ok (.iconst 0, 1) := by decide +kernel
theorem dX4_takenSet_34 : decode cX4_takenSet 34 = .ok (.iadd, 1) := by decide +kernel
theorem dX4_takenSet_35 : decode cX4_takenSet 35 = .ok (.ireturn, 1) := by decide +kernel
theorem dX4_value_0 : decode cX4_value 0 = .ok (.aload_n 0, 1) := by decide +kernel
theorem dX4_value_1 : decode cX4_value 1 = .ok (.getfield 12, 3) := by decide +kernel
theorem dX4_value_4 : decode cX4_value 4 = .ok (.getfield 51, 3) := by decide +kernel
theorem dX4_value_7 : decode cX4_value 7 = .ok (.iconst 0, 1) := by decide +kernel
theorem dX4_value_8 : decode cX4_value 8 = .ok (.iaload, 1) := by decide +kernel
theorem dX4_value_9 : decode cX4_value 9 = .ok (.aload_n 0, 1) := by decide +kernel
theorem dX4_value_10 : decode cX4_value 10 = .ok (.getfield 18, 3) := by decide +kernel
theorem dX4_value_13 : decode cX4_value 13 = .ok (.getfield 51, 3) := by decide +kernel
theorem dX4_value_16 : decode cX4_value 16 = .ok (.iconst 0, 1) := by decide +kernel
theorem dX4_value_17 : decode cX4_value 17 = .ok (.iaload, 1) := by decide +kernel
theorem dX4_value_18 : decode cX4_value 18 = .ok (.iadd, 1) := by decide +kernel
theorem dX4_value_19 : decode cX4_value 19 = .ok (.sipush 256, 3) := by decide +kernel
theorem dX4_value_22 : decode cX4_value 22 = .ok (.irem, 1) := by decide +kernel
theorem dX4_value_23 : decode cX4_value 23 = .ok (.ireturn, 1) := by decide +kernel
theorem dX5_adm_0 : decode cX5_adm 0 = .ok (.iload_n 1, 1) := by decide +kernel
theorem dX5_adm_1 : decode cX5_adm 1 = .ok (.invokestatic 69, 3) := by decide +kernel
theorem dX5_adm_4 : decode cX5_adm 4 = .ok (.ifCond .ne 6, 3) := by decide +kernel
theorem dX5_adm_7 : decode cX5_adm 7 = .ok (.bipush (-2), 2) := by decide +kernel
theorem dX5_adm_9 : decode cX5_adm 9 = .ok (.ireturn, 1) := by decide +kernel
theorem dX5_adm_10 : decode cX5_adm 10 = .ok (.aload_n 0, 1) := by decide +kernel
theorem dX5_adm_11 : decode cX5_adm 11 = .ok (.getfield 34, 3) := by decide +kernel
theorem dX5_adm_14 : decode cX5_adm 14 = .ok (.bipush 8, 2) := by decide +kernel
theorem dX5_adm_16 : decode cX5_adm 16 = .ok (.if_icmp .lt 6, 3) := by decide +kernel
theorem dX5_adm_19 : decode cX5_adm 19 = .ok (.bipush (-4), 2) := by decide +kernel
theorem dX5_adm_21 : decode cX5_adm 21 = .ok (.ireturn, 1) := by decide +kernel
theorem dX5_adm_22 : decode cX5_adm 22 = .ok (.aload_n 0, 1) := by decide +kernel
theorem dX5_adm_23 : decode cX5_adm 23 = .ok (.invokevirtual 72, 3) := by decide +kernel
theorem dX5_adm_26 : decode cX5_adm 26 = .ok (.ifCond .eq 6, 3) := by decide +kernel
theorem dX5_adm_29 : decode cX5_adm 29 = .ok (.bipush (-5), 2) := by decide +kernel
theorem dX5_adm_31 : decode cX5_adm 31 = .ok (.ireturn, 1) := by decide +kernel
theorem dX5_adm_32 : decode cX5_adm 32 = .ok (.aload_n 0, 1) := by decide +kernel
theorem dX5_adm_33 : decode cX5_adm 33 = .ok (.aload_n 0, 1) := by decide +kernel
theorem dX5_adm_34 : decode cX5_adm 34 = .ok (.getfield 11, 3) := by decide +kernel
theorem dX5_adm_37 : decode cX5_adm 37 = .ok (.aload_n 0, 1) := by decide +kernel
theorem dX5_adm_38 : decode cX5_adm 38 = .ok (.getfield 34, 3) := by decide +kernel
theorem dX5_adm_41 : decode cX5_adm 41 = .ok (.aaload, 1) := by decide +kernel
theorem dX5_adm_42 : decode cX5_adm 42 = .ok (.iload_n 1, 1) := by decide +kernel
theorem dX5_adm_43 : decode cX5_adm 43 = .ok (.invokevirtual 76, 3) := by decide +kernel
theorem dX5_adm_46 : decode cX5_adm 46 = .ok (.aload_n 0, 1) := by decide +kernel
theorem dX5_adm_47 : decode cX5_adm 47 = .ok (.dup, 1) := by decide +kernel
theorem dX5_adm_48 : decode cX5_adm 48 = .ok (.getfield 34, 3) := by decide +kernel
theorem dX5_adm_51 : decode cX5_adm 51 = .ok (.iconst 1, 1) := by decide +kernel
theorem dX5_adm_52 : decode cX5_adm 52 = .ok (.iadd, 1) := by decide +kernel
theorem dX5_adm_53 : decode cX5_adm 53 = .ok (.putfield 34, 3) := by decide +kernel
theorem dX5_adm_56 : decode cX5_adm 56 = .ok (.aload_n 0, 1) := by decide +kernel
theorem dX5_adm_57 : decode cX5_adm 57 = .ok (.getfield 34, 3) := by decide +kernel
theorem dX5_adm_60 : decode cX5_adm 60 = .ok (.iconst 1, 1) := by decide +kernel
theorem dX5_adm_61 : decode cX5_adm 61 = .ok (.isub, 1) := by decide +kernel
theorem dX5_adm_62 : decode cX5_adm 62 = .ok (.ireturn, 1) := by decide +kernel
theorem dX5_answerOfMerger_0 : decode cX5_answerOfMerger 0 = .ok (.aload_n 0, 1) := by decide +kernel
theorem dX5_answerOfMerger_1 : decode cX5_answerOfMerger 1 = .ok (.iload_n 1, 1) := by decide +kernel
theorem dX5_answerOfMerger_2 : decode cX5_answerOfMerger 2 = .ok (.invokevirtual 56, 3) := by decide +kernel
theorem dX5_answerOfMerger_5 : decode cX5_answerOfMerger 5 = .ok (.ifCond .ne 5, 3) := by decide +kernel
theorem dX5_answerOfMerger_8 : decode cX5_answerOfMerger 8 = .ok (.iconst (-1), 1) := by decide +kernel
theorem dX5_answerOfMerger_9 : decode cX5_answerOfMerger 9 = .ok (.ireturn, 1) := by decide +kernel
theorem dX5_answerOfMerger_10 : decode cX5_answerOfMerger 10 = .ok (.aload_n 0, 1) := by decide +kernel
theorem dX5_answerOfMerger_11 : decode cX5_answerOfMerger 11 = .ok (.invokevirtual 72, 3) := by decide +kernel
theorem dX5_answerOfMerger_14 : decode cX5_answerOfMerger 14 = .ok (.ifCond .eq 6, 3) := by decide +kernel
theorem dX5_answerOfMerger_17 : decode cX5_answerOfMerger 17 = .ok (.bipush (-5), 2) := by decide +kernel
theorem dX5_answerOfMerger_19 : decode cX5_answerOfMerger 19 = .ok (.ireturn, 1) := by decide +kernel
theorem dX5_answerOfMerger_20 : decode cX5_answerOfMerger 20 = .ok (.aload_n 0, 1) := by decide +kernel
theorem dX5_answerOfMerger_21 : decode cX5_answerOfMerger 21 = .ok (.getfield 11, 3) := by decide +kernel
theorem dX5_answerOfMerger_24 : decode cX5_answerOfMerger 24 = .ok (.iload_n 1, 1) := by decide +kernel
theorem dX5_answerOfMerger_25 : decode cX5_answerOfMerger 25 = .ok (.aaload, 1) := by decide +kernel
theorem dX5_answerOfMerger_26 : decode cX5_answerOfMerger 26 = .ok (.invokevirtual 144, 3) := by decide +kernel
theorem dX5_answerOfMerger_29 : decode cX5_answerOfMerger 29 = .ok (.ireturn, 1) := by decide +kernel
theorem dX5_burnOldVersions_0 : decode cX5_burnOldVersions 0 = .ok (.aload_n 0, 1) := by decide +kernel
theorem dX5_burnOldVersions_1 : decode cX5_burnOldVersions 1 = .ok (.iload_n 1, 1) := by decide +kernel
theorem dX5_burnOldVersions_2 : decode cX5_burnOldVersions 2 = .ok (.invokevirtual 56, 3) := by decide +kernel
theorem dX5_burnOldVersions_5 : decode cX5_burnOldVersions 5 = .ok (.ifCond .ne 5, 3) := by decide +kernel
theorem dX5_burnOldVersions_8 : decode cX5_burnOldVersions 8 = .ok (.iconst (-1), 1) := by decide +kernel
theorem dX5_burnOldVersions_9 : decode cX5_burnOldVersions 9 = .ok (.ireturn, 1) := by decide +kernel
theorem dX5_burnOldVersions_10 : decode cX5_burnOldVersions 10 = .ok (.aload_n 0, 1) := by decide +kernel
theorem dX5_burnOldVersions_11 : decode cX5_burnOldVersions 11 = .ok (.invokevirtual 72, 3) := by decide +kernel
theorem dX5_burnOldVersions_14 : decode cX5_burnOldVersions 14 = .ok (.ifCond .eq 6, 3) := by decide +kernel
theorem dX5_burnOldVersions_17 : decode cX5_burnOldVersions 17 = .ok (.bipush (-5), 2) := by decide +kernel
theorem dX5_burnOldVersions_19 : decode cX5_burnOldVersions 19 = .ok (.ireturn, 1) := by decide +kernel
theorem dX5_burnOldVersions_20 : decode cX5_burnOldVersions 20 = .ok (.aload_n 0, 1) := by decide +kernel
theorem dX5_burnOldVersions_21 : decode cX5_burnOldVersions 21 = .ok (.getfield 11, 3) := by decide +kernel
theorem dX5_burnOldVersions_24 : decode cX5_burnOldVersions 24 = .ok (.iload_n 1, 1) := by decide +kernel
theorem dX5_burnOldVersions_25 : decode cX5_burnOldVersions 25 = .ok (.aaload, 1) := by decide +kernel
theorem dX5_burnOldVersions_26 : decode cX5_burnOldVersions 26 = .ok (.getfield 124, 3) := by decide +kernel
theorem dX5_burnOldVersions_29 : decode cX5_burnOldVersions 29 = .ok (.istore_n 2, 1) := by decide +kernel
theorem dX5_burnOldVersions_30 : decode cX5_burnOldVersions 30 = .ok (.aload_n 0, 1) := by decide +kernel
theorem dX5_burnOldVersions_31 : decode cX5_burnOldVersions 31 = .ok (.getfield 11, 3) := by decide +kernel
theorem dX5_burnOldVersions_34 : decode cX5_burnOldVersions 34 = .ok (.iload_n 1, 1) := by decide +kernel
theorem dX5_burnOldVersions_35 : decode cX5_burnOldVersions 35 = .ok (.aaload, 1) := by decide +kernel
theorem dX5_burnOldVersions_36 : decode cX5_burnOldVersions 36 = .ok (.iconst 0, 1) := by decide +kernel
theorem dX5_burnOldVersions_37 : decode cX5_burnOldVersions 37 = .ok (.putfield 124, 3) := by decide +kernel
theorem dX5_burnOldVersions_40 : decode cX5_burnOldVersions 40 = .ok (.aload_n 0, 1) := by decide +kernel
theorem dX5_burnOldVersions_41 : decode cX5_burnOldVersions 41 = .ok (.dup, 1) := by decide +kernel
theorem dX5_burnOldVersions_42 : decode cX5_burnOldVersions 42 = .ok (.getfield 43, 3) := by decide +kernel
theorem dX5_burnOldVersions_45 : decode cX5_burnOldVersions 45 = .ok (.iload_n 2, 1) := by decide +kernel
theorem dX5_burnOldVersions_46 : decode cX5_burnOldVersions 46 = .ok (.iadd, 1) := by decide +kernel
theorem dX5_burnOldVersions_47 : decode cX5_burnOldVersions 47 = .ok (.putfield 43, 3) := by decide +kernel
theorem dX5_burnOldVersions_50 : decode cX5_burnOldVersions 50 = .ok (.iload_n 2, 1) := by decide +kernel
theorem dX5_burnOldVersions_51 : decode cX5_burnOldVersions 51 = .ok (.ireturn, 1) := by decide +kernel
theorem dX5_changeSetting_0 : decode cX5_changeSetting 0 = .ok (.iload_n 1, 1) := by decide +kernel
theorem dX5_changeSetting_1 : decode cX5_changeSetting 1 = .ok (.ifCond .lt 8, 3) := by decide +kernel
theorem dX5_changeSetting_4 : decode cX5_changeSetting 4 = .ok (.iload_n 1, 1) := by decide +kernel
theorem dX5_changeSetting_5 : decode cX5_changeSetting 5 = .ok (.iconst 3, 1) := by decide +kernel
theorem dX5_changeSetting_6 : decode cX5_changeSetting 6 = .ok (.if_icmp .lt 6, 3) := by decide +kernel
theorem dX5_changeSetting_9 : decode cX5_changeSetting 9 = .ok (.bipush (-2), 2) := by decide +kernel
theorem dX5_changeSetting_11 : decode cX5_changeSetting 11 = .ok (.ireturn, 1) := by decide +kernel
theorem dX5_changeSetting_12 : decode cX5_changeSetting 12 = .ok (.iload_n 2, 1) := by decide +kernel
theorem dX5_changeSetting_13 : decode cX5_changeSetting 13 = .ok (.getstatic 62, 3) := by decide +kernel
theorem dX5_changeSetting_16 : decode cX5_changeSetting 16 = .ok (.iload_n 1, 1) := by decide +kernel
theorem dX5_changeSetting_17 : decode cX5_changeSetting 17 = .ok (.iaload, 1) := by decide +kernel
theorem dX5_changeSetting_18 : decode cX5_changeSetting 18 = .ok (.if_icmp .lt 12, 3) := by decide +kernel
theorem dX5_changeSetting_21 : decode cX5_changeSetting 21 = .ok (.iload_n 2, 1) := by decide +kernel
theorem dX5_changeSetting_22 : decode cX5_changeSetting 22 = .ok (.getstatic 65, 3) := by decide +kernel
theorem dX5_changeSetting_25 : decode cX5_changeSetting 25 = .ok (.iload_n 1, 1) := by decide +kernel
theorem dX5_changeSetting_26 : decode cX5_changeSetting 26 = .ok (.iaload, 1) := by decide +kernel
theorem dX5_changeSetting_27 : decode cX5_changeSetting 27 = .ok (.if_icmp .le 6, 3) := by decide +kernel
theorem dX5_changeSetting_30 : decode cX5_changeSetting 30 = .ok (.bipush (-2), 2) := by decide +kernel
theorem dX5_changeSetting_32 : decode cX5_changeSetting 32 = .ok (.ireturn, 1) := by decide +kernel
theorem dX5_changeSetting_33 : decode cX5_changeSetting 33 = .ok (.aload_n 0, 1) := by decide +kernel
theorem dX5_changeSetting_34 : decode cX5_changeSetting 34 = .ok (.getfield 17, 3) := by decide +kernel
theorem dX5_changeSetting_37 : decode cX5_changeSetting 37 = .ok (.iload_n 1, 1) := by decide +kernel
theorem dX5_changeSetting_38 : decode cX5_changeSetting 38 = .ok (.iaload, 1) := by decide +kernel
theorem dX5_changeSetting_39 : decode cX5_changeSetting 39 = .ok (.istore_n 3, 1) := by decide +kernel
theorem dX5_changeSetting_40 : decode cX5_changeSetting 40 = .ok (.aload_n 0, 1) := by decide +kernel
theorem dX5_changeSetting_41 : decode cX5_changeSetting 41 = .ok (.getfield 17, 3) := by decide +kernel
theorem dX5_changeSetting_44 : decode cX5_changeSetting 44 = .ok (.iload_n 1, 1) := by decide +kernel
theorem dX5_changeSetting_45 : decode cX5_changeSetting 45 = .ok (.iload_n 2, 1) := by decide +kernel
theorem dX5_changeSetting_46 : decode cX5_changeSetting 46 = .ok (.iastore, 1) := by decide +kernel
theorem dX5_changeSetting_47 : decode cX5_changeSetting 47 = .ok (.iload_n 3, 1) := by decide +kernel
theorem dX5_changeSetting_48 : decode cX5_changeSetting 48 = .ok (.ireturn, 1) := by decide +kernel
theorem dX5_changeX_0 : decode cX5_changeX 0 = .ok (.iload_n 1, 1) := by decide +kernel
theorem dX5_changeX_1 : decode cX5_changeX 1 = .ok (.ifCond .lt 10, 3) := by decide +kernel
theorem dX5_changeX_4 : decode cX5_changeX 4 = .ok (.iload_n 1, 1) := by decide +kernel
theorem dX5_changeX_5 : decode cX5_changeX 5 = .ok (.sipush 9999, 3) := by decide +kernel
theorem dX5_changeX_8 : decode cX5_changeX 8 = .ok (.if_icmp .le 6, 3) := by decide +kernel
theorem dX5_changeX_11 : decode cX5_changeX 11 = .ok (.bipush (-2), 2) := by decide +kernel
theorem dX5_changeX_13 : decode cX5_changeX 13 = .ok (.ireturn, 1) := by decide +kernel
theorem dX5_changeX_14 : decode cX5_changeX 14 = .ok (.aload_n 0, 1) := by decide +kernel
theorem dX5_changeX_15 : decode cX5_changeX 15 = .ok (.getfield 25, 3) := by decide +kernel
theorem dX5_changeX_18 : decode cX5_changeX 18 = .ok (.istore_n 2, 1) := by decide +kernel
theorem dX5_changeX_19 : decode cX5_changeX 19 = .ok (.aload_n 0, 1) := by decide +kernel
theorem dX5_changeX_20 : decode cX5_changeX 20 = .ok (.iload_n 1, 1) := by decide +kernel
theorem dX5_changeX_21 : decode cX5_changeX 21 = .ok (.putfield 25, 3) := by decide +kernel
theorem dX5_changeX_24 : decode cX5_changeX 24 = .ok (.iload_n 2, 1) := by decide +kernel
theorem dX5_changeX_25 : decode cX5_changeX 25 = .ok (.ireturn, 1) := by decide +kernel
theorem dX5_copyState_0 : decode cX5_copyState 0 = .ok (.iconst 0, 1) := by decide +kernel
theorem dX5_copyState_1 : decode cX5_copyState 1 = .ok (.istore_n 2, 1) := by decide +kernel
theorem dX5_copyState_2 : decode cX5_copyState 2 = .ok (.iload_n 2, 1) := by decide +kernel
theorem dX5_copyState_3 : decode cX5_copyState 3 = .ok (.bipush 8, 2) := by decide +kernel
theorem dX5_copyState_5 : decode cX5_copyState 5 = .ok (.if_icmp .ge 24, 3) := by decide +kernel
theorem dX5_copyState_8 : decode cX5_copyState 8 = .ok (.aload_n 0, 1) := by decide +kernel
theorem dX5_copyState_9 : decode cX5_copyState 9 = .ok (.getfield 11, 3) := by decide +kernel
theorem dX5_copyState_12 : decode cX5_copyState 12 = .ok (.iload_n 2, 1) := by decide +kernel
theorem dX5_copyState_13 : decode cX5_copyState 13 = .ok (.aaload, 1) := by decide +kernel
theorem dX5_copyState_14 : decode cX5_copyState 14 = .ok (.aload_n 1, 1) := by decide +kernel
theorem dX5_copyState_15 : decode cX5_copyState 15 = .ok (.getfield 11, 3) := by decide +kernel
theorem dX5_copyState_18 : decode cX5_copyState 18 = .ok (.iload_n 2, 1) := by decide +kernel
theorem dX5_copyState_19 : decode cX5_copyState 19 = .ok (.aaload, 1) := by decide +kernel
theorem dX5_copyState_20 : decode cX5_copyState 20 = .ok (.invokevirtual 30, 3) := by decide +kernel
theorem dX5_copyState_23 : decode cX5_copyState 23 = .ok (.iinc 2 1, 3) := by decide +kernel
theorem dX5_copyState_26 : decode cX5_copyState 26 = .ok (.goto (-24), 3) := by decide +kernel
theorem dX5_copyState_29 : decode cX5_copyState 29 = .ok (.iconst 0, 1) := by decide +kernel
theorem dX5_copyState_30 : decode cX5_copyState 30 = .ok (.istore_n 2, 1) := by decide +kernel
theorem dX5_copyState_31 : decode cX5_copyState 31 = .ok (.iload_n 2, 1) := by decide +kernel
theorem dX5_copyState_32 : decode cX5_copyState 32 = .ok (.iconst 3, 1) := by decide +kernel
theorem dX5_copyState_33 : decode cX5_copyState 33 = .ok (.if_icmp .ge 21, 3) := by decide +kernel
theorem dX5_copyState_36 : decode cX5_copyState 36 = .ok (.aload_n 0, 1) := by decide +kernel
theorem dX5_copyState_37 : decode cX5_copyState 37 = .ok (.getfield 17, 3) := by decide +kernel
theorem dX5_copyState_40 : decode cX5_copyState 40 = .ok (.iload_n 2, 1) := by decide +kernel
theorem dX5_copyState_41 : decode cX5_copyState 41 = .ok (.aload_n 1, 1) := by decide +kernel
theorem dX5_copyState_42 : decode cX5_copyState 42 = .ok (.getfield 17, 3) := by decide +kernel
theorem dX5_copyState_45 : decode cX5_copyState 45 = .ok (.iload_n 2, 1) := by decide +kernel
theorem dX5_copyState_46 : decode cX5_copyState 46 = .ok (.iaload, 1) := by decide +kernel
theorem dX5_copyState_47 : decode cX5_copyState 47 = .ok (.iastore, 1) := by decide +kernel
theorem dX5_copyState_48 : decode cX5_copyState 48 = .ok (.iinc 2 1, 3) := by decide +kernel
theorem dX5_copyState_51 : decode cX5_copyState 51 = .ok (.goto (-20), 3) := by decide +kernel
theorem dX5_copyState_54 : decode cX5_copyState 54 = .ok (.iconst 0, 1) := by decide +kernel
theorem dX5_copyState_55 : decode cX5_copyState 55 = .ok (.istore_n 2, 1) := by decide +kernel
theorem dX5_copyState_56 : decode cX5_copyState 56 = .ok (.iload_n 2, 1) := by decide +kernel
theorem dX5_copyState_57 : decode cX5_copyState 57 = .ok (.iconst 2, 1) := by decide +kernel
theorem dX5_copyState_58 : decode cX5_copyState 58 = .ok (.if_icmp .ge 21, 3) := by decide +kernel
theorem dX5_copyState_61 : decode cX5_copyState 61 = .ok (.aload_n 0, 1) := by decide +kernel
theorem dX5_copyState_62 : decode cX5_copyState 62 = .ok (.getfield 21, 3) := by decide +kernel
theorem dX5_copyState_65 : decode cX5_copyState 65 = .ok (.iload_n 2, 1) := by decide +kernel
theorem dX5_copyState_66 : decode cX5_copyState 66 = .ok (.aload_n 1, 1) := by decide +kernel
theorem dX5_copyState_67 : decode cX5_copyState 67 = .ok (.getfield 21, 3) := by decide +kernel
theorem dX5_copyState_70 : decode cX5_copyState 70 = .ok (.iload_n 2, 1) := by decide +kernel
theorem dX5_copyState_71 : decode cX5_copyState 71 = .ok (.baload, 1) := by decide +kernel
theorem dX5_copyState_72 : decode cX5_copyState 72 = .ok (.bastore, 1) := by decide +kernel
theorem dX5_copyState_73 : decode cX5_copyState 73 = .ok (.iinc 2 1, 3) := by decide +kernel
theorem dX5_copyState_76 : decode cX5_copyState 76 = .ok (.goto (-20), 3) := by decide +kernel
theorem dX5_copyState_79 : decode cX5_copyState 79 = .ok (.aload_n 0, 1) := by decide +kernel
theorem dX5_copyState_80 : decode cX5_copyState 80 = .ok (.aload_n 1, 1) := by decide +kernel
theorem dX5_copyState_81 : decode cX5_copyState 81 = .ok (.getfield 34, 3) := by decide +kernel
theorem dX5_copyState_84 : decode cX5_copyState 84 = .ok (.putfield 34, 3) := by decide +kernel
theorem dX5_copyState_87 : decode cX5_copyState 87 = .ok (.aload_n 0, 1) := by decide +kernel
theorem dX5_copyState_88 : decode cX5_copyState 88 = .ok (.aload_n 1, 1) := by decide +kernel
theorem dX5_copyState_89 : decode cX5_copyState 89 = .ok (.getfield 25, 3) := by decide +kernel
theorem dX5_copyState_92 : decode cX5_copyState 92 = .ok (.putfield 25, 3) := by decide +kernel
theorem dX5_copyState_95 : decode cX5_copyState 95 = .ok (.aload_n 0, 1) := by decide +kernel
theorem dX5_copyState_96 : decode cX5_copyState 96 = .ok (.aload_n 1, 1) := by decide +kernel
theorem dX5_copyState_97 : decode cX5_copyState 97 = .ok (.getfield 37, 3) := by decide +kernel
theorem dX5_copyState_100 : decode cX5_copyState 100 = .ok (.putfield 37, 3) := by decide +kernel
theorem dX5_copyState_103 : decode cX5_copyState 103 = .ok (.aload_n 0, 1) := by decide +kernel
theorem dX5_copyState_104 : decode cX5_copyState 104 = .ok (.aload_n 1, 1) := by decide +kernel
theorem dX5_copyState_105 : decode cX5_copyState 105 = .ok (.getfield 40, 3) := by decide +kernel
theorem dX5_copyState_108 : decode cX5_copyState 108 = .ok (.putfield 40, 3) := by decide +kernel
theorem dX5_copyState_111 : decode cX5_copyState 111 = .ok (.aload_n 0, 1) := by decide +kernel
theorem dX5_copyState_112 : decode cX5_copyState 112 = .ok (.aload_n 1, 1) := by decide +kernel
theorem dX5_copyState_113 : decode cX5_copyState 113 = .ok (.getfield 43, 3) := by decide +kernel
theorem dX5_copyState_116 : decode cX5_copyState 116 = .ok (.putfield 43, 3) := by decide +kernel
theorem dX5_copyState_119 : decode cX5_copyState 119 = .ok (.aload_n 0, 1) := by decide +kernel
theorem dX5_copyState_120 : decode cX5_copyState 120 = .ok (.aload_n 1, 1) := by decide +kernel
theorem dX5_copyState_121 : decode cX5_copyState 121 = .ok (.getfield 46, 3) := by decide +kernel
theorem dX5_copyState_124 : decode cX5_copyState 124 = .ok (.putfield 46, 3) := by decide +kernel
theorem dX5_copyState_127 : decode cX5_copyState 127 = .ok (.aload_n 0, 1) := by decide +kernel
theorem dX5_copyState_128 : decode cX5_copyState 128 = .ok (.aload_n 1, 1) := by decide +kernel
theorem dX5_copyState_129 : decode cX5_copyState 129 = .ok (.getfield 49, 3) := by decide +kernel
theorem dX5_copyState_132 : decode cX5_copyState 132 = .ok (.putfield 49, 3) := by decide +kernel
theorem dX5_copyState_135 : decode cX5_copyState 135 = .ok (.return_, 1) := by decide +kernel
theorem dX5_drawn_0 : decode cX5_drawn 0 = .ok (.aload_n 0, 1) := by decide +kernel
theorem dX5_drawn_1 : decode cX5_drawn 1 = .ok (.bipush 75, 2) := by decide +kernel
theorem dX5_drawn_3 : decode cX5_drawn 3 = .ok (.aload_n 0, 1) := by decide +kernel
theorem dX5_drawn_4 : decode cX5_drawn 4 = .ok (.getfield 25, 3) := by decide +kernel
theorem dX5_drawn_7 : decode cX5_drawn 7 = .ok (.imul, 1) := by decide +kernel
theorem dX5_drawn_8 : decode cX5_drawn 8 = .ok (.bipush 74, 2) := by decide +kernel
theorem dX5_drawn_10 : decode cX5_drawn 10 = .ok (.iadd, 1) := by decide +kernel
theorem dX5_drawn_11 : decode cX5_drawn 11 = .ok (.ldc 68, 2) := by decide +kernel
theorem dX5_drawn_13 : decode cX5_drawn 13 = .ok (.irem, 1) := by decide +kernel
theorem dX5_drawn_14 : decode cX5_drawn 14 = .ok (.putfield 25, 3) := by decide +kernel
theorem dX5_drawn_17 : decode cX5_drawn 17 = .ok (.aload_n 0, 1) := by decide +kernel
theorem dX5_drawn_18 : decode cX5_drawn 18 = .ok (.getfield 25, 3) := by decide +kernel
theorem dX5_drawn_21 : decode cX5_drawn 21 = .ok (.bipush 16, 2) := by decide +kernel
theorem dX5_drawn_23 : decode cX5_drawn 23 = .ok (.idiv, 1) := by decide +kernel
theorem dX5_drawn_24 : decode cX5_drawn 24 = .ok (.ireturn, 1) := by decide +kernel
theorem dX5_figure_0 : decode cX5_figure 0 = .ok (.iload_n 1, 1) := by decide +kernel
theorem dX5_figure_1 : decode cX5_figure 1 = .ok (.tableswitch 167 0 13 #[71, 76, 81, 86, 91, 106, 121, 126, 131, 136, 141, 146, 153, 160], 71) := by decide +kernel
theorem dX5_figure_72 : decode cX5_figure 72 = .ok (.aload_n 0, 1) := by decide +kernel
theorem dX5_figure_73 : decode cX5_figure 73 = .ok (.getfield 37, 3) := by decide +kernel
theorem dX5_figure_76 : decode cX5_figure 76 = .ok (.ireturn, 1) := by decide +kernel
theorem dX5_figure_77 : decode cX5_figure 77 = .ok (.aload_n 0, 1) := by decide +kernel
theorem dX5_figure_78 : decode cX5_figure 78 = .ok (.getfield 34, 3) := by decide +kernel
theorem dX5_figure_81 : decode cX5_figure 81 = .ok (.ireturn, 1) := by decide +kernel
theorem dX5_figure_82 : decode cX5_figure 82 = .ok (.aload_n 0, 1) := by decide +kernel
theorem dX5_figure_83 : decode cX5_figure 83 = .ok (.invokevirtual 192, 3) := by decide +kernel
theorem dX5_figure_86 : decode cX5_figure 86 = .ok (.ireturn, 1) := by decide +kernel
theorem dX5_figure_87 : decode cX5_figure 87 = .ok (.aload_n 0, 1) := by decide +kernel
theorem dX5_figure_88 : decode cX5_figure 88 = .ok (.invokevirtual 195, 3) := by decide +kernel
theorem dX5_figure_91 : decode cX5_figure 91 = .ok (.ireturn, 1) := by decide +kernel
theorem dX5_figure_92 : decode cX5_figure 92 = .ok (.aload_n 0, 1) := by decide +kernel
theorem dX5_figure_93 : decode cX5_figure 93 = .ok (.getfield 21, 3) := by decide +kernel
theorem dX5_figure_96 : decode cX5_figure 96 = .ok (.iconst 0, 1) := by decide +kernel
theorem dX5_figure_97 : decode cX5_figure 97 = .ok (.baload, 1) := by decide +kernel
theorem dX5_figure_98 : decode cX5_figure 98 = .ok (.ifCond .eq 7, 3) := by decide +kernel
theorem dX5_figure_101 : decode cX5_figure 101 = .ok (.iconst 1, 1) := by decide +kernel
theorem dX5_figure_102 : decode cX5_figure 102 = .ok (.goto 4, 3) := by decide +kernel
theorem dX5_figure_105 : decode cX5_figure 105 = .ok (.iconst 0, 1) := by decide +kernel
theorem dX5_figure_106 : decode cX5_figure 106 = .ok (.ireturn, 1) := by decide +kernel
theorem dX5_figure_107 : decode cX5_figure 107 = .ok (.aload_n 0, 1) := by decide +kernel
theorem dX5_figure_108 : decode cX5_figure 108 = .ok (.getfield 21, 3) := by decide +kernel
theorem dX5_figure_111 : decode cX5_figure 111 = .ok (.iconst 1, 1) := by decide +kernel
theorem dX5_figure_112 : decode cX5_figure 112 = .ok (.baload, 1) := by decide +kernel
theorem dX5_figure_113 : decode cX5_figure 113 = .ok (.ifCond .eq 7, 3) := by decide +kernel
theorem dX5_figure_116 : decode cX5_figure 116 = .ok (.iconst 1, 1) := by decide +kernel
theorem dX5_figure_117 : decode cX5_figure 117 = .ok (.goto 4, 3) := by decide +kernel
theorem dX5_figure_120 : decode cX5_figure 120 = .ok (.iconst 0, 1) := by decide +kernel
theorem dX5_figure_121 : decode cX5_figure 121 = .ok (.ireturn, 1) := by decide +kernel
theorem dX5_figure_122 : decode cX5_figure 122 = .ok (.aload_n 0, 1) := by decide +kernel
theorem dX5_figure_123 : decode cX5_figure 123 = .ok (.getfield 40, 3) := by decide +kernel
theorem dX5_figure_126 : decode cX5_figure 126 = .ok (.ireturn, 1) := by decide +kernel
theorem dX5_figure_127 : decode cX5_figure 127 = .ok (.aload_n 0, 1) := by decide +kernel
theorem dX5_figure_128 : decode cX5_figure 128 = .ok (.getfield 43, 3) := by decide +kernel
theorem dX5_figure_131 : decode cX5_figure 131 = .ok (.ireturn, 1) := by decide +kernel
theorem dX5_figure_132 : decode cX5_figure 132 = .ok (.aload_n 0, 1) := by decide +kernel
theorem dX5_figure_133 : decode cX5_figure 133 = .ok (.getfield 46, 3) := by decide +kernel
theorem dX5_figure_136 : decode cX5_figure 136 = .ok (.ireturn, 1) := by decide +kernel
theorem dX5_figure_137 : decode cX5_figure 137 = .ok (.aload_n 0, 1) := by decide +kernel
theorem dX5_figure_138 : decode cX5_figure 138 = .ok (.getfield 49, 3) := by decide +kernel
theorem dX5_figure_141 : decode cX5_figure 141 = .ok (.ireturn, 1) := by decide +kernel
theorem dX5_figure_142 : decode cX5_figure 142 = .ok (.aload_n 0, 1) := by decide +kernel
theorem dX5_figure_143 : decode cX5_figure 143 = .ok (.getfield 25, 3) := by decide +kernel
theorem dX5_figure_146 : decode cX5_figure 146 = .ok (.ireturn, 1) := by decide +kernel
theorem dX5_figure_147 : decode cX5_figure 147 = .ok (.aload_n 0, 1) := by decide +kernel
theorem dX5_figure_148 : decode cX5_figure 148 = .ok (.getfield 17, 3) := by decide +kernel
theorem dX5_figure_151 : decode cX5_figure 151 = .ok (.iconst 0, 1) := by decide +kernel
theorem dX5_figure_152 : decode cX5_figure 152 = .ok (.iaload, 1) := by decide +kernel
theorem dX5_figure_153 : decode cX5_figure 153 = .ok (.ireturn, 1) := by decide +kernel
theorem dX5_figure_154 : decode cX5_figure 154 = .ok (.aload_n 0, 1) := by decide +kernel
theorem dX5_figure_155 : decode cX5_figure 155 = .ok (.getfield 17, 3) := by decide +kernel
theorem dX5_figure_158 : decode cX5_figure 158 = .ok (.iconst 1, 1) := by decide +kernel
theorem dX5_figure_159 : decode cX5_figure 159 = .ok (.iaload, 1) := by decide +kernel
theorem dX5_figure_160 : decode cX5_figure 160 = .ok (.ireturn, 1) := by decide +kernel
theorem dX5_figure_161 : decode cX5_figure 161 = .ok (.aload_n 0, 1) := by decide +kernel
theorem dX5_figure_162 : decode cX5_figure 162 = .ok (.getfield 17, 3) := by decide +kernel
theorem dX5_figure_165 : decode cX5_figure 165 = .ok (.iconst 2, 1) := by decide +kernel
theorem dX5_figure_166 : decode cX5_figure 166 = .ok (.iaload, 1) := by decide +kernel
theorem dX5_figure_167 : decode cX5_figure 167 = .ok (.ireturn, 1) := by decide +kernel
theorem dX5_figure_168 : decode cX5_figure 168 = .ok (.bipush (-2), 2) := by decide +kernel
theorem dX5_figure_170 : decode cX5_figure 170 = .ok (.ireturn, 1) := by decide +kernel
theorem dX5_figureOfHalf_0 : decode cX5_figureOfHalf 0 = .ok (.aload_n 0, 1) := by decide +kernel
theorem dX5_figureOfHalf_1 : decode cX5_figureOfHalf 1 = .ok (.iload_n 1, 1) := by decide +kernel
theorem dX5_figureOfHalf_2 : decode cX5_figureOfHalf 2 = .ok (.iload_n 2, 1) := by decide +kernel
theorem dX5_figureOfHalf_3 : decode cX5_figureOfHalf 3 = .ok (.invokevirtual 127, 3) := by decide +kernel
theorem dX5_figureOfHalf_6 : decode cX5_figureOfHalf 6 = .ok (.ifCond .ne 5, 3) := by decide +kernel
theorem dX5_figureOfHalf_9 : decode cX5_figureOfHalf 9 = .ok (.iconst (-1), 1) := by decide +kernel
theorem dX5_figureOfHalf_10 : decode cX5_figureOfHalf 10 = .ok (.ireturn, 1) := by decide +kernel
theorem dX5_figureOfHalf_11 : decode cX5_figureOfHalf 11 = .ok (.aload_n 0, 1) := by decide +kernel
theorem dX5_figureOfHalf_12 : decode cX5_figureOfHalf 12 = .ok (.getfield 11, 3) := by decide +kernel
theorem dX5_figureOfHalf_15 : decode cX5_figureOfHalf 15 = .ok (.iload_n 2, 1) := by decide +kernel
theorem dX5_figureOfHalf_16 : decode cX5_figureOfHalf 16 = .ok (.aaload, 1) := by decide +kernel
theorem dX5_figureOfHalf_17 : decode cX5_figureOfHalf 17 = .ok (.iload_n 1, 1) := by decide +kernel
theorem dX5_figureOfHalf_18 : decode cX5_figureOfHalf 18 = .ok (.invokevirtual 134, 3) := by decide +kernel
theorem dX5_figureOfHalf_21 : decode cX5_figureOfHalf 21 = .ok (.astore 4, 2) := by decide +kernel
theorem dX5_figureOfHalf_23 : decode cX5_figureOfHalf 23 = .ok (.iload_n 3, 1) := by decide +kernel
theorem dX5_figureOfHalf_24 : decode cX5_figureOfHalf 24 = .ok (.tableswitch 98 0 7 #[48, 56, 62, 68, 74, 80, 86, 92], 48) := by decide +kernel
theorem dX5_figureOfHalf_72 : decode cX5_figureOfHalf 72 = .ok (.aload 4, 2) := by decide +kernel
theorem dX5_figureOfHalf_74 : decode cX5_figureOfHalf 74 = .ok (.getfield 87, 3) := by decide +kernel
theorem dX5_figureOfHalf_77 : decode cX5_figureOfHalf 77 = .ok (.iconst 0, 1) := by decide +kernel
theorem dX5_figureOfHalf_78 : decode cX5_figureOfHalf 78 = .ok (.iaload, 1) := by decide +kernel
theorem dX5_figureOfHalf_79 : decode cX5_figureOfHalf 79 = .ok (.ireturn, 1) := by decide +kernel
theorem dX5_figureOfHalf_80 : decode cX5_figureOfHalf 80 = .ok (.aload 4, 2) := by decide +kernel
theorem dX5_figureOfHalf_82 : decode cX5_figureOfHalf 82 = .ok (.getfield 112, 3) := by decide +kernel
theorem dX5_figureOfHalf_85 : decode cX5_figureOfHalf 85 = .ok (.ireturn, 1) := by decide +kernel
theorem dX5_figureOfHalf_86 : decode cX5_figureOfHalf 86 = .ok (.aload 4, 2) := by decide +kernel
theorem dX5_figureOfHalf_88 : decode cX5_figureOfHalf 88 = .ok (.getfield 102, 3) := by decide +kernel
theorem dX5_figureOfHalf_91 : decode cX5_figureOfHalf 91 = .ok (.ireturn, 1) := by decide +kernel
theorem dX5_figureOfHalf_92 : decode cX5_figureOfHalf 92 = .ok (.aload 4, 2) := by decide +kernel
theorem dX5_figureOfHalf_94 : decode cX5_figureOfHalf 94 = .ok (.getfield 105, 3) := by decide +kernel
theorem dX5_figureOfHalf_97 : decode cX5_figureOfHalf 97 = .ok (.ireturn, 1) := by decide +kernel
theorem dX5_figureOfHalf_98 : decode cX5_figureOfHalf 98 = .ok (.aload 4, 2) := by decide +kernel
theorem dX5_figureOfHalf_100 : decode cX5_figureOfHalf 100 = .ok (.getfield 138, 3) := by decide +kernel
theorem dX5_figureOfHalf_103 : decode cX5_figureOfHalf 103 = .ok (.ireturn, 1) := by decide +kernel
theorem dX5_figureOfHalf_104 : decode cX5_figureOfHalf 104 = .ok (.aload 4, 2) := by decide +kernel
theorem dX5_figureOfHalf_106 : decode cX5_figureOfHalf 106 = .ok (.getfield 141, 3) := by decide +kernel
theorem dX5_figureOfHalf_109 : decode cX5_figureOfHalf 109 = .ok (.ireturn, 1) := by decide +kernel
theorem dX5_figureOfHalf_110 : decode cX5_figureOfHalf 110 = .ok (.aload 4, 2) := by decide +kernel
theorem dX5_figureOfHalf_112 : decode cX5_figureOfHalf 112 = .ok (.invokevirtual 170, 3) := by decide +kernel
theorem dX5_figureOfHalf_115 : decode cX5_figureOfHalf 115 = .ok (.ireturn, 1) := by decide +kernel
theorem dX5_figureOfHalf_116 : decode cX5_figureOfHalf 116 = .ok (.aload 4, 2) := by decide +kernel
theorem dX5_figureOfHalf_118 : decode cX5_figureOfHalf 118 = .ok (.invokevirtual 173, 3) := by decide +kernel
theorem dX5_figureOfHalf_121 : decode cX5_figureOfHalf 121 = .ok (.ireturn, 1) := by decide +kernel
theorem dX5_figureOfHalf_122 : decode cX5_figureOfHalf 122 = .ok (.bipush (-2), 2) := by decide +kernel
theorem dX5_figureOfHalf_124 : decode cX5_figureOfHalf 124 = .ok (.ireturn, 1) := by decide +kernel
theorem dX5_figureOfOldVersion_0 : decode cX5_figureOfOldVersion 0 = .ok (.aload_n 0, 1) := by decide +kernel
theorem dX5_figureOfOldVersion_1 : decode cX5_figureOfOldVersion 1 = .ok (.iload_n 1, 1) := by decide +kernel
theorem dX5_figureOfOldVersion_2 : decode cX5_figureOfOldVersion 2 = .ok (.invokevirtual 56, 3) := by decide +kernel
theorem dX5_figureOfOldVersion_5 : decode cX5_figureOfOldVersion 5 = .ok (.ifCond .ne 5, 3) := by decide +kernel
theorem dX5_figureOfOldVersion_8 : decode cX5_figureOfOldVersion 8 = .ok (.iconst (-1), 1) := by decide +kernel
theorem dX5_figureOfOldVersion_9 : decode cX5_figureOfOldVersion 9 = .ok (.ireturn, 1) := by decide +kernel
theorem dX5_figureOfOldVersion_10 : decode cX5_figureOfOldVersion 10 = .ok (.aload_n 0, 1) := by decide +kernel
theorem dX5_figureOfOldVersion_11 : decode cX5_figureOfOldVersion 11 = .ok (.getfield 11, 3) := by decide +kernel
theorem dX5_figureOfOldVersion_14 : decode cX5_figureOfOldVersion 14 = .ok (.iload_n 1, 1) := by decide +kernel
theorem dX5_figureOfOldVersion_15 : decode cX5_figureOfOldVersion 15 = .ok (.aaload, 1) := by decide +kernel
theorem dX5_figureOfOldVersion_16 : decode cX5_figureOfOldVersion 16 = .ok (.astore 4, 2) := by decide +kernel
theorem dX5_figureOfOldVersion_18 : decode cX5_figureOfOldVersion 18 = .ok (.iload_n 2, 1) := by decide +kernel
theorem dX5_figureOfOldVersion_19 : decode cX5_figureOfOldVersion 19 = .ok (.ifCond .lt 12, 3) := by decide +kernel
theorem dX5_figureOfOldVersion_22 : decode cX5_figureOfOldVersion 22 = .ok (.iload_n 2, 1) := by decide +kernel
theorem dX5_figureOfOldVersion_23 : decode cX5_figureOfOldVersion 23 = .ok (.aload 4, 2) := by decide +kernel
theorem dX5_figureOfOldVersion_25 : decode cX5_figureOfOldVersion 25 = .ok (.getfield 124, 3) := by decide +kernel
theorem dX5_figureOfOldVersion_28 : decode cX5_figureOfOldVersion 28 = .ok (.if_icmp .lt 5, 3) := by decide +kernel
theorem dX5_figureOfOldVersion_31 : decode cX5_figureOfOldVersion 31 = .ok (.iconst (-1), 1) := by decide +kernel
theorem dX5_figureOfOldVersion_32 : decode cX5_figureOfOldVersion 32 = .ok (.ireturn, 1) := by decide +kernel
theorem dX5_figureOfOldVersion_33 : decode cX5_figureOfOldVersion 33 = .ok (.iload_n 2, 1) := by decide +kernel
theorem dX5_figureOfOldVersion_34 : decode cX5_figureOfOldVersion 34 = .ok (.iconst 1, 1) := by decide +kernel
theorem dX5_figureOfOldVersion_35 : decode cX5_figureOfOldVersion 35 = .ok (.iadd, 1) := by decide +kernel
theorem dX5_figureOfOldVersion_36 : decode cX5_figureOfOldVersion 36 = .ok (.istore 5, 2) := by decide +kernel
theorem dX5_figureOfOldVersion_38 : decode cX5_figureOfOldVersion 38 = .ok (.iload_n 3, 1) := by decide +kernel
theorem dX5_figureOfOldVersion_39 : decode cX5_figureOfOldVersion 39 = .ok (.tableswitch 70 0 3 #[29, 38, 50, 62], 29) := by decide +kernel
theorem dX5_figureOfOldVersion_68 : decode cX5_figureOfOldVersion 68 = .ok (.aload 4, 2) := by decide +kernel
theorem dX5_figureOfOldVersion_70 : decode cX5_figureOfOldVersion 70 = .ok (.getfield 59, 3) := by decide +kernel
theorem dX5_figureOfOldVersion_73 : decode cX5_figureOfOldVersion 73 = .ok (.iload 5, 2) := by decide +kernel
theorem dX5_figureOfOldVersion_75 : decode cX5_figureOfOldVersion 75 = .ok (.isub, 1) := by decide +kernel
theorem dX5_figureOfOldVersion_76 : decode cX5_figureOfOldVersion 76 = .ok (.ireturn, 1) := by decide +kernel
theorem dX5_figureOfOldVersion_77 : decode cX5_figureOfOldVersion 77 = .ok (.aload 4, 2) := by decide +kernel
theorem dX5_figureOfOldVersion_79 : decode cX5_figureOfOldVersion 79 = .ok (.getfield 80, 3) := by decide +kernel
theorem dX5_figureOfOldVersion_82 : decode cX5_figureOfOldVersion 82 = .ok (.getfield 87, 3) := by decide +kernel
theorem dX5_figureOfOldVersion_85 : decode cX5_figureOfOldVersion 85 = .ok (.iload 5, 2) := by decide +kernel
theorem dX5_figureOfOldVersion_87 : decode cX5_figureOfOldVersion 87 = .ok (.iaload, 1) := by decide +kernel
theorem dX5_figureOfOldVersion_88 : decode cX5_figureOfOldVersion 88 = .ok (.ireturn, 1) := by decide +kernel
theorem dX5_figureOfOldVersion_89 : decode cX5_figureOfOldVersion 89 = .ok (.aload 4, 2) := by decide +kernel
theorem dX5_figureOfOldVersion_91 : decode cX5_figureOfOldVersion 91 = .ok (.getfield 84, 3) := by decide +kernel
theorem dX5_figureOfOldVersion_94 : decode cX5_figureOfOldVersion 94 = .ok (.getfield 87, 3) := by decide +kernel
theorem dX5_figureOfOldVersion_97 : decode cX5_figureOfOldVersion 97 = .ok (.iload 5, 2) := by decide +kernel
theorem dX5_figureOfOldVersion_99 : decode cX5_figureOfOldVersion 99 = .ok (.iaload, 1) := by decide +kernel
theorem dX5_figureOfOldVersion_100 : decode cX5_figureOfOldVersion 100 = .ok (.ireturn, 1) := by decide +kernel
theorem dX5_figureOfOldVersion_101 : decode cX5_figureOfOldVersion 101 = .ok (.aload 4, 2) := by decide +kernel
theorem dX5_figureOfOldVersion_103 : decode cX5_figureOfOldVersion 103 = .ok (.iload 5, 2) := by decide +kernel
theorem dX5_figureOfOldVersion_105 : decode cX5_figureOfOldVersion 105 = .ok (.invokevirtual 189, 3) := by decide +kernel
theorem dX5_figureOfOldVersion_108 : decode cX5_figureOfOldVersion 108 = .ok (.ireturn, 1) := by decide +kernel
theorem dX5_figureOfOldVersion_109 : decode cX5_figureOfOldVersion 109 = .ok (.bipush (-2), 2) := by decide +kernel
theorem dX5_figureOfOldVersion_111 : decode cX5_figureOfOldVersion 111 = .ok (.ireturn, 1) := by decide +kernel
theorem dX5_figureOfSecret_0 : decode cX5_figureOfSecret 0 = .ok (.aload_n 0, 1) := by decide +kernel
theorem dX5_figureOfSecret_1 : decode cX5_figureOfSecret 1 = .ok (.iload_n 1, 1) := by decide +kernel
theorem dX5_figureOfSecret_2 : decode cX5_figureOfSecret 2 = .ok (.invokevirtual 56, 3) := by decide +kernel
theorem dX5_figureOfSecret_5 : decode cX5_figureOfSecret 5 = .ok (.ifCond .ne 5, 3) := by decide +kernel
theorem dX5_figureOfSecret_8 : decode cX5_figureOfSecret 8 = .ok (.iconst (-1), 1) := by decide +kernel
theorem dX5_figureOfSecret_9 : decode cX5_figureOfSecret 9 = .ok (.ireturn, 1) := by decide +kernel
theorem dX5_figureOfSecret_10 : decode cX5_figureOfSecret 10 = .ok (.aload_n 0, 1) := by decide +kernel
theorem dX5_figureOfSecret_11 : decode cX5_figureOfSecret 11 = .ok (.getfield 11, 3) := by decide +kernel
theorem dX5_figureOfSecret_14 : decode cX5_figureOfSecret 14 = .ok (.iload_n 1, 1) := by decide +kernel
theorem dX5_figureOfSecret_15 : decode cX5_figureOfSecret 15 = .ok (.aaload, 1) := by decide +kernel
theorem dX5_figureOfSecret_16 : decode cX5_figureOfSecret 16 = .ok (.astore_n 3, 1) := by decide +kernel
theorem dX5_figureOfSecret_17 : decode cX5_figureOfSecret 17 = .ok (.iload_n 2, 1) := by decide +kernel
theorem dX5_figureOfSecret_18 : decode cX5_figureOfSecret 18 = .ok (.tableswitch 106 0 7 #[46, 51, 56, 73, 78, 83, 96, 101], 46) := by decide +kernel
theorem dX5_figureOfSecret_64 : decode cX5_figureOfSecret 64 = .ok (.aload_n 3, 1) := by decide +kernel
theorem dX5_figureOfSecret_65 : decode cX5_figureOfSecret 65 = .ok (.getfield 59, 3) := by decide +kernel
theorem dX5_figureOfSecret_68 : decode cX5_figureOfSecret 68 = .ok (.ireturn, 1) := by decide +kernel
theorem dX5_figureOfSecret_69 : decode cX5_figureOfSecret 69 = .ok (.aload_n 3, 1) := by decide +kernel
theorem dX5_figureOfSecret_70 : decode cX5_figureOfSecret 70 = .ok (.getfield 124, 3) := by decide +kernel
theorem dX5_figureOfSecret_73 : decode cX5_figureOfSecret 73 = .ok (.ireturn, 1) := by decide +kernel
theorem dX5_figureOfSecret_74 : decode cX5_figureOfSecret 74 = .ok (.aload_n 3, 1) := by decide +kernel
theorem dX5_figureOfSecret_75 : decode cX5_figureOfSecret 75 = .ok (.getfield 164, 3) := by decide +kernel
theorem dX5_figureOfSecret_78 : decode cX5_figureOfSecret 78 = .ok (.ifCond .le 10, 3) := by decide +kernel
theorem dX5_figureOfSecret_81 : decode cX5_figureOfSecret 81 = .ok (.aload_n 3, 1) := by decide +kernel
theorem dX5_figureOfSecret_82 : decode cX5_figureOfSecret 82 = .ok (.getfield 176, 3) := by decide +kernel
theorem dX5_figureOfSecret_85 : decode cX5_figureOfSecret 85 = .ok (.goto 5, 3) := by decide +kernel
theorem dX5_figureOfSecret_88 : decode cX5_figureOfSecret 88 = .ok (.bipush (-6), 2) := by decide +kernel
theorem dX5_figureOfSecret_90 : decode cX5_figureOfSecret 90 = .ok (.ireturn, 1) := by decide +kernel
theorem dX5_figureOfSecret_91 : decode cX5_figureOfSecret 91 = .ok (.aload_n 3, 1) := by decide +kernel
theorem dX5_figureOfSecret_92 : decode cX5_figureOfSecret 92 = .ok (.getfield 164, 3) := by decide +kernel
theorem dX5_figureOfSecret_95 : decode cX5_figureOfSecret 95 = .ok (.ireturn, 1) := by decide +kernel
theorem dX5_figureOfSecret_96 : decode cX5_figureOfSecret 96 = .ok (.aload_n 3, 1) := by decide +kernel
theorem dX5_figureOfSecret_97 : decode cX5_figureOfSecret 97 = .ok (.getfield 150, 3) := by decide +kernel
theorem dX5_figureOfSecret_100 : decode cX5_figureOfSecret 100 = .ok (.ireturn, 1) := by decide +kernel
theorem dX5_figureOfSecret_101 : decode cX5_figureOfSecret 101 = .ok (.aload_n 3, 1) := by decide +kernel
theorem dX5_figureOfSecret_102 : decode cX5_figureOfSecret 102 = .ok (.getfield 179, 3) := by decide +kernel
theorem dX5_figureOfSecret_105 : decode cX5_figureOfSecret 105 = .ok (.ifCond .eq 7, 3) := by decide +kernel
theorem dX5_figureOfSecret_108 : decode cX5_figureOfSecret 108 = .ok (.iconst 1, 1) := by decide +kernel
theorem dX5_figureOfSecret_109 : decode cX5_figureOfSecret 109 = .ok (.goto 4, 3) := by decide +kernel
theorem dX5_figureOfSecret_112 : decode cX5_figureOfSecret 112 = .ok (.iconst 0, 1) := by decide +kernel
theorem dX5_figureOfSecret_113 : decode cX5_figureOfSecret 113 = .ok (.ireturn, 1) := by decide +kernel
theorem dX5_figureOfSecret_114 : decode cX5_figureOfSecret 114 = .ok (.aload_n 3, 1) := by decide +kernel
theorem dX5_figureOfSecret_115 : decode cX5_figureOfSecret 115 = .ok (.getfield 183, 3) := by decide +kernel
theorem dX5_figureOfSecret_118 : decode cX5_figureOfSecret 118 = .ok (.ireturn, 1) := by decide +kernel
theorem dX5_figureOfSecret_119 : decode cX5_figureOfSecret 119 = .ok (.aload_n 3, 1) := by decide +kernel
theorem dX5_figureOfSecret_120 : decode cX5_figureOfSecret 120 = .ok (.getfield 186, 3) := by decide +kernel
theorem dX5_figureOfSecret_123 : decode cX5_figureOfSecret 123 = .ok (.ireturn, 1) := by decide +kernel
theorem dX5_figureOfSecret_124 : decode cX5_figureOfSecret 124 = .ok (.bipush (-2), 2) := by decide +kernel
theorem dX5_figureOfSecret_126 : decode cX5_figureOfSecret 126 = .ok (.ireturn, 1) := by decide +kernel
theorem dX5_givePartToThief_0 : decode cX5_givePartToThief 0 = .ok (.aload_n 0, 1) := by decide +kernel
theorem dX5_givePartToThief_1 : decode cX5_givePartToThief 1 = .ok (.iload_n 1, 1) := by decide +kernel
theorem dX5_givePartToThief_2 : decode cX5_givePartToThief 2 = .ok (.iload_n 2, 1) := by decide +kernel
theorem dX5_givePartToThief_3 : decode cX5_givePartToThief 3 = .ok (.invokevirtual 127, 3) := by decide +kernel
theorem dX5_givePartToThief_6 : decode cX5_givePartToThief 6 = .ok (.ifCond .ne 5, 3) := by decide +kernel
theorem dX5_givePartToThief_9 : decode cX5_givePartToThief 9 = .ok (.iconst (-1), 1) := by decide +kernel
theorem dX5_givePartToThief_10 : decode cX5_givePartToThief 10 = .ok (.ireturn, 1) := by decide +kernel
theorem dX5_givePartToThief_11 : decode cX5_givePartToThief 11 = .ok (.aload_n 0, 1) := by decide +kernel
theorem dX5_givePartToThief_12 : decode cX5_givePartToThief 12 = .ok (.getfield 11, 3) := by decide +kernel
theorem dX5_givePartToThief_15 : decode cX5_givePartToThief 15 = .ok (.iload_n 2, 1) := by decide +kernel
theorem dX5_givePartToThief_16 : decode cX5_givePartToThief 16 = .ok (.aaload, 1) := by decide +kernel
theorem dX5_givePartToThief_17 : decode cX5_givePartToThief 17 = .ok (.astore 4, 2) := by decide +kernel
theorem dX5_givePartToThief_19 : decode cX5_givePartToThief 19 = .ok (.iload_n 3, 1) := by decide +kernel
theorem dX5_givePartToThief_20 : decode cX5_givePartToThief 20 = .ok (.aload 4, 2) := by decide +kernel
theorem dX5_givePartToThief_22 : decode cX5_givePartToThief 22 = .ok (.getfield 59, 3) := by decide +kernel
theorem dX5_givePartToThief_25 : decode cX5_givePartToThief 25 = .ok (.if_icmp .gt 18, 3) := by decide +kernel
theorem dX5_givePartToThief_28 : decode cX5_givePartToThief 28 = .ok (.iload_n 3, 1) := by decide +kernel
theorem dX5_givePartToThief_29 : decode cX5_givePartToThief 29 = .ok (.aload 4, 2) := by decide +kernel
theorem dX5_givePartToThief_31 : decode cX5_givePartToThief 31 = .ok (.getfield 59, 3) := by decide +kernel
theorem dX5_givePartToThief_34 : decode cX5_givePartToThief 34 = .ok (.aload 4, 2) := by decide +kernel
theorem dX5_givePartToThief_36 : decode cX5_givePartToThief 36 = .ok (.getfield 124, 3) := by decide +kernel
theorem dX5_givePartToThief_39 : decode cX5_givePartToThief 39 = .ok (.isub, 1) := by decide +kernel
theorem dX5_givePartToThief_40 : decode cX5_givePartToThief 40 = .ok (.if_icmp .ge 5, 3) := by decide +kernel
theorem dX5_givePartToThief_43 : decode cX5_givePartToThief 43 = .ok (.iconst (-1), 1) := by decide +kernel
theorem dX5_givePartToThief_44 : decode cX5_givePartToThief 44 = .ok (.ireturn, 1) := by decide +kernel
theorem dX5_givePartToThief_45 : decode cX5_givePartToThief 45 = .ok (.aload 4, 2) := by decide +kernel
theorem dX5_givePartToThief_47 : decode cX5_givePartToThief 47 = .ok (.iload_n 1, 1) := by decide +kernel
theorem dX5_givePartToThief_48 : decode cX5_givePartToThief 48 = .ok (.aload 4, 2) := by decide +kernel
theorem dX5_givePartToThief_50 : decode cX5_givePartToThief 50 = .ok (.getfield 59, 3) := by decide +kernel
theorem dX5_givePartToThief_53 : decode cX5_givePartToThief 53 = .ok (.iload_n 3, 1) := by decide +kernel
theorem dX5_givePartToThief_54 : decode cX5_givePartToThief 54 = .ok (.isub, 1) := by decide +kernel
theorem dX5_givePartToThief_55 : decode cX5_givePartToThief 55 = .ok (.invokevirtual 158, 3) := by decide +kernel
theorem dX5_givePartToThief_58 : decode cX5_givePartToThief 58 = .ok (.ireturn, 1) := by decide +kernel
theorem dX5_hasHalf_0 : decode cX5_hasHalf 0 = .ok (.iload_n 1, 1) := by decide +kernel
theorem dX5_hasHalf_1 : decode cX5_hasHalf 1 = .ok (.invokestatic 52, 3) := by decide +kernel
theorem dX5_hasHalf_4 : decode cX5_hasHalf 4 = .ok (.ifCond .eq 15, 3) := by decide +kernel
theorem dX5_hasHalf_7 : decode cX5_hasHalf 7 = .ok (.aload_n 0, 1) := by decide +kernel
theorem dX5_hasHalf_8 : decode cX5_hasHalf 8 = .ok (.iload_n 2, 1) := by decide +kernel
theorem dX5_hasHalf_9 : decode cX5_hasHalf 9 = .ok (.invokevirtual 56, 3) := by decide +kernel
theorem dX5_hasHalf_12 : decode cX5_hasHalf 12 = .ok (.ifCond .eq 7, 3) := by decide +kernel
theorem dX5_hasHalf_15 : decode cX5_hasHalf 15 = .ok (.iconst 1, 1) := by decide +kernel
theorem dX5_hasHalf_16 : decode cX5_hasHalf 16 = .ok (.goto 4, 3) := by decide +kernel
theorem dX5_hasHalf_19 : decode cX5_hasHalf 19 = .ok (.iconst 0, 1) := by decide +kernel
theorem dX5_hasHalf_20 : decode cX5_hasHalf 20 = .ok (.ireturn, 1) := by decide +kernel
theorem dX5_hasSecret_0 : decode cX5_hasSecret 0 = .ok (.iload_n 1, 1) := by decide +kernel
theorem dX5_hasSecret_1 : decode cX5_hasSecret 1 = .ok (.ifCond .lt 15, 3) := by decide +kernel
theorem dX5_hasSecret_4 : decode cX5_hasSecret 4 = .ok (.iload_n 1, 1) := by decide +kernel
theorem dX5_hasSecret_5 : decode cX5_hasSecret 5 = .ok (.aload_n 0, 1) := by decide +kernel
theorem dX5_hasSecret_6 : decode cX5_hasSecret 6 = .ok (.getfield 34, 3) := by decide +kernel
theorem dX5_hasSecret_9 : decode cX5_hasSecret 9 = .ok (.if_icmp .ge 7, 3) := by decide +kernel
theorem dX5_hasSecret_12 : decode cX5_hasSecret 12 = .ok (.iconst 1, 1) := by decide +kernel
theorem dX5_hasSecret_13 : decode cX5_hasSecret 13 = .ok (.goto 4, 3) := by decide +kernel
theorem dX5_hasSecret_16 : decode cX5_hasSecret 16 = .ok (.iconst 0, 1) := by decide +kernel
theorem dX5_hasSecret_17 : decode cX5_hasSecret 17 = .ok (.ireturn, 1) := by decide +kernel
theorem dX5_init_0 : decode cX5_init 0 = .ok (.aload_n 0, 1) := by decide +kernel
theorem dX5_init_1 : decode cX5_init 1 = .ok (.invokespecial 3, 3) := by decide +kernel
theorem dX5_init_4 : decode cX5_init 4 = .ok (.aload_n 0, 1) := by decide +kernel
theorem dX5_init_5 : decode cX5_init 5 = .ok (.bipush 8, 2) := by decide +kernel
theorem dX5_init_7 : decode cX5_init 7 = .ok (.anewarray 9, 3) := by decide +kernel
theorem dX5_init_10 : decode cX5_init 10 = .ok (.putfield 11, 3) := by decide +kernel
theorem dX5_init_13 : decode cX5_init 13 = .ok (.aload_n 0, 1) := by decide +kernel
theorem dX5_init_14 : decode cX5_init 14 = .ok (.iconst 3, 1) := by decide +kernel
theorem dX5_init_15 : decode cX5_init 15 = .ok (.newarray .int, 2) := by decide +kernel
theorem dX5_init_17 : decode cX5_init 17 = .ok (.dup, 1) := by decide +kernel
theorem dX5_init_18 : decode cX5_init 18 = .ok (.iconst 0, 1) := by decide +kernel
theorem dX5_init_19 : decode cX5_init 19 = .ok (.iconst 1, 1) := by decide +kernel
theorem dX5_init_20 : decode cX5_init 20 = .ok (.iastore, 1) := by decide +kernel
theorem dX5_init_21 : decode cX5_init 21 = .ok (.dup, 1) := by decide +kernel
theorem dX5_init_22 : decode cX5_init 22 = .ok (.iconst 1, 1) := by decide +kernel
theorem dX5_init_23 : decode cX5_init 23 = .ok (.iconst 0, 1) := by decide +kernel
theorem dX5_init_24 : decode cX5_init 24 = .ok (.iastore, 1) := by decide +kernel
theorem dX5_init_25 : decode cX5_init 25 = .ok (.dup, 1) := by decide +kernel
theorem dX5_init_26 : decode cX5_init 26 = .ok (.iconst 2, 1) := by decide +kernel
theorem dX5_init_27 : decode cX5_init 27 = .ok (.iconst 2, 1) := by decide +kernel
theorem dX5_init_28 : decode cX5_init 28 = .ok (.iastore, 1) := by decide +kernel
theorem dX5_init_29 : decode cX5_init 29 = .ok (.putfield 17, 3) := by decide +kernel
theorem dX5_init_32 : decode cX5_init 32 = .ok (.aload_n 0, 1) := by decide +kernel
theorem dX5_init_33 : decode cX5_init 33 = .ok (.iconst 2, 1) := by decide +kernel
theorem dX5_init_34 : decode cX5_init 34 = .ok (.newarray .boolean, 2) := by decide +kernel
theorem dX5_init_36 : decode cX5_init 36 = .ok (.putfield 21, 3) := by decide +kernel
theorem dX5_init_39 : decode cX5_init 39 = .ok (.aload_n 0, 1) := by decide +kernel
theorem dX5_init_40 : decode cX5_init 40 = .ok (.iconst 1, 1) := by decide +kernel
theorem dX5_init_41 : decode cX5_init 41 = .ok (.putfield 25, 3) := by decide +kernel
theorem dX5_init_44 : decode cX5_init 44 = .ok (.iconst 0, 1) := by decide +kernel
theorem dX5_init_45 : decode cX5_init 45 = .ok (.istore_n 1, 1) := by decide +kernel
theorem dX5_init_46 : decode cX5_init 46 = .ok (.iload_n 1, 1) := by decide +kernel
theorem dX5_init_47 : decode cX5_init 47 = .ok (.bipush 8, 2) := by decide +kernel
theorem dX5_init_49 : decode cX5_init 49 = .ok (.if_icmp .ge 22, 3) := by decide +kernel
theorem dX5_init_52 : decode cX5_init 52 = .ok (.aload_n 0, 1) := by decide +kernel
theorem dX5_init_53 : decode cX5_init 53 = .ok (.getfield 11, 3) := by decide +kernel
theorem dX5_init_56 : decode cX5_init 56 = .ok (.iload_n 1, 1) := by decide +kernel
theorem dX5_init_57 : decode cX5_init 57 = .ok (.new 9, 3) := by decide +kernel
theorem dX5_init_60 : decode cX5_init 60 = .ok (.dup, 1) := by decide +kernel
theorem dX5_init_61 : decode cX5_init 61 = .ok (.invokespecial 29, 3) := by decide +kernel
theorem dX5_init_64 : decode cX5_init 64 = .ok (.aastore, 1) := by decide +kernel
theorem dX5_init_65 : decode cX5_init 65 = .ok (.iinc 1 1, 3) := by decide +kernel
theorem dX5_init_68 : decode cX5_init 68 = .ok (.goto (-22), 3) := by decide +kernel
theorem dX5_init_71 : decode cX5_init 71 = .ok (.return_, 1) := by decide +kernel
theorem dX5_makeNextVersion_0 : decode cX5_makeNextVersion 0 = .ok (.aload_n 1, 1) := by decide +kernel
theorem dX5_makeNextVersion_1 : decode cX5_makeNextVersion 1 = .ok (.invokevirtual 115, 3) := by decide +kernel
theorem dX5_makeNextVersion_4 : decode cX5_makeNextVersion 4 = .ok (.istore_n 2, 1) := by decide +kernel
theorem dX5_makeNextVersion_5 : decode cX5_makeNextVersion 5 = .ok (.aload_n 0, 1) := by decide +kernel
theorem dX5_makeNextVersion_6 : decode cX5_makeNextVersion 6 = .ok (.dup, 1) := by decide +kernel
theorem dX5_makeNextVersion_7 : decode cX5_makeNextVersion 7 = .ok (.getfield 43, 3) := by decide +kernel
theorem dX5_makeNextVersion_10 : decode cX5_makeNextVersion 10 = .ok (.aload_n 1, 1) := by decide +kernel
theorem dX5_makeNextVersion_11 : decode cX5_makeNextVersion 11 = .ok (.aload_n 0, 1) := by decide +kernel
theorem dX5_makeNextVersion_12 : decode cX5_makeNextVersion 12 = .ok (.getfield 17, 3) := by decide +kernel
theorem dX5_makeNextVersion_15 : decode cX5_makeNextVersion 15 = .ok (.iconst 2, 1) := by decide +kernel
theorem dX5_makeNextVersion_16 : decode cX5_makeNextVersion 16 = .ok (.iaload, 1) := by decide +kernel
theorem dX5_makeNextVersion_17 : decode cX5_makeNextVersion 17 = .ok (.invokevirtual 118, 3) := by decide +kernel
theorem dX5_makeNextVersion_20 : decode cX5_makeNextVersion 20 = .ok (.iadd, 1) := by decide +kernel
theorem dX5_makeNextVersion_21 : decode cX5_makeNextVersion 21 = .ok (.putfield 43, 3) := by decide +kernel
theorem dX5_makeNextVersion_24 : decode cX5_makeNextVersion 24 = .ok (.aload_n 0, 1) := by decide +kernel
theorem dX5_makeNextVersion_25 : decode cX5_makeNextVersion 25 = .ok (.aload_n 1, 1) := by decide +kernel
theorem dX5_makeNextVersion_26 : decode cX5_makeNextVersion 26 = .ok (.iload_n 2, 1) := by decide +kernel
theorem dX5_makeNextVersion_27 : decode cX5_makeNextVersion 27 = .ok (.invokevirtual 76, 3) := by decide +kernel
theorem dX5_makeNextVersion_30 : decode cX5_makeNextVersion 30 = .ok (.return_, 1) := by decide +kernel
theorem dX5_makeVersion_0 : decode cX5_makeVersion 0 = .ok (.aload_n 1, 1) := by decide +kernel
theorem dX5_makeVersion_1 : decode cX5_makeVersion 1 = .ok (.getfield 80, 3) := by decide +kernel
theorem dX5_makeVersion_4 : decode cX5_makeVersion 4 = .ok (.astore_n 3, 1) := by decide +kernel
theorem dX5_makeVersion_5 : decode cX5_makeVersion 5 = .ok (.aload_n 1, 1) := by decide +kernel
theorem dX5_makeVersion_6 : decode cX5_makeVersion 6 = .ok (.getfield 84, 3) := by decide +kernel
theorem dX5_makeVersion_9 : decode cX5_makeVersion 9 = .ok (.astore 4, 2) := by decide +kernel
theorem dX5_makeVersion_11 : decode cX5_makeVersion 11 = .ok (.aload_n 3, 1) := by decide +kernel
theorem dX5_makeVersion_12 : decode cX5_makeVersion 12 = .ok (.getfield 87, 3) := by decide +kernel
theorem dX5_makeVersion_15 : decode cX5_makeVersion 15 = .ok (.iconst 0, 1) := by decide +kernel
theorem dX5_makeVersion_16 : decode cX5_makeVersion 16 = .ok (.aload_n 0, 1) := by decide +kernel
theorem dX5_makeVersion_17 : decode cX5_makeVersion 17 = .ok (.invokevirtual 92, 3) := by decide +kernel
theorem dX5_makeVersion_20 : decode cX5_makeVersion 20 = .ok (.sipush 256, 3) := by decide +kernel
theorem dX5_makeVersion_23 : decode cX5_makeVersion 23 = .ok (.irem, 1) := by decide +kernel
theorem dX5_makeVersion_24 : decode cX5_makeVersion 24 = .ok (.iastore, 1) := by decide +kernel
theorem dX5_makeVersion_25 : decode cX5_makeVersion 25 = .ok (.aload 4, 2) := by decide +kernel
theorem dX5_makeVersion_27 : decode cX5_makeVersion 27 = .ok (.getfield 87, 3) := by decide +kernel
theorem dX5_makeVersion_30 : decode cX5_makeVersion 30 = .ok (.iconst 0, 1) := by decide +kernel
theorem dX5_makeVersion_31 : decode cX5_makeVersion 31 = .ok (.iload_n 2, 1) := by decide +kernel
theorem dX5_makeVersion_32 : decode cX5_makeVersion 32 = .ok (.aload_n 3, 1) := by decide +kernel
theorem dX5_makeVersion_33 : decode cX5_makeVersion 33 = .ok (.getfield 87, 3) := by decide +kernel
theorem dX5_makeVersion_36 : decode cX5_makeVersion 36 = .ok (.iconst 0, 1) := by decide +kernel
theorem dX5_makeVersion_37 : decode cX5_makeVersion 37 = .ok (.iaload, 1) := by decide +kernel
theorem dX5_makeVersion_38 : decode cX5_makeVersion 38 = .ok (.isub, 1) := by decide +kernel
theorem dX5_makeVersion_39 : decode cX5_makeVersion 39 = .ok (.sipush 256, 3) := by decide +kernel
theorem dX5_makeVersion_42 : decode cX5_makeVersion 42 = .ok (.invokestatic 96, 3) := by decide +kernel
theorem dX5_makeVersion_45 : decode cX5_makeVersion 45 = .ok (.iastore, 1) := by decide +kernel
theorem dX5_makeVersion_46 : decode cX5_makeVersion 46 = .ok (.aload 4, 2) := by decide +kernel
theorem dX5_makeVersion_48 : decode cX5_makeVersion 48 = .ok (.aload_n 0, 1) := by decide +kernel
theorem dX5_makeVersion_49 : decode cX5_makeVersion 49 = .ok (.invokevirtual 92, 3) := by decide +kernel
theorem dX5_makeVersion_52 : decode cX5_makeVersion 52 = .ok (.sipush 256, 3) := by decide +kernel
theorem dX5_makeVersion_55 : decode cX5_makeVersion 55 = .ok (.irem, 1) := by decide +kernel
theorem dX5_makeVersion_56 : decode cX5_makeVersion 56 = .ok (.iconst 1, 1) := by decide +kernel
theorem dX5_makeVersion_57 : decode cX5_makeVersion 57 = .ok (.iadd, 1) := by decide +kernel
theorem dX5_makeVersion_58 : decode cX5_makeVersion 58 = .ok (.putfield 102, 3) := by decide +kernel
theorem dX5_makeVersion_61 : decode cX5_makeVersion 61 = .ok (.aload 4, 2) := by decide +kernel
theorem dX5_makeVersion_63 : decode cX5_makeVersion 63 = .ok (.aload_n 0, 1) := by decide +kernel
theorem dX5_makeVersion_64 : decode cX5_makeVersion 64 = .ok (.invokevirtual 92, 3) := by decide +kernel
theorem dX5_makeVersion_67 : decode cX5_makeVersion 67 = .ok (.sipush 257, 3) := by decide +kernel
theorem dX5_makeVersion_70 : decode cX5_makeVersion 70 = .ok (.irem, 1) := by decide +kernel
theorem dX5_makeVersion_71 : decode cX5_makeVersion 71 = .ok (.putfield 105, 3) := by decide +kernel
theorem dX5_makeVersion_74 : decode cX5_makeVersion 74 = .ok (.aload_n 3, 1) := by decide +kernel
theorem dX5_makeVersion_75 : decode cX5_makeVersion 75 = .ok (.aload_n 0, 1) := by decide +kernel
theorem dX5_makeVersion_76 : decode cX5_makeVersion 76 = .ok (.invokevirtual 92, 3) := by decide +kernel
theorem dX5_makeVersion_79 : decode cX5_makeVersion 79 = .ok (.sipush 256, 3) := by decide +kernel
theorem dX5_makeVersion_82 : decode cX5_makeVersion 82 = .ok (.irem, 1) := by decide +kernel
theorem dX5_makeVersion_83 : decode cX5_makeVersion 83 = .ok (.iconst 1, 1) := by decide +kernel
theorem dX5_makeVersion_84 : decode cX5_makeVersion 84 = .ok (.iadd, 1) := by decide +kernel
theorem dX5_makeVersion_85 : decode cX5_makeVersion 85 = .ok (.putfield 102, 3) := by decide +kernel
theorem dX5_makeVersion_88 : decode cX5_makeVersion 88 = .ok (.aload_n 3, 1) := by decide +kernel
theorem dX5_makeVersion_89 : decode cX5_makeVersion 89 = .ok (.aload_n 0, 1) := by decide +kernel
theorem dX5_makeVersion_90 : decode cX5_makeVersion 90 = .ok (.invokevirtual 92, 3) := by decide +kernel
theorem dX5_makeVersion_93 : decode cX5_makeVersion 93 = .ok (.sipush 257, 3) := by decide +kernel
theorem dX5_makeVersion_96 : decode cX5_makeVersion 96 = .ok (.irem, 1) := by decide +kernel
theorem dX5_makeVersion_97 : decode cX5_makeVersion 97 = .ok (.putfield 105, 3) := by decide +kernel
theorem dX5_makeVersion_100 : decode cX5_makeVersion 100 = .ok (.aload_n 3, 1) := by decide +kernel
theorem dX5_makeVersion_101 : decode cX5_makeVersion 101 = .ok (.aload 4, 2) := by decide +kernel
theorem dX5_makeVersion_103 : decode cX5_makeVersion 103 = .ok (.aload_n 3, 1) := by decide +kernel
theorem dX5_makeVersion_104 : decode cX5_makeVersion 104 = .ok (.getfield 87, 3) := by decide +kernel
theorem dX5_makeVersion_107 : decode cX5_makeVersion 107 = .ok (.iconst 0, 1) := by decide +kernel
theorem dX5_makeVersion_108 : decode cX5_makeVersion 108 = .ok (.iaload, 1) := by decide +kernel
theorem dX5_makeVersion_109 : decode cX5_makeVersion 109 = .ok (.invokevirtual 108, 3) := by decide +kernel
theorem dX5_makeVersion_112 : decode cX5_makeVersion 112 = .ok (.putfield 112, 3) := by decide +kernel
theorem dX5_makeVersion_115 : decode cX5_makeVersion 115 = .ok (.aload 4, 2) := by decide +kernel
theorem dX5_makeVersion_117 : decode cX5_makeVersion 117 = .ok (.aload_n 3, 1) := by decide +kernel
theorem dX5_makeVersion_118 : decode cX5_makeVersion 118 = .ok (.aload 4, 2) := by decide +kernel
theorem dX5_makeVersion_120 : decode cX5_makeVersion 120 = .ok (.getfield 87, 3) := by decide +kernel
theorem dX5_makeVersion_123 : decode cX5_makeVersion 123 = .ok (.iconst 0, 1) := by decide +kernel
theorem dX5_makeVersion_124 : decode cX5_makeVersion 124 = .ok (.iaload, 1) := by decide +kernel
theorem dX5_makeVersion_125 : decode cX5_makeVersion 125 = .ok (.invokevirtual 108, 3) := by decide +kernel
theorem dX5_makeVersion_128 : decode cX5_makeVersion 128 = .ok (.putfield 112, 3) := by decide +kernel
theorem dX5_makeVersion_131 : decode cX5_makeVersion 131 = .ok (.aload_n 1, 1) := by decide +kernel
theorem dX5_makeVersion_132 : decode cX5_makeVersion 132 = .ok (.dup, 1) := by decide +kernel
theorem dX5_makeVersion_133 : decode cX5_makeVersion 133 = .ok (.getfield 59, 3) := by decide +kernel
theorem dX5_makeVersion_136 : decode cX5_makeVersion 136 = .ok (.iconst 1, 1) := by decide +kernel
theorem dX5_makeVersion_137 : decode cX5_makeVersion 137 = .ok (.iadd, 1) := by decide +kernel
theorem dX5_makeVersion_138 : decode cX5_makeVersion 138 = .ok (.putfield 59, 3) := by decide +kernel
theorem dX5_makeVersion_141 : decode cX5_makeVersion 141 = .ok (.aload_n 0, 1) := by decide +kernel
theorem dX5_makeVersion_142 : decode cX5_makeVersion 142 = .ok (.dup, 1) := by decide +kernel
theorem dX5_makeVersion_143 : decode cX5_makeVersion 143 = .ok (.getfield 40, 3) := by decide +kernel
theorem dX5_makeVersion_146 : decode cX5_makeVersion 146 = .ok (.iconst 1, 1) := by decide +kernel
theorem dX5_makeVersion_147 : decode cX5_makeVersion 147 = .ok (.iadd, 1) := by decide +kernel
theorem dX5_makeVersion_148 : decode cX5_makeVersion 148 = .ok (.putfield 40, 3) := by decide +kernel
theorem dX5_makeVersion_151 : decode cX5_makeVersion 151 = .ok (.return_, 1) := by decide +kernel
theorem dX5_mergeParts_0 : decode cX5_mergeParts 0 = .ok (.aload_n 0, 1) := by decide +kernel
theorem dX5_mergeParts_1 : decode cX5_mergeParts 1 = .ok (.iload_n 1, 1) := by decide +kernel
theorem dX5_mergeParts_2 : decode cX5_mergeParts 2 = .ok (.invokevirtual 147, 3) := by decide +kernel
theorem dX5_mergeParts_5 : decode cX5_mergeParts 5 = .ok (.istore_n 2, 1) := by decide +kernel
theorem dX5_mergeParts_6 : decode cX5_mergeParts 6 = .ok (.iload_n 2, 1) := by decide +kernel
theorem dX5_mergeParts_7 : decode cX5_mergeParts 7 = .ok (.ifCond .ge 5, 3) := by decide +kernel
theorem dX5_mergeParts_10 : decode cX5_mergeParts 10 = .ok (.iload_n 2, 1) := by decide +kernel
theorem dX5_mergeParts_11 : decode cX5_mergeParts 11 = .ok (.ireturn, 1) := by decide +kernel
theorem dX5_mergeParts_12 : decode cX5_mergeParts 12 = .ok (.aload_n 0, 1) := by decide +kernel
theorem dX5_mergeParts_13 : decode cX5_mergeParts 13 = .ok (.getfield 11, 3) := by decide +kernel
theorem dX5_mergeParts_16 : decode cX5_mergeParts 16 = .ok (.iload_n 1, 1) := by decide +kernel
theorem dX5_mergeParts_17 : decode cX5_mergeParts 17 = .ok (.aaload, 1) := by decide +kernel
theorem dX5_mergeParts_18 : decode cX5_mergeParts 18 = .ok (.astore_n 3, 1) := by decide +kernel
theorem dX5_mergeParts_19 : decode cX5_mergeParts 19 = .ok (.iload_n 2, 1) := by decide +kernel
theorem dX5_mergeParts_20 : decode cX5_mergeParts 20 = .ok (.sipush 1000, 3) := by decide +kernel
theorem dX5_mergeParts_23 : decode cX5_mergeParts 23 = .ok (.if_icmp .lt 25, 3) := by decide +kernel
theorem dX5_mergeParts_26 : decode cX5_mergeParts 26 = .ok (.aload_n 3, 1) := by decide +kernel
theorem dX5_mergeParts_27 : decode cX5_mergeParts 27 = .ok (.dup, 1) := by decide +kernel
theorem dX5_mergeParts_28 : decode cX5_mergeParts 28 = .ok (.getfield 150, 3) := by decide +kernel
theorem dX5_mergeParts_31 : decode cX5_mergeParts 31 = .ok (.iconst 1, 1) := by decide +kernel
theorem dX5_mergeParts_32 : decode cX5_mergeParts 32 = .ok (.iadd, 1) := by decide +kernel
theorem dX5_mergeParts_33 : decode cX5_mergeParts 33 = .ok (.putfield 150, 3) := by decide +kernel
theorem dX5_mergeParts_36 : decode cX5_mergeParts 36 = .ok (.aload_n 0, 1) := by decide +kernel
theorem dX5_mergeParts_37 : decode cX5_mergeParts 37 = .ok (.dup, 1) := by decide +kernel
theorem dX5_mergeParts_38 : decode cX5_mergeParts 38 = .ok (.getfield 46, 3) := by decide +kernel
theorem dX5_mergeParts_41 : decode cX5_mergeParts 41 = .ok (.iconst 1, 1) := by decide +kernel
theorem dX5_mergeParts_42 : decode cX5_mergeParts 42 = .ok (.iadd, 1) := by decide +kernel
theorem dX5_mergeParts_43 : decode cX5_mergeParts 43 = .ok (.putfield 46, 3) := by decide +kernel
theorem dX5_mergeParts_46 : decode cX5_mergeParts 46 = .ok (.iload_n 2, 1) := by decide +kernel
theorem dX5_mergeParts_47 : decode cX5_mergeParts 47 = .ok (.ireturn, 1) := by decide +kernel
theorem dX5_mergeParts_48 : decode cX5_mergeParts 48 = .ok (.aload_n 3, 1) := by decide +kernel
theorem dX5_mergeParts_49 : decode cX5_mergeParts 49 = .ok (.iload_n 2, 1) := by decide +kernel
theorem dX5_mergeParts_50 : decode cX5_mergeParts 50 = .ok (.aload_n 0, 1) := by decide +kernel
theorem dX5_mergeParts_51 : decode cX5_mergeParts 51 = .ok (.getfield 17, 3) := by decide +kernel
theorem dX5_mergeParts_54 : decode cX5_mergeParts 54 = .ok (.iconst 0, 1) := by decide +kernel
theorem dX5_mergeParts_55 : decode cX5_mergeParts 55 = .ok (.iaload, 1) := by decide +kernel
theorem dX5_mergeParts_56 : decode cX5_mergeParts 56 = .ok (.invokevirtual 151, 3) := by decide +kernel
theorem dX5_mergeParts_59 : decode cX5_mergeParts 59 = .ok (.aload_n 3, 1) := by decide +kernel
theorem dX5_mergeParts_60 : decode cX5_mergeParts 60 = .ok (.getfield 80, 3) := by decide +kernel
theorem dX5_mergeParts_63 : decode cX5_mergeParts 63 = .ok (.invokevirtual 155, 3) := by decide +kernel
theorem dX5_mergeParts_66 : decode cX5_mergeParts 66 = .ok (.ifCond .ne 13, 3) := by decide +kernel
theorem dX5_mergeParts_69 : decode cX5_mergeParts 69 = .ok (.aload_n 3, 1) := by decide +kernel
theorem dX5_mergeParts_70 : decode cX5_mergeParts 70 = .ok (.getfield 84, 3) := by decide +kernel
theorem dX5_mergeParts_73 : decode cX5_mergeParts 73 = .ok (.invokevirtual 155, 3) := by decide +kernel
theorem dX5_mergeParts_76 : decode cX5_mergeParts 76 = .ok (.ifCond .eq 13, 3) := by decide +kernel
theorem dX5_mergeParts_79 : decode cX5_mergeParts 79 = .ok (.aload_n 0, 1) := by decide +kernel
theorem dX5_mergeParts_80 : decode cX5_mergeParts 80 = .ok (.dup, 1) := by decide +kernel
theorem dX5_mergeParts_81 : decode cX5_mergeParts 81 = .ok (.getfield 49, 3) := by decide +kernel
theorem dX5_mergeParts_84 : decode cX5_mergeParts 84 = .ok (.iconst 1, 1) := by decide +kernel
theorem dX5_mergeParts_85 : decode cX5_mergeParts 85 = .ok (.iadd, 1) := by decide +kernel
theorem dX5_mergeParts_86 : decode cX5_mergeParts 86 = .ok (.putfield 49, 3) := by decide +kernel
theorem dX5_mergeParts_89 : decode cX5_mergeParts 89 = .ok (.iload_n 2, 1) := by decide +kernel
theorem dX5_mergeParts_90 : decode cX5_mergeParts 90 = .ok (.ireturn, 1) := by decide +kernel
theorem dX5_offsetsThatPass_0 : decode cX5_offsetsThatPass 0 = .ok (.aload_n 0, 1) := by decide +kernel
theorem dX5_offsetsThatPass_1 : decode cX5_offsetsThatPass 1 = .ok (.iload_n 1, 1) := by decide +kernel
theorem dX5_offsetsThatPass_2 : decode cX5_offsetsThatPass 2 = .ok (.iload_n 2, 1) := by decide +kernel
theorem dX5_offsetsThatPass_3 : decode cX5_offsetsThatPass 3 = .ok (.invokevirtual 127, 3) := by decide +kernel
theorem dX5_offsetsThatPass_6 : decode cX5_offsetsThatPass 6 = .ok (.ifCond .ne 5, 3) := by decide +kernel
theorem dX5_offsetsThatPass_9 : decode cX5_offsetsThatPass 9 = .ok (.iconst (-1), 1) := by decide +kernel
theorem dX5_offsetsThatPass_10 : decode cX5_offsetsThatPass 10 = .ok (.ireturn, 1) := by decide +kernel
theorem dX5_offsetsThatPass_11 : decode cX5_offsetsThatPass 11 = .ok (.iload_n 3, 1) := by decide +kernel
theorem dX5_offsetsThatPass_12 : decode cX5_offsetsThatPass 12 = .ok (.invokestatic 131, 3) := by decide +kernel
theorem dX5_offsetsThatPass_15 : decode cX5_offsetsThatPass 15 = .ok (.ifCond .ne 6, 3) := by decide +kernel
theorem dX5_offsetsThatPass_18 : decode cX5_offsetsThatPass 18 = .ok (.bipush (-2), 2) := by decide +kernel
theorem dX5_offsetsThatPass_20 : decode cX5_offsetsThatPass 20 = .ok (.ireturn, 1) := by decide +kernel
theorem dX5_offsetsThatPass_21 : decode cX5_offsetsThatPass 21 = .ok (.iconst 0, 1) := by decide +kernel
theorem dX5_offsetsThatPass_22 : decode cX5_offsetsThatPass 22 = .ok (.istore 4, 2) := by decide +kernel
theorem dX5_offsetsThatPass_24 : decode cX5_offsetsThatPass 24 = .ok (.iconst 1, 1) := by decide +kernel
theorem dX5_offsetsThatPass_25 : decode cX5_offsetsThatPass 25 = .ok (.istore 5, 2) := by decide +kernel
theorem dX5_offsetsThatPass_27 : decode cX5_offsetsThatPass 27 = .ok (.iload 5, 2) := by decide +kernel
theorem dX5_offsetsThatPass_29 : decode cX5_offsetsThatPass 29 = .ok (.sipush 256, 3) := by decide +kernel
theorem dX5_offsetsThatPass_32 : decode cX5_offsetsThatPass 32 = .ok (.if_icmp .ge 24, 3) := by decide +kernel
theorem dX5_offsetsThatPass_35 : decode cX5_offsetsThatPass 35 = .ok (.aload_n 0, 1) := by decide +kernel
theorem dX5_offsetsThatPass_36 : decode cX5_offsetsThatPass 36 = .ok (.iload_n 1, 1) := by decide +kernel
theorem dX5_offsetsThatPass_37 : decode cX5_offsetsThatPass 37 = .ok (.iload_n 2, 1) := by decide +kernel
theorem dX5_offsetsThatPass_38 : decode cX5_offsetsThatPass 38 = .ok (.iload 5, 2) := by decide +kernel
theorem dX5_offsetsThatPass_40 : decode cX5_offsetsThatPass 40 = .ok (.invokevirtual 204, 3) := by decide +kernel
theorem dX5_offsetsThatPass_43 : decode cX5_offsetsThatPass 43 = .ok (.iload_n 3, 1) := by decide +kernel
theorem dX5_offsetsThatPass_44 : decode cX5_offsetsThatPass 44 = .ok (.if_icmp .ne 6, 3) := by decide +kernel
theorem dX5_offsetsThatPass_47 : decode cX5_offsetsThatPass 47 = .ok (.iinc 4 1, 3) := by decide +kernel
theorem dX5_offsetsThatPass_50 : decode cX5_offsetsThatPass 50 = .ok (.iinc 5 1, 3) := by decide +kernel
theorem dX5_offsetsThatPass_53 : decode cX5_offsetsThatPass 53 = .ok (.goto (-26), 3) := by decide +kernel
theorem dX5_offsetsThatPass_56 : decode cX5_offsetsThatPass 56 = .ok (.iload 4, 2) := by decide +kernel
theorem dX5_offsetsThatPass_58 : decode cX5_offsetsThatPass 58 = .ok (.ireturn, 1) := by decide +kernel
theorem dX5_otherPartFor_0 : decode cX5_otherPartFor 0 = .ok (.aload_n 0, 1) := by decide +kernel
theorem dX5_otherPartFor_1 : decode cX5_otherPartFor 1 = .ok (.iload_n 1, 1) := by decide +kernel
theorem dX5_otherPartFor_2 : decode cX5_otherPartFor 2 = .ok (.iload_n 2, 1) := by decide +kernel
theorem dX5_otherPartFor_3 : decode cX5_otherPartFor 3 = .ok (.invokevirtual 127, 3) := by decide +kernel
theorem dX5_otherPartFor_6 : decode cX5_otherPartFor 6 = .ok (.ifCond .ne 5, 3) := by decide +kernel
theorem dX5_otherPartFor_9 : decode cX5_otherPartFor 9 = .ok (.iconst (-1), 1) := by decide +kernel
theorem dX5_otherPartFor_10 : decode cX5_otherPartFor 10 = .ok (.ireturn, 1) := by decide +kernel
theorem dX5_otherPartFor_11 : decode cX5_otherPartFor 11 = .ok (.iload_n 3, 1) := by decide +kernel
theorem dX5_otherPartFor_12 : decode cX5_otherPartFor 12 = .ok (.invokestatic 69, 3) := by decide +kernel
theorem dX5_otherPartFor_15 : decode cX5_otherPartFor 15 = .ok (.ifCond .ne 6, 3) := by decide +kernel
theorem dX5_otherPartFor_18 : decode cX5_otherPartFor 18 = .ok (.bipush (-2), 2) := by decide +kernel
theorem dX5_otherPartFor_20 : decode cX5_otherPartFor 20 = .ok (.ireturn, 1) := by decide +kernel
theorem dX5_otherPartFor_21 : decode cX5_otherPartFor 21 = .ok (.iload_n 3, 1) := by decide +kernel
theorem dX5_otherPartFor_22 : decode cX5_otherPartFor 22 = .ok (.aload_n 0, 1) := by decide +kernel
theorem dX5_otherPartFor_23 : decode cX5_otherPartFor 23 = .ok (.getfield 11, 3) := by decide +kernel
theorem dX5_otherPartFor_26 : decode cX5_otherPartFor 26 = .ok (.iload_n 2, 1) := by decide +kernel
theorem dX5_otherPartFor_27 : decode cX5_otherPartFor 27 = .ok (.aaload, 1) := by decide +kernel
theorem dX5_otherPartFor_28 : decode cX5_otherPartFor 28 = .ok (.iload_n 1, 1) := by decide +kernel
theorem dX5_otherPartFor_29 : decode cX5_otherPartFor 29 = .ok (.invokevirtual 134, 3) := by decide +kernel
theorem dX5_otherPartFor_32 : decode cX5_otherPartFor 32 = .ok (.getfield 87, 3) := by decide +kernel
theorem dX5_otherPartFor_35 : decode cX5_otherPartFor 35 = .ok (.iconst 0, 1) := by decide +kernel
theorem dX5_otherPartFor_36 : decode cX5_otherPartFor 36 = .ok (.iaload, 1) := by decide +kernel
theorem dX5_otherPartFor_37 : decode cX5_otherPartFor 37 = .ok (.isub, 1) := by decide +kernel
theorem dX5_otherPartFor_38 : decode cX5_otherPartFor 38 = .ok (.sipush 256, 3) := by decide +kernel
theorem dX5_otherPartFor_41 : decode cX5_otherPartFor 41 = .ok (.invokestatic 96, 3) := by decide +kernel
theorem dX5_otherPartFor_44 : decode cX5_otherPartFor 44 = .ok (.ireturn, 1) := by decide +kernel
theorem dX5_partsNeeded_0 : decode cX5_partsNeeded 0 = .ok (.aload_n 0, 1) := by decide +kernel
theorem dX5_partsNeeded_1 : decode cX5_partsNeeded 1 = .ok (.iload_n 1, 1) := by decide +kernel
theorem dX5_partsNeeded_2 : decode cX5_partsNeeded 2 = .ok (.invokevirtual 56, 3) := by decide +kernel
theorem dX5_partsNeeded_5 : decode cX5_partsNeeded 5 = .ok (.ifCond .ne 5, 3) := by decide +kernel
theorem dX5_partsNeeded_8 : decode cX5_partsNeeded 8 = .ok (.iconst (-1), 1) := by decide +kernel
theorem dX5_partsNeeded_9 : decode cX5_partsNeeded 9 = .ok (.ireturn, 1) := by decide +kernel
theorem dX5_partsNeeded_10 : decode cX5_partsNeeded 10 = .ok (.aload_n 0, 1) := by decide +kernel
theorem dX5_partsNeeded_11 : decode cX5_partsNeeded 11 = .ok (.getfield 11, 3) := by decide +kernel
theorem dX5_partsNeeded_14 : decode cX5_partsNeeded 14 = .ok (.iload_n 1, 1) := by decide +kernel
theorem dX5_partsNeeded_15 : decode cX5_partsNeeded 15 = .ok (.aaload, 1) := by decide +kernel
theorem dX5_partsNeeded_16 : decode cX5_partsNeeded 16 = .ok (.getfield 179, 3) := by decide +kernel
theorem dX5_partsNeeded_19 : decode cX5_partsNeeded 19 = .ok (.ifCond .eq 5, 3) := by decide +kernel
theorem dX5_partsNeeded_22 : decode cX5_partsNeeded 22 = .ok (.iconst 0, 1) := by decide +kernel
theorem dX5_partsNeeded_23 : decode cX5_partsNeeded 23 = .ok (.ireturn, 1) := by decide +kernel
theorem dX5_partsNeeded_24 : decode cX5_partsNeeded 24 = .ok (.aload_n 0, 1) := by decide +kernel
theorem dX5_partsNeeded_25 : decode cX5_partsNeeded 25 = .ok (.getfield 11, 3) := by decide +kernel
theorem dX5_partsNeeded_28 : decode cX5_partsNeeded 28 = .ok (.iload_n 1, 1) := by decide +kernel
theorem dX5_partsNeeded_29 : decode cX5_partsNeeded 29 = .ok (.aaload, 1) := by decide +kernel
theorem dX5_partsNeeded_30 : decode cX5_partsNeeded 30 = .ok (.invokevirtual 208, 3) := by decide +kernel
theorem dX5_partsNeeded_33 : decode cX5_partsNeeded 33 = .ok (.ifCond .le 7, 3) := by decide +kernel
theorem dX5_partsNeeded_36 : decode cX5_partsNeeded 36 = .ok (.iconst 1, 1) := by decide +kernel
theorem dX5_partsNeeded_37 : decode cX5_partsNeeded 37 = .ok (.goto 4, 3) := by decide +kernel
theorem dX5_partsNeeded_40 : decode cX5_partsNeeded 40 = .ok (.iconst 2, 1) := by decide +kernel
theorem dX5_partsNeeded_41 : decode cX5_partsNeeded 41 = .ok (.ireturn, 1) := by decide +kernel
theorem dX5_passBeats_0 : decode cX5_passBeats 0 = .ok (.iload_n 1, 1) := by decide +kernel
theorem dX5_passBeats_1 : decode cX5_passBeats 1 = .ok (.iconst 1, 1) := by decide +kernel
theorem dX5_passBeats_2 : decode cX5_passBeats 2 = .ok (.if_icmp .lt 9, 3) := by decide +kernel
theorem dX5_passBeats_5 : decode cX5_passBeats 5 = .ok (.iload_n 1, 1) := by decide +kernel
theorem dX5_passBeats_6 : decode cX5_passBeats 6 = .ok (.bipush 99, 2) := by decide +kernel
theorem dX5_passBeats_8 : decode cX5_passBeats 8 = .ok (.if_icmp .le 6, 3) := by decide +kernel
theorem dX5_passBeats_11 : decode cX5_passBeats 11 = .ok (.bipush (-2), 2) := by decide +kernel
theorem dX5_passBeats_13 : decode cX5_passBeats 13 = .ok (.ireturn, 1) := by decide +kernel
theorem dX5_passBeats_14 : decode cX5_passBeats 14 = .ok (.aload_n 0, 1) := by decide +kernel
theorem dX5_passBeats_15 : decode cX5_passBeats 15 = .ok (.getfield 37, 3) := by decide +kernel
theorem dX5_passBeats_18 : decode cX5_passBeats 18 = .ok (.iload_n 1, 1) := by decide +kernel
theorem dX5_passBeats_19 : decode cX5_passBeats 19 = .ok (.iadd, 1) := by decide +kernel
theorem dX5_passBeats_20 : decode cX5_passBeats 20 = .ok (.sipush 9999, 3) := by decide +kernel
theorem dX5_passBeats_23 : decode cX5_passBeats 23 = .ok (.if_icmp .le 6, 3) := by decide +kernel
theorem dX5_passBeats_26 : decode cX5_passBeats 26 = .ok (.bipush (-5), 2) := by decide +kernel
theorem dX5_passBeats_28 : decode cX5_passBeats 28 = .ok (.ireturn, 1) := by decide +kernel
theorem dX5_passBeats_29 : decode cX5_passBeats 29 = .ok (.aload_n 0, 1) := by decide +kernel
theorem dX5_passBeats_30 : decode cX5_passBeats 30 = .ok (.getfield 40, 3) := by decide +kernel
theorem dX5_passBeats_33 : decode cX5_passBeats 33 = .ok (.istore_n 2, 1) := by decide +kernel
theorem dX5_passBeats_34 : decode cX5_passBeats 34 = .ok (.iconst 0, 1) := by decide +kernel
theorem dX5_passBeats_35 : decode cX5_passBeats 35 = .ok (.istore_n 3, 1) := by decide +kernel
theorem dX5_passBeats_36 : decode cX5_passBeats 36 = .ok (.iload_n 3, 1) := by decide +kernel
theorem dX5_passBeats_37 : decode cX5_passBeats 37 = .ok (.iload_n 1, 1) := by decide +kernel
theorem dX5_passBeats_38 : decode cX5_passBeats 38 = .ok (.if_icmp .ge 13, 3) := by decide +kernel
theorem dX5_passBeats_41 : decode cX5_passBeats 41 = .ok (.aload_n 0, 1) := by decide +kernel
theorem dX5_passBeats_42 : decode cX5_passBeats 42 = .ok (.invokevirtual 161, 3) := by decide +kernel
theorem dX5_passBeats_45 : decode cX5_passBeats 45 = .ok (.iinc 3 1, 3) := by decide +kernel
theorem dX5_passBeats_48 : decode cX5_passBeats 48 = .ok (.goto (-12), 3) := by decide +kernel
theorem dX5_passBeats_51 : decode cX5_passBeats 51 = .ok (.aload_n 0, 1) := by decide +kernel
theorem dX5_passBeats_52 : decode cX5_passBeats 52 = .ok (.getfield 40, 3) := by decide +kernel
theorem dX5_passBeats_55 : decode cX5_passBeats 55 = .ok (.iload_n 2, 1) := by decide +kernel
theorem dX5_passBeats_56 : decode cX5_passBeats 56 = .ok (.isub, 1) := by decide +kernel
theorem dX5_passBeats_57 : decode cX5_passBeats 57 = .ok (.ireturn, 1) := by decide +kernel
theorem dX5_passOneBeat_0 : decode cX5_passOneBeat 0 = .ok (.iconst 0, 1) := by decide +kernel
theorem dX5_passOneBeat_1 : decode cX5_passOneBeat 1 = .ok (.istore_n 1, 1) := by decide +kernel
theorem dX5_passOneBeat_2 : decode cX5_passOneBeat 2 = .ok (.iload_n 1, 1) := by decide +kernel
theorem dX5_passOneBeat_3 : decode cX5_passOneBeat 3 = .ok (.aload_n 0, 1) := by decide +kernel
theorem dX5_passOneBeat_4 : decode cX5_passOneBeat 4 = .ok (.getfield 34, 3) := by decide +kernel
theorem dX5_passOneBeat_7 : decode cX5_passOneBeat 7 = .ok (.if_icmp .ge 33, 3) := by decide +kernel
theorem dX5_passOneBeat_10 : decode cX5_passOneBeat 10 = .ok (.aload_n 0, 1) := by decide +kernel
theorem dX5_passOneBeat_11 : decode cX5_passOneBeat 11 = .ok (.getfield 11, 3) := by decide +kernel
theorem dX5_passOneBeat_14 : decode cX5_passOneBeat 14 = .ok (.iload_n 1, 1) := by decide +kernel
theorem dX5_passOneBeat_15 : decode cX5_passOneBeat 15 = .ok (.aaload, 1) := by decide +kernel
theorem dX5_passOneBeat_16 : decode cX5_passOneBeat 16 = .ok (.iconst 0, 1) := by decide +kernel
theorem dX5_passOneBeat_17 : decode cX5_passOneBeat 17 = .ok (.aload_n 0, 1) := by decide +kernel
theorem dX5_passOneBeat_18 : decode cX5_passOneBeat 18 = .ok (.getfield 11, 3) := by decide +kernel
theorem dX5_passOneBeat_21 : decode cX5_passOneBeat 21 = .ok (.iload_n 1, 1) := by decide +kernel
theorem dX5_passOneBeat_22 : decode cX5_passOneBeat 22 = .ok (.aaload, 1) := by decide +kernel
theorem dX5_passOneBeat_23 : decode cX5_passOneBeat 23 = .ok (.getfield 164, 3) := by decide +kernel
theorem dX5_passOneBeat_26 : decode cX5_passOneBeat 26 = .ok (.iconst 1, 1) := by decide +kernel
theorem dX5_passOneBeat_27 : decode cX5_passOneBeat 27 = .ok (.isub, 1) := by decide +kernel
theorem dX5_passOneBeat_28 : decode cX5_passOneBeat 28 = .ok (.invokestatic 167, 3) := by decide +kernel
theorem dX5_passOneBeat_31 : decode cX5_passOneBeat 31 = .ok (.putfield 164, 3) := by decide +kernel
theorem dX5_passOneBeat_34 : decode cX5_passOneBeat 34 = .ok (.iinc 1 1, 3) := by decide +kernel
theorem dX5_passOneBeat_37 : decode cX5_passOneBeat 37 = .ok (.goto (-35), 3) := by decide +kernel
theorem dX5_passOneBeat_40 : decode cX5_passOneBeat 40 = .ok (.aload_n 0, 1) := by decide +kernel
theorem dX5_passOneBeat_41 : decode cX5_passOneBeat 41 = .ok (.dup, 1) := by decide +kernel
theorem dX5_passOneBeat_42 : decode cX5_passOneBeat 42 = .ok (.getfield 37, 3) := by decide +kernel
theorem dX5_passOneBeat_45 : decode cX5_passOneBeat 45 = .ok (.iconst 1, 1) := by decide +kernel
theorem dX5_passOneBeat_46 : decode cX5_passOneBeat 46 = .ok (.iadd, 1) := by decide +kernel
theorem dX5_passOneBeat_47 : decode cX5_passOneBeat 47 = .ok (.putfield 37, 3) := by decide +kernel
theorem dX5_passOneBeat_50 : decode cX5_passOneBeat 50 = .ok (.aload_n 0, 1) := by decide +kernel
theorem dX5_passOneBeat_51 : decode cX5_passOneBeat 51 = .ok (.getfield 17, 3) := by decide +kernel
theorem dX5_passOneBeat_54 : decode cX5_passOneBeat 54 = .ok (.iconst 1, 1) := by decide +kernel
theorem dX5_passOneBeat_55 : decode cX5_passOneBeat 55 = .ok (.iaload, 1) := by decide +kernel
theorem dX5_passOneBeat_56 : decode cX5_passOneBeat 56 = .ok (.ifCond .eq 24, 3) := by decide +kernel
theorem dX5_passOneBeat_59 : decode cX5_passOneBeat 59 = .ok (.aload_n 0, 1) := by decide +kernel
theorem dX5_passOneBeat_60 : decode cX5_passOneBeat 60 = .ok (.getfield 37, 3) := by decide +kernel
theorem dX5_passOneBeat_63 : decode cX5_passOneBeat 63 = .ok (.aload_n 0, 1) := by decide +kernel
theorem dX5_passOneBeat_64 : decode cX5_passOneBeat 64 = .ok (.getfield 17, 3) := by decide +kernel
theorem dX5_passOneBeat_67 : decode cX5_passOneBeat 67 = .ok (.iconst 1, 1) := by decide +kernel
theorem dX5_passOneBeat_68 : decode cX5_passOneBeat 68 = .ok (.iaload, 1) := by decide +kernel
theorem dX5_passOneBeat_69 : decode cX5_passOneBeat 69 = .ok (.irem, 1) := by decide +kernel
theorem dX5_passOneBeat_70 : decode cX5_passOneBeat 70 = .ok (.ifCond .ne 10, 3) := by decide +kernel
theorem dX5_passOneBeat_73 : decode cX5_passOneBeat 73 = .ok (.aload_n 0, 1) := by decide +kernel
theorem dX5_passOneBeat_74 : decode cX5_passOneBeat 74 = .ok (.invokevirtual 72, 3) := by decide +kernel
theorem dX5_passOneBeat_77 : decode cX5_passOneBeat 77 = .ok (.ifCond .eq 4, 3) := by decide +kernel
theorem dX5_passOneBeat_80 : decode cX5_passOneBeat 80 = .ok (.return_, 1) := by decide +kernel
theorem dX5_passOneBeat_81 : decode cX5_passOneBeat 81 = .ok (.iconst 0, 1) := by decide +kernel
theorem dX5_passOneBeat_82 : decode cX5_passOneBeat 82 = .ok (.istore_n 1, 1) := by decide +kernel
theorem dX5_passOneBeat_83 : decode cX5_passOneBeat 83 = .ok (.iload_n 1, 1) := by decide +kernel
theorem dX5_passOneBeat_84 : decode cX5_passOneBeat 84 = .ok (.aload_n 0, 1) := by decide +kernel
theorem dX5_passOneBeat_85 : decode cX5_passOneBeat 85 = .ok (.getfield 34, 3) := by decide +kernel
theorem dX5_passOneBeat_88 : decode cX5_passOneBeat 88 = .ok (.if_icmp .ge 34, 3) := by decide +kernel
theorem dX5_passOneBeat_91 : decode cX5_passOneBeat 91 = .ok (.aload_n 0, 1) := by decide +kernel
theorem dX5_passOneBeat_92 : decode cX5_passOneBeat 92 = .ok (.getfield 11, 3) := by decide +kernel
theorem dX5_passOneBeat_95 : decode cX5_passOneBeat 95 = .ok (.iload_n 1, 1) := by decide +kernel
theorem dX5_passOneBeat_96 : decode cX5_passOneBeat 96 = .ok (.aaload, 1) := by decide +kernel
theorem dX5_passOneBeat_97 : decode cX5_passOneBeat 97 = .ok (.getfield 59, 3) := by decide +kernel
theorem dX5_passOneBeat_100 : decode cX5_passOneBeat 100 = .ok (.sipush 999, 3) := by decide +kernel
theorem dX5_passOneBeat_103 : decode cX5_passOneBeat 103 = .ok (.if_icmp .ge 13, 3) := by decide +kernel
theorem dX5_passOneBeat_106 : decode cX5_passOneBeat 106 = .ok (.aload_n 0, 1) := by decide +kernel
theorem dX5_passOneBeat_107 : decode cX5_passOneBeat 107 = .ok (.aload_n 0, 1) := by decide +kernel
theorem dX5_passOneBeat_108 : decode cX5_passOneBeat 108 = .ok (.getfield 11, 3) := by decide +kernel
theorem dX5_passOneBeat_111 : decode cX5_passOneBeat 111 = .ok (.iload_n 1, 1) := by decide +kernel
theorem dX5_passOneBeat_112 : decode cX5_passOneBeat 112 = .ok (.aaload, 1) := by decide +kernel
theorem dX5_passOneBeat_113 : decode cX5_passOneBeat 113 = .ok (.invokevirtual 121, 3) := by decide +kernel
theorem dX5_passOneBeat_116 : decode cX5_passOneBeat 116 = .ok (.iinc 1 1, 3) := by decide +kernel
theorem dX5_passOneBeat_119 : decode cX5_passOneBeat 119 = .ok (.goto (-36), 3) := by decide +kernel
theorem dX5_passOneBeat_122 : decode cX5_passOneBeat 122 = .ok (.return_, 1) := by decide +kernel
theorem dX5_renew_0 : decode cX5_renew 0 = .ok (.aload_n 0, 1) := by decide +kernel
theorem dX5_renew_1 : decode cX5_renew 1 = .ok (.iload_n 1, 1) := by decide +kernel
theorem dX5_renew_2 : decode cX5_renew 2 = .ok (.invokevirtual 56, 3) := by decide +kernel
theorem dX5_renew_5 : decode cX5_renew 5 = .ok (.ifCond .ne 5, 3) := by decide +kernel
theorem dX5_renew_8 : decode cX5_renew 8 = .ok (.iconst (-1), 1) := by decide +kernel
theorem dX5_renew_9 : decode cX5_renew 9 = .ok (.ireturn, 1) := by decide +kernel
theorem dX5_renew_10 : decode cX5_renew 10 = .ok (.aload_n 0, 1) := by decide +kernel
theorem dX5_renew_11 : decode cX5_renew 11 = .ok (.getfield 11, 3) := by decide +kernel
theorem dX5_renew_14 : decode cX5_renew 14 = .ok (.iload_n 1, 1) := by decide +kernel
theorem dX5_renew_15 : decode cX5_renew 15 = .ok (.aaload, 1) := by decide +kernel
theorem dX5_renew_16 : decode cX5_renew 16 = .ok (.astore_n 2, 1) := by decide +kernel
theorem dX5_renew_17 : decode cX5_renew 17 = .ok (.aload_n 0, 1) := by decide +kernel
theorem dX5_renew_18 : decode cX5_renew 18 = .ok (.invokevirtual 72, 3) := by decide +kernel
theorem dX5_renew_21 : decode cX5_renew 21 = .ok (.ifCond .ne 13, 3) := by decide +kernel
theorem dX5_renew_24 : decode cX5_renew 24 = .ok (.aload_n 2, 1) := by decide +kernel
theorem dX5_renew_25 : decode cX5_renew 25 = .ok (.getfield 59, 3) := by decide +kernel
theorem dX5_renew_28 : decode cX5_renew 28 = .ok (.sipush 999, 3) := by decide +kernel
theorem dX5_renew_31 : decode cX5_renew 31 = .ok (.if_icmp .lt 6, 3) := by decide +kernel
theorem dX5_renew_34 : decode cX5_renew 34 = .ok (.bipush (-5), 2) := by decide +kernel
theorem dX5_renew_36 : decode cX5_renew 36 = .ok (.ireturn, 1) := by decide +kernel
theorem dX5_renew_37 : decode cX5_renew 37 = .ok (.aload_n 0, 1) := by decide +kernel
theorem dX5_renew_38 : decode cX5_renew 38 = .ok (.aload_n 2, 1) := by decide +kernel
theorem dX5_renew_39 : decode cX5_renew 39 = .ok (.invokevirtual 121, 3) := by decide +kernel
theorem dX5_renew_42 : decode cX5_renew 42 = .ok (.aload_n 2, 1) := by decide +kernel
theorem dX5_renew_43 : decode cX5_renew 43 = .ok (.getfield 59, 3) := by decide +kernel
theorem dX5_renew_46 : decode cX5_renew 46 = .ok (.ireturn, 1) := by decide +kernel
theorem dX5_setOfKnown_0 : decode cX5_setOfKnown 0 = .ok (.iconst 0, 1) := by decide +kernel
theorem dX5_setOfKnown_1 : decode cX5_setOfKnown 1 = .ok (.istore_n 1, 1) := by decide +kernel
theorem dX5_setOfKnown_2 : decode cX5_setOfKnown 2 = .ok (.iconst 0, 1) := by decide +kernel
theorem dX5_setOfKnown_3 : decode cX5_setOfKnown 3 = .ok (.istore_n 2, 1) := by decide +kernel
theorem dX5_setOfKnown_4 : decode cX5_setOfKnown 4 = .ok (.iload_n 2, 1) := by decide +kernel
theorem dX5_setOfKnown_5 : decode cX5_setOfKnown 5 = .ok (.aload_n 0, 1) := by decide +kernel
theorem dX5_setOfKnown_6 : decode cX5_setOfKnown 6 = .ok (.getfield 34, 3) := by decide +kernel
theorem dX5_setOfKnown_9 : decode cX5_setOfKnown 9 = .ok (.if_icmp .ge 31, 3) := by decide +kernel
theorem dX5_setOfKnown_12 : decode cX5_setOfKnown 12 = .ok (.iload_n 1, 1) := by decide +kernel
theorem dX5_setOfKnown_13 : decode cX5_setOfKnown 13 = .ok (.aload_n 0, 1) := by decide +kernel
theorem dX5_setOfKnown_14 : decode cX5_setOfKnown 14 = .ok (.getfield 11, 3) := by decide +kernel
theorem dX5_setOfKnown_17 : decode cX5_setOfKnown 17 = .ok (.iload_n 2, 1) := by decide +kernel
theorem dX5_setOfKnown_18 : decode cX5_setOfKnown 18 = .ok (.aaload, 1) := by decide +kernel
theorem dX5_setOfKnown_19 : decode cX5_setOfKnown 19 = .ok (.getfield 179, 3) := by decide +kernel
theorem dX5_setOfKnown_22 : decode cX5_setOfKnown 22 = .ok (.ifCond .eq 9, 3) := by decide +kernel
theorem dX5_setOfKnown_25 : decode cX5_setOfKnown 25 = .ok (.iconst 1, 1) := by decide +kernel
theorem dX5_setOfKnown_26 : decode cX5_setOfKnown 26 = .ok (.iload_n 2, 1) := by decide +kernel
theorem dX5_setOfKnown_27 : decode cX5_setOfKnown 27 = .ok (.ishl, 1) := by decide +kernel
theorem dX5_setOfKnown_28 : decode cX5_setOfKnown 28 = .ok (.goto 4, 3) := by decide +kernel
theorem dX5_setOfKnown_31 : decode cX5_setOfKnown 31 = .ok (.iconst 0, 1) := by decide +kernel
theorem dX5_setOfKnown_32 : decode cX5_setOfKnown 32 = .ok (.ior, 1) := by decide +kernel
theorem dX5_setOfKnown_33 : decode cX5_setOfKnown 33 = .ok (.istore_n 1, 1) := by decide +kernel
theorem dX5_setOfKnown_34 : decode cX5_setOfKnown 34 = .ok (.iinc 2 1, 3) := by decide +kernel
theorem dX5_setOfKnown_37 : decode cX5_setOfKnown 37 = .ok (.goto (-33), 3) := by decide +kernel
theorem dX5_setOfKnown_40 : decode cX5_setOfKnown 40 = .ok (.iload_n 1, 1) := by decide +kernel
theorem dX5_setOfKnown_41 : decode cX5_setOfKnown 41 = .ok (.ireturn, 1) := by decide +kernel
theorem dX5_setOfOpen_0 : decode cX5_setOfOpen 0 = .ok (.iconst 0, 1) := by decide +kernel
theorem dX5_setOfOpen_1 : decode cX5_setOfOpen 1 = .ok (.istore_n 1, 1) := by decide +kernel
theorem dX5_setOfOpen_2 : decode cX5_setOfOpen 2 = .ok (.iconst 0, 1) := by decide +kernel
theorem dX5_setOfOpen_3 : decode cX5_setOfOpen 3 = .ok (.istore_n 2, 1) := by decide +kernel
theorem dX5_setOfOpen_4 : decode cX5_setOfOpen 4 = .ok (.iload_n 2, 1) := by decide +kernel
theorem dX5_setOfOpen_5 : decode cX5_setOfOpen 5 = .ok (.aload_n 0, 1) := by decide +kernel
theorem dX5_setOfOpen_6 : decode cX5_setOfOpen 6 = .ok (.getfield 34, 3) := by decide +kernel
theorem dX5_setOfOpen_9 : decode cX5_setOfOpen 9 = .ok (.if_icmp .ge 31, 3) := by decide +kernel
theorem dX5_setOfOpen_12 : decode cX5_setOfOpen 12 = .ok (.iload_n 1, 1) := by decide +kernel
theorem dX5_setOfOpen_13 : decode cX5_setOfOpen 13 = .ok (.aload_n 0, 1) := by decide +kernel
theorem dX5_setOfOpen_14 : decode cX5_setOfOpen 14 = .ok (.getfield 11, 3) := by decide +kernel
theorem dX5_setOfOpen_17 : decode cX5_setOfOpen 17 = .ok (.iload_n 2, 1) := by decide +kernel
theorem dX5_setOfOpen_18 : decode cX5_setOfOpen 18 = .ok (.aaload, 1) := by decide +kernel
theorem dX5_setOfOpen_19 : decode cX5_setOfOpen 19 = .ok (.getfield 164, 3) := by decide +kernel
theorem dX5_setOfOpen_22 : decode cX5_setOfOpen 22 = .ok (.ifCond .le 9, 3) := by decide +kernel
theorem dX5_setOfOpen_25 : decode cX5_setOfOpen 25 = .ok (.iconst 1, 1) := by decide +kernel
theorem dX5_setOfOpen_26 : decode cX5_setOfOpen 26 = .ok (.iload_n 2, 1) := by decide +kernel
theorem dX5_setOfOpen_27 : decode cX5_setOfOpen 27 = .ok (.ishl, 1) := by decide +kernel
theorem dX5_setOfOpen_28 : decode cX5_setOfOpen 28 = .ok (.goto 4, 3) := by decide +kernel
theorem dX5_setOfOpen_31 : decode cX5_setOfOpen 31 = .ok (.iconst 0, 1) := by decide +kernel
theorem dX5_setOfOpen_32 : decode cX5_setOfOpen 32 = .ok (.ior, 1) := by decide +kernel
theorem dX5_setOfOpen_33 : decode cX5_setOfOpen 33 = .ok (.istore_n 1, 1) := by decide +kernel
theorem dX5_setOfOpen_34 : decode cX5_setOfOpen 34 = .ok (.iinc 2 1, 3) := by decide +kernel
theorem dX5_setOfOpen_37 : decode cX5_setOfOpen 37 = .ok (.goto (-33), 3) := by decide +kernel
theorem dX5_setOfOpen_40 : decode cX5_setOfOpen 40 = .ok (.iload_n 1, 1) := by decide +kernel
theorem dX5_setOfOpen_41 : decode cX5_setOfOpen 41 = .ok (.ireturn, 1) := by decide +kernel
theorem dX5_someStoreSleeps_0 : decode cX5_someStoreSleeps 0 = .ok (.aload_n 0, 1) := by decide +kernel
theorem dX5_someStoreSleeps_1 : decode cX5_someStoreSleeps 1 = .ok (.getfield 21, 3) := by decide +kernel
theorem dX5_someStoreSleeps_4 : decode cX5_someStoreSleeps 4 = .ok (.iconst 0, 1) := by decide +kernel
theorem dX5_someStoreSleeps_5 : decode cX5_someStoreSleeps 5 = .ok (.baload, 1) := by decide +kernel
theorem dX5_someStoreSleeps_6 : decode cX5_someStoreSleeps 6 = .ok (.ifCond .ne 12, 3) := by decide +kernel
theorem dX5_someStoreSleeps_9 : decode cX5_someStoreSleeps 9 = .ok (.aload_n 0, 1) := by decide +kernel
theorem dX5_someStoreSleeps_10 : decode cX5_someStoreSleeps 10 = .ok (.getfield 21, 3) := by decide +kernel
theorem dX5_someStoreSleeps_13 : decode cX5_someStoreSleeps 13 = .ok (.iconst 1, 1) := by decide +kernel
theorem dX5_someStoreSleeps_14 : decode cX5_someStoreSleeps 14 = .ok (.baload, 1) := by decide +kernel
theorem dX5_someStoreSleeps_15 : decode cX5_someStoreSleeps 15 = .ok (.ifCond .eq 7, 3) := by decide +kernel
theorem dX5_someStoreSleeps_18 : decode cX5_someStoreSleeps 18 = .ok (.iconst 1, 1) := by decide +kernel
theorem dX5_someStoreSleeps_19 : decode cX5_someStoreSleeps 19 = .ok (.goto 4, 3) := by decide +kernel
theorem dX5_someStoreSleeps_22 : decode cX5_someStoreSleeps 22 = .ok (.iconst 0, 1) := by decide +kernel
theorem dX5_someStoreSleeps_23 : decode cX5_someStoreSleeps 23 = .ok (.ireturn, 1) := by decide +kernel
theorem dX5_tagOffsetThatPasses_0 : decode cX5_tagOffsetThatPasses 0 = .ok (.aload_n 0, 1) := by decide +kernel
theorem dX5_tagOffsetThatPasses_1 : decode cX5_tagOffsetThatPasses 1 = .ok (.iload_n 1, 1) := by decide +kernel
theorem dX5_tagOffsetThatPasses_2 : decode cX5_tagOffsetThatPasses 2 = .ok (.iload_n 2, 1) := by decide +kernel
theorem dX5_tagOffsetThatPasses_3 : decode cX5_tagOffsetThatPasses 3 = .ok (.invokevirtual 127, 3) := by decide +kernel
theorem dX5_tagOffsetThatPasses_6 : decode cX5_tagOffsetThatPasses 6 = .ok (.ifCond .ne 5, 3) := by decide +kernel
theorem dX5_tagOffsetThatPasses_9 : decode cX5_tagOffsetThatPasses 9 = .ok (.iconst (-1), 1) := by decide +kernel
theorem dX5_tagOffsetThatPasses_10 : decode cX5_tagOffsetThatPasses 10 = .ok (.ireturn, 1) := by decide +kernel
theorem dX5_tagOffsetThatPasses_11 : decode cX5_tagOffsetThatPasses 11 = .ok (.iload_n 3, 1) := by decide +kernel
theorem dX5_tagOffsetThatPasses_12 : decode cX5_tagOffsetThatPasses 12 = .ok (.invokestatic 69, 3) := by decide +kernel
theorem dX5_tagOffsetThatPasses_15 : decode cX5_tagOffsetThatPasses 15 = .ok (.ifCond .ne 6, 3) := by decide +kernel
theorem dX5_tagOffsetThatPasses_18 : decode cX5_tagOffsetThatPasses 18 = .ok (.bipush (-2), 2) := by decide +kernel
theorem dX5_tagOffsetThatPasses_20 : decode cX5_tagOffsetThatPasses 20 = .ok (.ireturn, 1) := by decide +kernel
theorem dX5_tagOffsetThatPasses_21 : decode cX5_tagOffsetThatPasses 21 = .ok (.aload_n 0, 1) := by decide +kernel
theorem dX5_tagOffsetThatPasses_22 : decode cX5_tagOffsetThatPasses 22 = .ok (.getfield 11, 3) := by decide +kernel
theorem dX5_tagOffsetThatPasses_25 : decode cX5_tagOffsetThatPasses 25 = .ok (.iload_n 2, 1) := by decide +kernel
theorem dX5_tagOffsetThatPasses_26 : decode cX5_tagOffsetThatPasses 26 = .ok (.aaload, 1) := by decide +kernel
theorem dX5_tagOffsetThatPasses_27 : decode cX5_tagOffsetThatPasses 27 = .ok (.iload_n 1, 1) := by decide +kernel
theorem dX5_tagOffsetThatPasses_28 : decode cX5_tagOffsetThatPasses 28 = .ok (.invokevirtual 134, 3) := by decide +kernel
theorem dX5_tagOffsetThatPasses_31 : decode cX5_tagOffsetThatPasses 31 = .ok (.astore 4, 2) := by decide +kernel
theorem dX5_tagOffsetThatPasses_33 : decode cX5_tagOffsetThatPasses 33 = .ok (.aload_n 0, 1) := by decide +kernel
theorem dX5_tagOffsetThatPasses_34 : decode cX5_tagOffsetThatPasses 34 = .ok (.getfield 11, 3) := by decide +kernel
theorem dX5_tagOffsetThatPasses_37 : decode cX5_tagOffsetThatPasses 37 = .ok (.iload_n 2, 1) := by decide +kernel
theorem dX5_tagOffsetThatPasses_38 : decode cX5_tagOffsetThatPasses 38 = .ok (.aaload, 1) := by decide +kernel
theorem dX5_tagOffsetThatPasses_39 : decode cX5_tagOffsetThatPasses 39 = .ok (.iload_n 1, 1) := by decide +kernel
theorem dX5_tagOffsetThatPasses_40 : decode cX5_tagOffsetThatPasses 40 = .ok (.invokevirtual 198, 3) := by decide +kernel
theorem dX5_tagOffsetThatPasses_43 : decode cX5_tagOffsetThatPasses 43 = .ok (.astore 5, 2) := by decide +kernel
theorem dX5_tagOffsetThatPasses_45 : decode cX5_tagOffsetThatPasses 45 = .ok (.aload 5, 2) := by decide +kernel
theorem dX5_tagOffsetThatPasses_47 : decode cX5_tagOffsetThatPasses 47 = .ok (.aload 4, 2) := by decide +kernel
theorem dX5_tagOffsetThatPasses_49 : decode cX5_tagOffsetThatPasses 49 = .ok (.iload_n 3, 1) := by decide +kernel
theorem dX5_tagOffsetThatPasses_50 : decode cX5_tagOffsetThatPasses 50 = .ok (.invokevirtual 201, 3) := by decide +kernel
theorem dX5_tagOffsetThatPasses_53 : decode cX5_tagOffsetThatPasses 53 = .ok (.invokevirtual 108, 3) := by decide +kernel
theorem dX5_tagOffsetThatPasses_56 : decode cX5_tagOffsetThatPasses 56 = .ok (.aload 4, 2) := by decide +kernel
theorem dX5_tagOffsetThatPasses_58 : decode cX5_tagOffsetThatPasses 58 = .ok (.getfield 112, 3) := by decide +kernel
theorem dX5_tagOffsetThatPasses_61 : decode cX5_tagOffsetThatPasses 61 = .ok (.isub, 1) := by decide +kernel
theorem dX5_tagOffsetThatPasses_62 : decode cX5_tagOffsetThatPasses 62 = .ok (.sipush 257, 3) := by decide +kernel
theorem dX5_tagOffsetThatPasses_65 : decode cX5_tagOffsetThatPasses 65 = .ok (.invokestatic 96, 3) := by decide +kernel
theorem dX5_tagOffsetThatPasses_68 : decode cX5_tagOffsetThatPasses 68 = .ok (.ireturn, 1) := by decide +kernel
theorem dX5_takeUpLie_0 : decode cX5_takeUpLie 0 = .ok (.aload_n 0, 1) := by decide +kernel
theorem dX5_takeUpLie_1 : decode cX5_takeUpLie 1 = .ok (.iload_n 1, 1) := by decide +kernel
theorem dX5_takeUpLie_2 : decode cX5_takeUpLie 2 = .ok (.iload_n 2, 1) := by decide +kernel
theorem dX5_takeUpLie_3 : decode cX5_takeUpLie 3 = .ok (.invokevirtual 127, 3) := by decide +kernel
theorem dX5_takeUpLie_6 : decode cX5_takeUpLie 6 = .ok (.ifCond .ne 5, 3) := by decide +kernel
theorem dX5_takeUpLie_9 : decode cX5_takeUpLie 9 = .ok (.iconst (-1), 1) := by decide +kernel
theorem dX5_takeUpLie_10 : decode cX5_takeUpLie 10 = .ok (.ireturn, 1) := by decide +kernel
theorem dX5_takeUpLie_11 : decode cX5_takeUpLie 11 = .ok (.iload_n 3, 1) := by decide +kernel
theorem dX5_takeUpLie_12 : decode cX5_takeUpLie 12 = .ok (.invokestatic 69, 3) := by decide +kernel
theorem dX5_takeUpLie_15 : decode cX5_takeUpLie 15 = .ok (.ifCond .eq 11, 3) := by decide +kernel
theorem dX5_takeUpLie_18 : decode cX5_takeUpLie 18 = .ok (.iload 4, 2) := by decide +kernel
theorem dX5_takeUpLie_20 : decode cX5_takeUpLie 20 = .ok (.invokestatic 131, 3) := by decide +kernel
theorem dX5_takeUpLie_23 : decode cX5_takeUpLie 23 = .ok (.ifCond .ne 6, 3) := by decide +kernel
theorem dX5_takeUpLie_26 : decode cX5_takeUpLie 26 = .ok (.bipush (-2), 2) := by decide +kernel
theorem dX5_takeUpLie_28 : decode cX5_takeUpLie 28 = .ok (.ireturn, 1) := by decide +kernel
theorem dX5_takeUpLie_29 : decode cX5_takeUpLie 29 = .ok (.aload_n 0, 1) := by decide +kernel
theorem dX5_takeUpLie_30 : decode cX5_takeUpLie 30 = .ok (.getfield 11, 3) := by decide +kernel
theorem dX5_takeUpLie_33 : decode cX5_takeUpLie 33 = .ok (.iload_n 2, 1) := by decide +kernel
theorem dX5_takeUpLie_34 : decode cX5_takeUpLie 34 = .ok (.aaload, 1) := by decide +kernel
theorem dX5_takeUpLie_35 : decode cX5_takeUpLie 35 = .ok (.iload_n 1, 1) := by decide +kernel
theorem dX5_takeUpLie_36 : decode cX5_takeUpLie 36 = .ok (.invokevirtual 134, 3) := by decide +kernel
theorem dX5_takeUpLie_39 : decode cX5_takeUpLie 39 = .ok (.astore 5, 2) := by decide +kernel
theorem dX5_takeUpLie_41 : decode cX5_takeUpLie 41 = .ok (.aload 5, 2) := by decide +kernel
theorem dX5_takeUpLie_43 : decode cX5_takeUpLie 43 = .ok (.getfield 138, 3) := by decide +kernel
theorem dX5_takeUpLie_46 : decode cX5_takeUpLie 46 = .ok (.istore 6, 2) := by decide +kernel
theorem dX5_takeUpLie_48 : decode cX5_takeUpLie 48 = .ok (.aload 5, 2) := by decide +kernel
theorem dX5_takeUpLie_50 : decode cX5_takeUpLie 50 = .ok (.iload_n 3, 1) := by decide +kernel
theorem dX5_takeUpLie_51 : decode cX5_takeUpLie 51 = .ok (.putfield 138, 3) := by decide +kernel
theorem dX5_takeUpLie_54 : decode cX5_takeUpLie 54 = .ok (.aload 5, 2) := by decide +kernel
theorem dX5_takeUpLie_56 : decode cX5_takeUpLie 56 = .ok (.iload 4, 2) := by decide +kernel
theorem dX5_takeUpLie_58 : decode cX5_takeUpLie 58 = .ok (.putfield 141, 3) := by decide +kernel
theorem dX5_takeUpLie_61 : decode cX5_takeUpLie 61 = .ok (.iload 6, 2) := by decide +kernel
theorem dX5_takeUpLie_63 : decode cX5_takeUpLie 63 = .ok (.ireturn, 1) := by decide +kernel
theorem dX5_turnSleep_0 : decode cX5_turnSleep 0 = .ok (.iload_n 1, 1) := by decide +kernel
theorem dX5_turnSleep_1 : decode cX5_turnSleep 1 = .ok (.invokestatic 52, 3) := by decide +kernel
theorem dX5_turnSleep_4 : decode cX5_turnSleep 4 = .ok (.ifCond .ne 5, 3) := by decide +kernel
theorem dX5_turnSleep_7 : decode cX5_turnSleep 7 = .ok (.iconst (-1), 1) := by decide +kernel
theorem dX5_turnSleep_8 : decode cX5_turnSleep 8 = .ok (.ireturn, 1) := by decide +kernel
theorem dX5_turnSleep_9 : decode cX5_turnSleep 9 = .ok (.aload_n 0, 1) := by decide +kernel
theorem dX5_turnSleep_10 : decode cX5_turnSleep 10 = .ok (.getfield 21, 3) := by decide +kernel
theorem dX5_turnSleep_13 : decode cX5_turnSleep 13 = .ok (.iload_n 1, 1) := by decide +kernel
theorem dX5_turnSleep_14 : decode cX5_turnSleep 14 = .ok (.aload_n 0, 1) := by decide +kernel
theorem dX5_turnSleep_15 : decode cX5_turnSleep 15 = .ok (.getfield 21, 3) := by decide +kernel
theorem dX5_turnSleep_18 : decode cX5_turnSleep 18 = .ok (.iload_n 1, 1) := by decide +kernel
theorem dX5_turnSleep_19 : decode cX5_turnSleep 19 = .ok (.baload, 1) := by decide +kernel
theorem dX5_turnSleep_20 : decode cX5_turnSleep 20 = .ok (.ifCond .ne 7, 3) := by decide +kernel
theorem dX5_turnSleep_23 : decode cX5_turnSleep 23 = .ok (.iconst 1, 1) := by decide +kernel
theorem dX5_turnSleep_24 : decode cX5_turnSleep 24 = .ok (.goto 4, 3) := by decide +kernel
theorem dX5_turnSleep_27 : decode cX5_turnSleep 27 = .ok (.iconst 0, 1) := by decide +kernel
theorem dX5_turnSleep_28 : decode cX5_turnSleep 28 = .ok (.bastore, 1) := by decide +kernel
theorem dX5_turnSleep_29 : decode cX5_turnSleep 29 = .ok (.aload_n 0, 1) := by decide +kernel
theorem dX5_turnSleep_30 : decode cX5_turnSleep 30 = .ok (.getfield 21, 3) := by decide +kernel
theorem dX5_turnSleep_33 : decode cX5_turnSleep 33 = .ok (.iload_n 1, 1) := by decide +kernel
theorem dX5_turnSleep_34 : decode cX5_turnSleep 34 = .ok (.baload, 1) := by decide +kernel
theorem dX5_turnSleep_35 : decode cX5_turnSleep 35 = .ok (.ifCond .eq 7, 3) := by decide +kernel
theorem dX5_turnSleep_38 : decode cX5_turnSleep 38 = .ok (.iconst 1, 1) := by decide +kernel
theorem dX5_turnSleep_39 : decode cX5_turnSleep 39 = .ok (.goto 4, 3) := by decide +kernel
theorem dX5_turnSleep_42 : decode cX5_turnSleep 42 = .ok (.iconst 0, 1) := by decide +kernel
theorem dX5_turnSleep_43 : decode cX5_turnSleep 43 = .ok (.ireturn, 1) := by decide +kernel
theorem dX5_versionsAtRisk_0 : decode cX5_versionsAtRisk 0 = .ok (.aload_n 0, 1) := by decide +kernel
theorem dX5_versionsAtRisk_1 : decode cX5_versionsAtRisk 1 = .ok (.iload_n 1, 1) := by decide +kernel
theorem dX5_versionsAtRisk_2 : decode cX5_versionsAtRisk 2 = .ok (.invokevirtual 56, 3) := by decide +kernel
theorem dX5_versionsAtRisk_5 : decode cX5_versionsAtRisk 5 = .ok (.ifCond .eq 15, 3) := by decide +kernel
theorem dX5_versionsAtRisk_8 : decode cX5_versionsAtRisk 8 = .ok (.aload_n 0, 1) := by decide +kernel
theorem dX5_versionsAtRisk_9 : decode cX5_versionsAtRisk 9 = .ok (.getfield 11, 3) := by decide +kernel
theorem dX5_versionsAtRisk_12 : decode cX5_versionsAtRisk 12 = .ok (.iload_n 1, 1) := by decide +kernel
theorem dX5_versionsAtRisk_13 : decode cX5_versionsAtRisk 13 = .ok (.aaload, 1) := by decide +kernel
theorem dX5_versionsAtRisk_14 : decode cX5_versionsAtRisk 14 = .ok (.invokevirtual 208, 3) := by decide +kernel
theorem dX5_versionsAtRisk_17 : decode cX5_versionsAtRisk 17 = .ok (.goto 4, 3) := by decide +kernel
theorem dX5_versionsAtRisk_20 : decode cX5_versionsAtRisk 20 = .ok (.iconst (-1), 1) := by decide +kernel
theorem dX5_versionsAtRisk_21 : decode cX5_versionsAtRisk 21 = .ok (.ireturn, 1) := by decide +kernel
theorem dX6_atRisk_0 : decode cX6_atRisk 0 = .ok (.aload_n 0, 1) := by decide +kernel
theorem dX6_atRisk_1 : decode cX6_atRisk 1 = .ok (.getfield 12, 3) := by decide +kernel
theorem dX6_atRisk_4 : decode cX6_atRisk 4 = .ok (.iload_n 1, 1) := by decide +kernel
theorem dX6_atRisk_5 : decode cX6_atRisk 5 = .ok (.invokevirtual 119, 3) := by decide +kernel
theorem dX6_atRisk_8 : decode cX6_atRisk 8 = .ok (.ireturn, 1) := by decide +kernel
theorem dX6_burn_0 : decode cX6_burn 0 = .ok (.aload_n 0, 1) := by decide +kernel
theorem dX6_burn_1 : decode cX6_burn 1 = .ok (.getfield 19, 3) := by decide +kernel
theorem dX6_burn_4 : decode cX6_burn 4 = .ok (.aload_n 0, 1) := by decide +kernel
theorem dX6_burn_5 : decode cX6_burn 5 = .ok (.getfield 12, 3) := by decide +kernel
theorem dX6_burn_8 : decode cX6_burn 8 = .ok (.invokevirtual 47, 3) := by decide +kernel
theorem dX6_burn_11 : decode cX6_burn 11 = .ok (.aload_n 0, 1) := by decide +kernel
theorem dX6_burn_12 : decode cX6_burn 12 = .ok (.aload_n 0, 1) := by decide +kernel
theorem dX6_burn_13 : decode cX6_burn 13 = .ok (.getfield 12, 3) := by decide +kernel
theorem dX6_burn_16 : decode cX6_burn 16 = .ok (.iload_n 1, 1) := by decide +kernel
theorem dX6_burn_17 : decode cX6_burn 17 = .ok (.invokevirtual 68, 3) := by decide +kernel
theorem dX6_burn_20 : decode cX6_burn 20 = .ok (.invokevirtual 55, 3) := by decide +kernel
theorem dX6_burn_23 : decode cX6_burn 23 = .ok (.ireturn, 1) := by decide +kernel
theorem dX6_count_0 : decode cX6_count 0 = .ok (.iload_n 1, 1) := by decide +kernel
theorem dX6_count_1 : decode cX6_count 1 = .ok (.bipush 14, 2) := by decide +kernel
theorem dX6_count_3 : decode cX6_count 3 = .ok (.if_icmp .ne 11, 3) := by decide +kernel
theorem dX6_count_6 : decode cX6_count 6 = .ok (.aload_n 0, 1) := by decide +kernel
theorem dX6_count_7 : decode cX6_count 7 = .ok (.getfield 34, 3) := by decide +kernel
theorem dX6_count_10 : decode cX6_count 10 = .ok (.getfield 97, 3) := by decide +kernel
theorem dX6_count_13 : decode cX6_count 13 = .ok (.ireturn, 1) := by decide +kernel
theorem dX6_count_14 : decode cX6_count 14 = .ok (.iload_n 1, 1) := by decide +kernel
theorem dX6_count_15 : decode cX6_count 15 = .ok (.bipush 15, 2) := by decide +kernel
theorem dX6_count_17 : decode cX6_count 17 = .ok (.if_icmp .ne 11, 3) := by decide +kernel
theorem dX6_count_20 : decode cX6_count 20 = .ok (.aload_n 0, 1) := by decide +kernel
theorem dX6_count_21 : decode cX6_count 21 = .ok (.getfield 19, 3) := by decide +kernel
theorem dX6_count_24 : decode cX6_count 24 = .ok (.getfield 101, 3) := by decide +kernel
theorem dX6_count_27 : decode cX6_count 27 = .ok (.ireturn, 1) := by decide +kernel
theorem dX6_count_28 : decode cX6_count 28 = .ok (.aload_n 0, 1) := by decide +kernel
theorem dX6_count_29 : decode cX6_count 29 = .ok (.getfield 12, 3) := by decide +kernel
theorem dX6_count_32 : decode cX6_count 32 = .ok (.iload_n 1, 1) := by decide +kernel
theorem dX6_count_33 : decode cX6_count 33 = .ok (.invokevirtual 104, 3) := by decide +kernel
theorem dX6_count_36 : decode cX6_count 36 = .ok (.ireturn, 1) := by decide +kernel
theorem dX6_ifMerged_0 : decode cX6_ifMerged 0 = .ok (.aload_n 0, 1) := by decide +kernel
theorem dX6_ifMerged_1 : decode cX6_ifMerged 1 = .ok (.getfield 12, 3) := by decide +kernel
theorem dX6_ifMerged_4 : decode cX6_ifMerged 4 = .ok (.iload_n 1, 1) := by decide +kernel
theorem dX6_ifMerged_5 : decode cX6_ifMerged 5 = .ok (.invokevirtual 122, 3) := by decide +kernel
theorem dX6_ifMerged_8 : decode cX6_ifMerged 8 = .ok (.ireturn, 1) := by decide +kernel
theorem dX6_init_0 : decode cX6_init 0 = .ok (.aload_n 0, 1) := by decide +kernel
theorem dX6_init_1 : decode cX6_init 1 = .ok (.invokespecial 3, 3) := by decide +kernel
theorem dX6_init_4 : decode cX6_init 4 = .ok (.aload_n 0, 1) := by decide +kernel
theorem dX6_init_5 : decode cX6_init 5 = .ok (.new 9, 3) := by decide +kernel
theorem dX6_init_8 : decode cX6_init 8 = .ok (.dup, 1) := by decide +kernel
theorem dX6_init_9 : decode cX6_init 9 = .ok (.invokespecial 11, 3) := by decide +kernel
theorem dX6_init_12 : decode cX6_init 12 = .ok (.putfield 12, 3) := by decide +kernel
theorem dX6_init_15 : decode cX6_init 15 = .ok (.aload_n 0, 1) := by decide +kernel
theorem dX6_init_16 : decode cX6_init 16 = .ok (.new 16, 3) := by decide +kernel
theorem dX6_init_19 : decode cX6_init 19 = .ok (.dup, 1) := by decide +kernel
theorem dX6_init_20 : decode cX6_init 20 = .ok (.invokespecial 18, 3) := by decide +kernel
theorem dX6_init_23 : decode cX6_init 23 = .ok (.putfield 19, 3) := by decide +kernel
theorem dX6_init_26 : decode cX6_init 26 = .ok (.aload_n 0, 1) := by decide +kernel
theorem dX6_init_27 : decode cX6_init 27 = .ok (.iconst 2, 1) := by decide +kernel
theorem dX6_init_28 : decode cX6_init 28 = .ok (.anewarray 9, 3) := by decide +kernel
theorem dX6_init_31 : decode cX6_init 31 = .ok (.putfield 23, 3) := by decide +kernel
theorem dX6_init_34 : decode cX6_init 34 = .ok (.iconst 0, 1) := by decide +kernel
theorem dX6_init_35 : decode cX6_init 35 = .ok (.istore_n 1, 1) := by decide +kernel
theorem dX6_init_36 : decode cX6_init 36 = .ok (.iload_n 1, 1) := by decide +kernel
theorem dX6_init_37 : decode cX6_init 37 = .ok (.iconst 2, 1) := by decide +kernel
theorem dX6_init_38 : decode cX6_init 38 = .ok (.if_icmp .ge 22, 3) := by decide +kernel
theorem dX6_init_41 : decode cX6_init 41 = .ok (.aload_n 0, 1) := by decide +kernel
theorem dX6_init_42 : decode cX6_init 42 = .ok (.getfield 23, 3) := by decide +kernel
theorem dX6_init_45 : decode cX6_init 45 = .ok (.iload_n 1, 1) := by decide +kernel
theorem dX6_init_46 : decode cX6_init 46 = .ok (.new 9, 3) := by decide +kernel
theorem dX6_init_49 : decode cX6_init 49 = .ok (.dup, 1) := by decide +kernel
theorem dX6_init_50 : decode cX6_init 50 = .ok (.invokespecial 11, 3) := by decide +kernel
theorem dX6_init_53 : decode cX6_init 53 = .ok (.aastore, 1) := by decide +kernel
theorem dX6_init_54 : decode cX6_init 54 = .ok (.iinc 1 1, 3) := by decide +kernel
theorem dX6_init_57 : decode cX6_init 57 = .ok (.goto (-21), 3) := by decide +kernel
theorem dX6_init_60 : decode cX6_init 60 = .ok (.aload_n 0, 1) := by decide +kernel
theorem dX6_init_61 : decode cX6_init 61 = .ok (.iconst 2, 1) := by decide +kernel
theorem dX6_init_62 : decode cX6_init 62 = .ok (.newarray .boolean, 2) := by decide +kernel
theorem dX6_init_64 : decode cX6_init 64 = .ok (.putfield 27, 3) := by decide +kernel
theorem dX6_init_67 : decode cX6_init 67 = .ok (.aload_n 0, 1) := by decide +kernel
theorem dX6_init_68 : decode cX6_init 68 = .ok (.new 31, 3) := by decide +kernel
theorem dX6_init_71 : decode cX6_init 71 = .ok (.dup, 1) := by decide +kernel
theorem dX6_init_72 : decode cX6_init 72 = .ok (.invokespecial 33, 3) := by decide +kernel
theorem dX6_init_75 : decode cX6_init 75 = .ok (.putfield 34, 3) := by decide +kernel
theorem dX6_init_78 : decode cX6_init 78 = .ok (.aload_n 0, 1) := by decide +kernel
theorem dX6_init_79 : decode cX6_init 79 = .ok (.new 38, 3) := by decide +kernel
theorem dX6_init_82 : decode cX6_init 82 = .ok (.dup, 1) := by decide +kernel
theorem dX6_init_83 : decode cX6_init 83 = .ok (.aload_n 0, 1) := by decide +kernel
theorem dX6_init_84 : decode cX6_init 84 = .ok (.getfield 34, 3) := by decide +kernel
theorem dX6_init_87 : decode cX6_init 87 = .ok (.invokespecial 40, 3) := by decide +kernel
theorem dX6_init_90 : decode cX6_init 90 = .ok (.putfield 43, 3) := by decide +kernel
theorem dX6_init_93 : decode cX6_init 93 = .ok (.return_, 1) := by decide +kernel
theorem dX6_isPart_0 : decode cX6_isPart 0 = .ok (.iload_n 0, 1) := by decide +kernel
theorem dX6_isPart_1 : decode cX6_isPart 1 = .ok (.ifCond .lt 14, 3) := by decide +kernel
theorem dX6_isPart_4 : decode cX6_isPart 4 = .ok (.iload_n 0, 1) := by decide +kernel
theorem dX6_isPart_5 : decode cX6_isPart 5 = .ok (.sipush 256, 3) := by decide +kernel
theorem dX6_isPart_8 : decode cX6_isPart 8 = .ok (.if_icmp .ge 7, 3) := by decide +kernel
theorem dX6_isPart_11 : decode cX6_isPart 11 = .ok (.iconst 1, 1) := by decide +kernel
theorem dX6_isPart_12 : decode cX6_isPart 12 = .ok (.goto 4, 3) := by decide +kernel
theorem dX6_isPart_15 : decode cX6_isPart 15 = .ok (.iconst 0, 1) := by decide +kernel
theorem dX6_isPart_16 : decode cX6_isPart 16 = .ok (.ireturn, 1) := by decide +kernel
theorem dX6_isStore_0 : decode cX6_isStore 0 = .ok (.iload_n 0, 1) := by decide +kernel
theorem dX6_isStore_1 : decode cX6_isStore 1 = .ok (.ifCond .lt 12, 3) := by decide +kernel
theorem dX6_isStore_4 : decode cX6_isStore 4 = .ok (.iload_n 0, 1) := by decide +kernel
theorem dX6_isStore_5 : decode cX6_isStore 5 = .ok (.iconst 2, 1) := by decide +kernel
theorem dX6_isStore_6 : decode cX6_isStore 6 = .ok (.if_icmp .ge 7, 3) := by decide +kernel
theorem dX6_isStore_9 : decode cX6_isStore 9 = .ok (.iconst 1, 1) := by decide +kernel
theorem dX6_isStore_10 : decode cX6_isStore 10 = .ok (.goto 4, 3) := by decide +kernel
theorem dX6_isStore_13 : decode cX6_isStore 13 = .ok (.iconst 0, 1) := by decide +kernel
theorem dX6_isStore_14 : decode cX6_isStore 14 = .ok (.ireturn, 1) := by decide +kernel
theorem dX6_isTag_0 : decode cX6_isTag 0 = .ok (.iload_n 0, 1) := by decide +kernel
theorem dX6_isTag_1 : decode cX6_isTag 1 = .ok (.ifCond .lt 14, 3) := by decide +kernel
theorem dX6_isTag_4 : decode cX6_isTag 4 = .ok (.iload_n 0, 1) := by decide +kernel
theorem dX6_isTag_5 : decode cX6_isTag 5 = .ok (.sipush 257, 3) := by decide +kernel
theorem dX6_isTag_8 : decode cX6_isTag 8 = .ok (.if_icmp .ge 7, 3) := by decide +kernel
theorem dX6_isTag_11 : decode cX6_isTag 11 = .ok (.iconst 1, 1) := by decide +kernel
theorem dX6_isTag_12 : decode cX6_isTag 12 = .ok (.goto 4, 3) := by decide +kernel
theorem dX6_isTag_15 : decode cX6_isTag 15 = .ok (.iconst 0, 1) := by decide +kernel
theorem dX6_isTag_16 : decode cX6_isTag 16 = .ok (.ireturn, 1) := by decide +kernel
theorem dX6_keep_0 : decode cX6_keep 0 = .ok (.aload_n 0, 1) := by decide +kernel
theorem dX6_keep_1 : decode cX6_keep 1 = .ok (.getfield 19, 3) := by decide +kernel
theorem dX6_keep_4 : decode cX6_keep 4 = .ok (.aload_n 0, 1) := by decide +kernel
theorem dX6_keep_5 : decode cX6_keep 5 = .ok (.getfield 12, 3) := by decide +kernel
theorem dX6_keep_8 : decode cX6_keep 8 = .ok (.invokevirtual 47, 3) := by decide +kernel
theorem dX6_keep_11 : decode cX6_keep 11 = .ok (.aload_n 0, 1) := by decide +kernel
theorem dX6_keep_12 : decode cX6_keep 12 = .ok (.aload_n 0, 1) := by decide +kernel
theorem dX6_keep_13 : decode cX6_keep 13 = .ok (.getfield 12, 3) := by decide +kernel
theorem dX6_keep_16 : decode cX6_keep 16 = .ok (.iload_n 1, 1) := by decide +kernel
theorem dX6_keep_17 : decode cX6_keep 17 = .ok (.invokevirtual 62, 3) := by decide +kernel
theorem dX6_keep_20 : decode cX6_keep 20 = .ok (.invokevirtual 55, 3) := by decide +kernel
theorem dX6_keep_23 : decode cX6_keep 23 = .ok (.ireturn, 1) := by decide +kernel
theorem dX6_lie_0 : decode cX6_lie 0 = .ok (.aload_n 0, 1) := by decide +kernel
theorem dX6_lie_1 : decode cX6_lie 1 = .ok (.getfield 19, 3) := by decide +kernel
theorem dX6_lie_4 : decode cX6_lie 4 = .ok (.aload_n 0, 1) := by decide +kernel
theorem dX6_lie_5 : decode cX6_lie 5 = .ok (.getfield 12, 3) := by decide +kernel
theorem dX6_lie_8 : decode cX6_lie 8 = .ok (.invokevirtual 47, 3) := by decide +kernel
theorem dX6_lie_11 : decode cX6_lie 11 = .ok (.aload_n 0, 1) := by decide +kernel
theorem dX6_lie_12 : decode cX6_lie 12 = .ok (.aload_n 0, 1) := by decide +kernel
theorem dX6_lie_13 : decode cX6_lie 13 = .ok (.getfield 12, 3) := by decide +kernel
theorem dX6_lie_16 : decode cX6_lie 16 = .ok (.iload_n 1, 1) := by decide +kernel
theorem dX6_lie_17 : decode cX6_lie 17 = .ok (.iload_n 2, 1) := by decide +kernel
theorem dX6_lie_18 : decode cX6_lie 18 = .ok (.iload_n 3, 1) := by decide +kernel
theorem dX6_lie_19 : decode cX6_lie 19 = .ok (.iload 4, 2) := by decide +kernel
theorem dX6_lie_21 : decode cX6_lie 21 = .ok (.invokevirtual 74, 3) := by decide +kernel
theorem dX6_lie_24 : decode cX6_lie 24 = .ok (.invokevirtual 55, 3) := by decide +kernel
theorem dX6_lie_27 : decode cX6_lie 27 = .ok (.ireturn, 1) := by decide +kernel
theorem dX6_merge_0 : decode cX6_merge 0 = .ok (.aload_n 0, 1) := by decide +kernel
theorem dX6_merge_1 : decode cX6_merge 1 = .ok (.getfield 19, 3) := by decide +kernel
theorem dX6_merge_4 : decode cX6_merge 4 = .ok (.aload_n 0, 1) := by decide +kernel
theorem dX6_merge_5 : decode cX6_merge 5 = .ok (.getfield 12, 3) := by decide +kernel
theorem dX6_merge_8 : decode cX6_merge 8 = .ok (.invokevirtual 47, 3) := by decide +kernel
theorem dX6_merge_11 : decode cX6_merge 11 = .ok (.aload_n 0, 1) := by decide +kernel
theorem dX6_merge_12 : decode cX6_merge 12 = .ok (.aload_n 0, 1) := by decide +kernel
theorem dX6_merge_13 : decode cX6_merge 13 = .ok (.getfield 12, 3) := by decide +kernel
theorem dX6_merge_16 : decode cX6_merge 16 = .ok (.iload_n 1, 1) := by decide +kernel
theorem dX6_merge_17 : decode cX6_merge 17 = .ok (.invokevirtual 78, 3) := by decide +kernel
theorem dX6_merge_20 : decode cX6_merge 20 = .ok (.invokevirtual 55, 3) := by decide +kernel
theorem dX6_merge_23 : decode cX6_merge 23 = .ok (.ireturn, 1) := by decide +kernel
theorem dX6_needed_0 : decode cX6_needed 0 = .ok (.aload_n 0, 1) := by decide +kernel
theorem dX6_needed_1 : decode cX6_needed 1 = .ok (.getfield 12, 3) := by decide +kernel
theorem dX6_needed_4 : decode cX6_needed 4 = .ok (.iload_n 1, 1) := by decide +kernel
theorem dX6_needed_5 : decode cX6_needed 5 = .ok (.invokevirtual 116, 3) := by decide +kernel
theorem dX6_needed_8 : decode cX6_needed 8 = .ok (.ireturn, 1) := by decide +kernel
theorem dX6_of_0 : decode cX6_of 0 = .ok (.aload_n 0, 1) := by decide +kernel
theorem dX6_of_1 : decode cX6_of 1 = .ok (.getfield 12, 3) := by decide +kernel
theorem dX6_of_4 : decode cX6_of 4 = .ok (.iload_n 1, 1) := by decide +kernel
theorem dX6_of_5 : decode cX6_of 5 = .ok (.iload_n 2, 1) := by decide +kernel
theorem dX6_of_6 : decode cX6_of 6 = .ok (.iload_n 3, 1) := by decide +kernel
theorem dX6_of_7 : decode cX6_of 7 = .ok (.invokevirtual 88, 3) := by decide +kernel
theorem dX6_of_10 : decode cX6_of 10 = .ok (.ireturn, 1) := by decide +kernel
theorem dX6_ofSecret_0 : decode cX6_ofSecret 0 = .ok (.aload_n 0, 1) := by decide +kernel
theorem dX6_ofSecret_1 : decode cX6_ofSecret 1 = .ok (.getfield 12, 3) := by decide +kernel
theorem dX6_ofSecret_4 : decode cX6_ofSecret 4 = .ok (.iload_n 1, 1) := by decide +kernel
theorem dX6_ofSecret_5 : decode cX6_ofSecret 5 = .ok (.iload_n 2, 1) := by decide +kernel
theorem dX6_ofSecret_6 : decode cX6_ofSecret 6 = .ok (.invokevirtual 91, 3) := by decide +kernel
theorem dX6_ofSecret_9 : decode cX6_ofSecret 9 = .ok (.ireturn, 1) := by decide +kernel
theorem dX6_old_0 : decode cX6_old 0 = .ok (.aload_n 0, 1) := by decide +kernel
theorem dX6_old_1 : decode cX6_old 1 = .ok (.getfield 12, 3) := by decide +kernel
theorem dX6_old_4 : decode cX6_old 4 = .ok (.iload_n 1, 1) := by decide +kernel
theorem dX6_old_5 : decode cX6_old 5 = .ok (.iload_n 2, 1) := by decide +kernel
theorem dX6_old_6 : decode cX6_old 6 = .ok (.iload_n 3, 1) := by decide +kernel
theorem dX6_old_7 : decode cX6_old 7 = .ok (.invokevirtual 94, 3) := by decide +kernel
theorem dX6_old_10 : decode cX6_old 10 = .ok (.ireturn, 1) := by decide +kernel
theorem dX6_otherwise_0 : decode cX6_otherwise 0 = .ok (.aload_n 0, 1) := by decide +kernel
theorem dX6_otherwise_1 : decode cX6_otherwise 1 = .ok (.getfield 12, 3) := by decide +kernel
theorem dX6_otherwise_4 : decode cX6_otherwise 4 = .ok (.iload_n 1, 1) := by decide +kernel
theorem dX6_otherwise_5 : decode cX6_otherwise 5 = .ok (.iload_n 2, 1) := by decide +kernel
theorem dX6_otherwise_6 : decode cX6_otherwise 6 = .ok (.iload_n 3, 1) := by decide +kernel
theorem dX6_otherwise_7 : decode cX6_otherwise 7 = .ok (.invokevirtual 107, 3) := by decide +kernel
theorem dX6_otherwise_10 : decode cX6_otherwise 10 = .ok (.ireturn, 1) := by decide +kernel
theorem dX6_pass_0 : decode cX6_pass 0 = .ok (.aload_n 0, 1) := by decide +kernel
theorem dX6_pass_1 : decode cX6_pass 1 = .ok (.getfield 19, 3) := by decide +kernel
theorem dX6_pass_4 : decode cX6_pass 4 = .ok (.aload_n 0, 1) := by decide +kernel
theorem dX6_pass_5 : decode cX6_pass 5 = .ok (.getfield 12, 3) := by decide +kernel
theorem dX6_pass_8 : decode cX6_pass 8 = .ok (.invokevirtual 47, 3) := by decide +kernel
theorem dX6_pass_11 : decode cX6_pass 11 = .ok (.aload_n 0, 1) := by decide +kernel
theorem dX6_pass_12 : decode cX6_pass 12 = .ok (.aload_n 0, 1) := by decide +kernel
theorem dX6_pass_13 : decode cX6_pass 13 = .ok (.getfield 12, 3) := by decide +kernel
theorem dX6_pass_16 : decode cX6_pass 16 = .ok (.iload_n 1, 1) := by decide +kernel
theorem dX6_pass_17 : decode cX6_pass 17 = .ok (.invokevirtual 85, 3) := by decide +kernel
theorem dX6_pass_20 : decode cX6_pass 20 = .ok (.invokevirtual 55, 3) := by decide +kernel
theorem dX6_pass_23 : decode cX6_pass 23 = .ok (.ireturn, 1) := by decide +kernel
theorem dX6_passes_0 : decode cX6_passes 0 = .ok (.aload_n 0, 1) := by decide +kernel
theorem dX6_passes_1 : decode cX6_passes 1 = .ok (.getfield 12, 3) := by decide +kernel
theorem dX6_passes_4 : decode cX6_passes 4 = .ok (.iload_n 1, 1) := by decide +kernel
theorem dX6_passes_5 : decode cX6_passes 5 = .ok (.iload_n 2, 1) := by decide +kernel
theorem dX6_passes_6 : decode cX6_passes 6 = .ok (.iload_n 3, 1) := by decide +kernel
theorem dX6_passes_7 : decode cX6_passes 7 = .ok (.invokevirtual 113, 3) := by decide +kernel
theorem dX6_passes_10 : decode cX6_passes 10 = .ok (.ireturn, 1) := by decide +kernel
theorem dX6_passing_0 : decode cX6_passing 0 = .ok (.aload_n 0, 1) := by decide +kernel
theorem dX6_passing_1 : decode cX6_passing 1 = .ok (.getfield 12, 3) := by decide +kernel
theorem dX6_passing_4 : decode cX6_passing 4 = .ok (.iload_n 1, 1) := by decide +kernel
theorem dX6_passing_5 : decode cX6_passing 5 = .ok (.iload_n 2, 1) := by decide +kernel
theorem dX6_passing_6 : decode cX6_passing 6 = .ok (.iload_n 3, 1) := by decide +kernel
theorem dX6_passing_7 : decode cX6_passing 7 = .ok (.invokevirtual 110, 3) := by decide +kernel
theorem dX6_passing_10 : decode cX6_passing 10 = .ok (.ireturn, 1) := by decide +kernel
theorem dX6_recorded_0 : decode cX6_recorded 0 = .ok (.iload_n 1, 1) := by decide +kernel
theorem dX6_recorded_1 : decode cX6_recorded 1 = .ok (.ifCond .lt 10, 3) := by decide +kernel
theorem dX6_recorded_4 : decode cX6_recorded 4 = .ok (.aload_n 0, 1) := by decide +kernel
theorem dX6_recorded_5 : decode cX6_recorded 5 = .ok (.getfield 19, 3) := by decide +kernel
theorem dX6_recorded_8 : decode cX6_recorded 8 = .ok (.invokevirtual 160, 3) := by decide +kernel
theorem dX6_recorded_11 : decode cX6_recorded 11 = .ok (.iload_n 1, 1) := by decide +kernel
theorem dX6_recorded_12 : decode cX6_recorded 12 = .ok (.ireturn, 1) := by decide +kernel
theorem dX6_refresh_0 : decode cX6_refresh 0 = .ok (.aload_n 0, 1) := by decide +kernel
theorem dX6_refresh_1 : decode cX6_refresh 1 = .ok (.getfield 19, 3) := by decide +kernel
theorem dX6_refresh_4 : decode cX6_refresh 4 = .ok (.aload_n 0, 1) := by decide +kernel
theorem dX6_refresh_5 : decode cX6_refresh 5 = .ok (.getfield 12, 3) := by decide +kernel
theorem dX6_refresh_8 : decode cX6_refresh 8 = .ok (.invokevirtual 47, 3) := by decide +kernel
theorem dX6_refresh_11 : decode cX6_refresh 11 = .ok (.aload_n 0, 1) := by decide +kernel
theorem dX6_refresh_12 : decode cX6_refresh 12 = .ok (.aload_n 0, 1) := by decide +kernel
theorem dX6_refresh_13 : decode cX6_refresh 13 = .ok (.getfield 12, 3) := by decide +kernel
theorem dX6_refresh_16 : decode cX6_refresh 16 = .ok (.iload_n 1, 1) := by decide +kernel
theorem dX6_refresh_17 : decode cX6_refresh 17 = .ok (.invokevirtual 65, 3) := by decide +kernel
theorem dX6_refresh_20 : decode cX6_refresh 20 = .ok (.invokevirtual 55, 3) := by decide +kernel
theorem dX6_refresh_23 : decode cX6_refresh 23 = .ok (.ireturn, 1) := by decide +kernel
theorem dX6_seed_0 : decode cX6_seed 0 = .ok (.aload_n 0, 1) := by decide +kernel
theorem dX6_seed_1 : decode cX6_seed 1 = .ok (.getfield 19, 3) := by decide +kernel
theorem dX6_seed_4 : decode cX6_seed 4 = .ok (.aload_n 0, 1) := by decide +kernel
theorem dX6_seed_5 : decode cX6_seed 5 = .ok (.getfield 12, 3) := by decide +kernel
theorem dX6_seed_8 : decode cX6_seed 8 = .ok (.invokevirtual 47, 3) := by decide +kernel
theorem dX6_seed_11 : decode cX6_seed 11 = .ok (.aload_n 0, 1) := by decide +kernel
theorem dX6_seed_12 : decode cX6_seed 12 = .ok (.aload_n 0, 1) := by decide +kernel
theorem dX6_seed_13 : decode cX6_seed 13 = .ok (.getfield 12, 3) := by decide +kernel
theorem dX6_seed_16 : decode cX6_seed 16 = .ok (.iload_n 1, 1) := by decide +kernel
theorem dX6_seed_17 : decode cX6_seed 17 = .ok (.invokevirtual 59, 3) := by decide +kernel
theorem dX6_seed_20 : decode cX6_seed 20 = .ok (.invokevirtual 55, 3) := by decide +kernel
theorem dX6_seed_23 : decode cX6_seed 23 = .ok (.ireturn, 1) := by decide +kernel
theorem dX6_set_0 : decode cX6_set 0 = .ok (.aload_n 0, 1) := by decide +kernel
theorem dX6_set_1 : decode cX6_set 1 = .ok (.getfield 19, 3) := by decide +kernel
theorem dX6_set_4 : decode cX6_set 4 = .ok (.aload_n 0, 1) := by decide +kernel
theorem dX6_set_5 : decode cX6_set 5 = .ok (.getfield 12, 3) := by decide +kernel
theorem dX6_set_8 : decode cX6_set 8 = .ok (.invokevirtual 47, 3) := by decide +kernel
theorem dX6_set_11 : decode cX6_set 11 = .ok (.aload_n 0, 1) := by decide +kernel
theorem dX6_set_12 : decode cX6_set 12 = .ok (.aload_n 0, 1) := by decide +kernel
theorem dX6_set_13 : decode cX6_set 13 = .ok (.getfield 12, 3) := by decide +kernel
theorem dX6_set_16 : decode cX6_set 16 = .ok (.iload_n 1, 1) := by decide +kernel
theorem dX6_set_17 : decode cX6_set 17 = .ok (.iload_n 2, 1) := by decide +kernel
theorem dX6_set_18 : decode cX6_set 18 = .ok (.invokevirtual 51, 3) := by decide +kernel
theorem dX6_set_21 : decode cX6_set 21 = .ok (.invokevirtual 55, 3) := by decide +kernel
theorem dX6_set_24 : decode cX6_set 24 = .ok (.ireturn, 1) := by decide +kernel
theorem dX6_sleep_0 : decode cX6_sleep 0 = .ok (.aload_n 0, 1) := by decide +kernel
theorem dX6_sleep_1 : decode cX6_sleep 1 = .ok (.getfield 19, 3) := by decide +kernel
theorem dX6_sleep_4 : decode cX6_sleep 4 = .ok (.aload_n 0, 1) := by decide +kernel
theorem dX6_sleep_5 : decode cX6_sleep 5 = .ok (.getfield 12, 3) := by decide +kernel
theorem dX6_sleep_8 : decode cX6_sleep 8 = .ok (.invokevirtual 47, 3) := by decide +kernel
theorem dX6_sleep_11 : decode cX6_sleep 11 = .ok (.aload_n 0, 1) := by decide +kernel
theorem dX6_sleep_12 : decode cX6_sleep 12 = .ok (.aload_n 0, 1) := by decide +kernel
theorem dX6_sleep_13 : decode cX6_sleep 13 = .ok (.getfield 12, 3) := by decide +kernel
theorem dX6_sleep_16 : decode cX6_sleep 16 = .ok (.iload_n 1, 1) := by decide +kernel
theorem dX6_sleep_17 : decode cX6_sleep 17 = .ok (.invokevirtual 71, 3) := by decide +kernel
theorem dX6_sleep_20 : decode cX6_sleep 20 = .ok (.invokevirtual 55, 3) := by decide +kernel
theorem dX6_sleep_23 : decode cX6_sleep 23 = .ok (.ireturn, 1) := by decide +kernel
theorem dX6_steal_0 : decode cX6_steal 0 = .ok (.aload_n 0, 1) := by decide +kernel
theorem dX6_steal_1 : decode cX6_steal 1 = .ok (.getfield 19, 3) := by decide +kernel
theorem dX6_steal_4 : decode cX6_steal 4 = .ok (.aload_n 0, 1) := by decide +kernel
theorem dX6_steal_5 : decode cX6_steal 5 = .ok (.getfield 12, 3) := by decide +kernel
theorem dX6_steal_8 : decode cX6_steal 8 = .ok (.invokevirtual 47, 3) := by decide +kernel
theorem dX6_steal_11 : decode cX6_steal 11 = .ok (.aload_n 0, 1) := by decide +kernel
theorem dX6_steal_12 : decode cX6_steal 12 = .ok (.aload_n 0, 1) := by decide +kernel
theorem dX6_steal_13 : decode cX6_steal 13 = .ok (.getfield 12, 3) := by decide +kernel
theorem dX6_steal_16 : decode cX6_steal 16 = .ok (.iload_n 1, 1) := by decide +kernel
theorem dX6_steal_17 : decode cX6_steal 17 = .ok (.iload_n 2, 1) := by decide +kernel
theorem dX6_steal_18 : decode cX6_steal 18 = .ok (.iload_n 3, 1) := by decide +kernel
theorem dX6_steal_19 : decode cX6_steal 19 = .ok (.invokevirtual 81, 3) := by decide +kernel
theorem dX6_steal_22 : decode cX6_steal 22 = .ok (.invokevirtual 55, 3) := by decide +kernel
theorem dX6_steal_25 : decode cX6_steal 25 = .ok (.ireturn, 1) := by decide +kernel
theorem dX6_undo_0 : decode cX6_undo 0 = .ok (.aload_n 0, 1) := by decide +kernel
theorem dX6_undo_1 : decode cX6_undo 1 = .ok (.getfield 19, 3) := by decide +kernel
theorem dX6_undo_4 : decode cX6_undo 4 = .ok (.aload_n 0, 1) := by decide +kernel
theorem dX6_undo_5 : decode cX6_undo 5 = .ok (.getfield 12, 3) := by decide +kernel
theorem dX6_undo_8 : decode cX6_undo 8 = .ok (.invokevirtual 146, 3) := by decide +kernel
theorem dX6_undo_11 : decode cX6_undo 11 = .ok (.ifCond .eq 13, 3) := by decide +kernel
theorem dX6_undo_14 : decode cX6_undo 14 = .ok (.aload_n 0, 1) := by decide +kernel
theorem dX6_undo_15 : decode cX6_undo 15 = .ok (.getfield 19, 3) := by decide +kernel
theorem dX6_undo_18 : decode cX6_undo 18 = .ok (.getfield 101, 3) := by decide +kernel
theorem dX6_undo_21 : decode cX6_undo 21 = .ok (.goto 5, 3) := by decide +kernel
theorem dX6_undo_24 : decode cX6_undo 24 = .ok (.bipush (-5), 2) := by decide +kernel
theorem dX6_undo_26 : decode cX6_undo 26 = .ok (.ireturn, 1) := by decide +kernel
