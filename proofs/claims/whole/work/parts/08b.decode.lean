theorem dX7_areAwake_0 : decode cX7_areAwake 0 = .ok (.aload_n 0, 1) := by decide +kernel
theorem dX7_areAwake_1 : decode cX7_areAwake 1 = .ok (.getfield 7, 3) := by decide +kernel
theorem dX7_areAwake_4 : decode cX7_areAwake 4 = .ok (.bipush 6, 2) := by decide +kernel
theorem dX7_areAwake_6 : decode cX7_areAwake 6 = .ok (.iaload, 1) := by decide +kernel
theorem dX7_areAwake_7 : decode cX7_areAwake 7 = .ok (.aload_n 0, 1) := by decide +kernel
theorem dX7_areAwake_8 : decode cX7_areAwake 8 = .ok (.getfield 7, 3) := by decide +kernel
theorem dX7_areAwake_11 : decode cX7_areAwake 11 = .ok (.bipush 7, 2) := by decide +kernel
theorem dX7_areAwake_13 : decode cX7_areAwake 13 = .ok (.iaload, 1) := by decide +kernel
theorem dX7_areAwake_14 : decode cX7_areAwake 14 = .ok (.iadd, 1) := by decide +kernel
theorem dX7_areAwake_15 : decode cX7_areAwake 15 = .ok (.ifCond .ne 7, 3) := by decide +kernel
theorem dX7_areAwake_18 : decode cX7_areAwake 18 = .ok (.iconst 1, 1) := by decide +kernel
theorem dX7_areAwake_19 : decode cX7_areAwake 19 = .ok (.goto 4, 3) := by decide +kernel
theorem dX7_areAwake_22 : decode cX7_areAwake 22 = .ok (.iconst 0, 1) := by decide +kernel
theorem dX7_areAwake_23 : decode cX7_areAwake 23 = .ok (.ireturn, 1) := by decide +kernel
theorem dX7_at_0 : decode cX7_at 0 = .ok (.iload_n 0, 1) := by decide +kernel
theorem dX7_at_1 : decode cX7_at 1 = .ok (.bipush 15, 2) := by decide +kernel
theorem dX7_at_3 : decode cX7_at 3 = .ok (.iconst 4, 1) := by decide +kernel
theorem dX7_at_4 : decode cX7_at 4 = .ok (.iload_n 1, 1) := by decide +kernel
theorem dX7_at_5 : decode cX7_at 5 = .ok (.imul, 1) := by decide +kernel
theorem dX7_at_6 : decode cX7_at 6 = .ok (.iadd, 1) := by decide +kernel
theorem dX7_at_7 : decode cX7_at 7 = .ok (.iload_n 2, 1) := by decide +kernel
theorem dX7_at_8 : decode cX7_at 8 = .ok (.iadd, 1) := by decide +kernel
theorem dX7_at_9 : decode cX7_at 9 = .ok (.invokestatic 36, 3) := by decide +kernel
theorem dX7_at_12 : decode cX7_at 12 = .ok (.ireturn, 1) := by decide +kernel
theorem dX7_atRisk_0 : decode cX7_atRisk 0 = .ok (.aload_n 0, 1) := by decide +kernel
theorem dX7_atRisk_1 : decode cX7_atRisk 1 = .ok (.iload_n 1, 1) := by decide +kernel
theorem dX7_atRisk_2 : decode cX7_atRisk 2 = .ok (.invokevirtual 87, 3) := by decide +kernel
theorem dX7_atRisk_5 : decode cX7_atRisk 5 = .ok (.ifCond .eq 11, 3) := by decide +kernel
theorem dX7_atRisk_8 : decode cX7_atRisk 8 = .ok (.aload_n 0, 1) := by decide +kernel
theorem dX7_atRisk_9 : decode cX7_atRisk 9 = .ok (.iload_n 1, 1) := by decide +kernel
theorem dX7_atRisk_10 : decode cX7_atRisk 10 = .ok (.invokevirtual 154, 3) := by decide +kernel
theorem dX7_atRisk_13 : decode cX7_atRisk 13 = .ok (.goto 4, 3) := by decide +kernel
theorem dX7_atRisk_16 : decode cX7_atRisk 16 = .ok (.iconst (-1), 1) := by decide +kernel
theorem dX7_atRisk_17 : decode cX7_atRisk 17 = .ok (.ireturn, 1) := by decide +kernel
theorem dX7_beat_0 : decode cX7_beat 0 = .ok (.iconst 0, 1) := by decide +kernel
theorem dX7_beat_1 : decode cX7_beat 1 = .ok (.istore_n 1, 1) := by decide +kernel
theorem dX7_beat_2 : decode cX7_beat 2 = .ok (.iload_n 1, 1) := by decide +kernel
theorem dX7_beat_3 : decode cX7_beat 3 = .ok (.aload_n 0, 1) := by decide +kernel
theorem dX7_beat_4 : decode cX7_beat 4 = .ok (.getfield 7, 3) := by decide +kernel
theorem dX7_beat_7 : decode cX7_beat 7 = .ok (.iconst 5, 1) := by decide +kernel
theorem dX7_beat_8 : decode cX7_beat 8 = .ok (.iaload, 1) := by decide +kernel
theorem dX7_beat_9 : decode cX7_beat 9 = .ok (.if_icmp .ge 40, 3) := by decide +kernel
theorem dX7_beat_12 : decode cX7_beat 12 = .ok (.aload_n 0, 1) := by decide +kernel
theorem dX7_beat_13 : decode cX7_beat 13 = .ok (.getfield 7, 3) := by decide +kernel
theorem dX7_beat_16 : decode cX7_beat 16 = .ok (.iload_n 1, 1) := by decide +kernel
theorem dX7_beat_17 : decode cX7_beat 17 = .ok (.iconst 2, 1) := by decide +kernel
theorem dX7_beat_18 : decode cX7_beat 18 = .ok (.invokestatic 36, 3) := by decide +kernel
theorem dX7_beat_21 : decode cX7_beat 21 = .ok (.dup2, 1) := by decide +kernel
theorem dX7_beat_22 : decode cX7_beat 22 = .ok (.iaload, 1) := by decide +kernel
theorem dX7_beat_23 : decode cX7_beat 23 = .ok (.aload_n 0, 1) := by decide +kernel
theorem dX7_beat_24 : decode cX7_beat 24 = .ok (.getfield 7, 3) := by decide +kernel
theorem dX7_beat_27 : decode cX7_beat 27 = .ok (.iload_n 1, 1) := by decide +kernel
theorem dX7_beat_28 : decode cX7_beat 28 = .ok (.iconst 2, 1) := by decide +kernel
theorem dX7_beat_29 : decode cX7_beat 29 = .ok (.invokestatic 36, 3) := by decide +kernel
theorem dX7_beat_32 : decode cX7_beat 32 = .ok (.iaload, 1) := by decide +kernel
theorem dX7_beat_33 : decode cX7_beat 33 = .ok (.ifCond .le 7, 3) := by decide +kernel
theorem dX7_beat_36 : decode cX7_beat 36 = .ok (.iconst 1, 1) := by decide +kernel
theorem dX7_beat_37 : decode cX7_beat 37 = .ok (.goto 4, 3) := by decide +kernel
theorem dX7_beat_40 : decode cX7_beat 40 = .ok (.iconst 0, 1) := by decide +kernel
theorem dX7_beat_41 : decode cX7_beat 41 = .ok (.isub, 1) := by decide +kernel
theorem dX7_beat_42 : decode cX7_beat 42 = .ok (.iastore, 1) := by decide +kernel
theorem dX7_beat_43 : decode cX7_beat 43 = .ok (.iinc 1 1, 3) := by decide +kernel
theorem dX7_beat_46 : decode cX7_beat 46 = .ok (.goto (-44), 3) := by decide +kernel
theorem dX7_beat_49 : decode cX7_beat 49 = .ok (.aload_n 0, 1) := by decide +kernel
theorem dX7_beat_50 : decode cX7_beat 50 = .ok (.getfield 7, 3) := by decide +kernel
theorem dX7_beat_53 : decode cX7_beat 53 = .ok (.iconst 4, 1) := by decide +kernel
theorem dX7_beat_54 : decode cX7_beat 54 = .ok (.dup2, 1) := by decide +kernel
theorem dX7_beat_55 : decode cX7_beat 55 = .ok (.iaload, 1) := by decide +kernel
theorem dX7_beat_56 : decode cX7_beat 56 = .ok (.iconst 1, 1) := by decide +kernel
theorem dX7_beat_57 : decode cX7_beat 57 = .ok (.iadd, 1) := by decide +kernel
theorem dX7_beat_58 : decode cX7_beat 58 = .ok (.iastore, 1) := by decide +kernel
theorem dX7_beat_59 : decode cX7_beat 59 = .ok (.iconst 0, 1) := by decide +kernel
theorem dX7_beat_60 : decode cX7_beat 60 = .ok (.istore_n 1, 1) := by decide +kernel
theorem dX7_beat_61 : decode cX7_beat 61 = .ok (.iload_n 1, 1) := by decide +kernel
theorem dX7_beat_62 : decode cX7_beat 62 = .ok (.aload_n 0, 1) := by decide +kernel
theorem dX7_beat_63 : decode cX7_beat 63 = .ok (.getfield 7, 3) := by decide +kernel
theorem dX7_beat_66 : decode cX7_beat 66 = .ok (.iconst 5, 1) := by decide +kernel
theorem dX7_beat_67 : decode cX7_beat 67 = .ok (.iaload, 1) := by decide +kernel
theorem dX7_beat_68 : decode cX7_beat 68 = .ok (.if_icmp .ge 47, 3) := by decide +kernel
theorem dX7_beat_71 : decode cX7_beat 71 = .ok (.aload_n 0, 1) := by decide +kernel
theorem dX7_beat_72 : decode cX7_beat 72 = .ok (.getfield 7, 3) := by decide +kernel
theorem dX7_beat_75 : decode cX7_beat 75 = .ok (.iconst 1, 1) := by decide +kernel
theorem dX7_beat_76 : decode cX7_beat 76 = .ok (.iaload, 1) := by decide +kernel
theorem dX7_beat_77 : decode cX7_beat 77 = .ok (.ifCond .le 38, 3) := by decide +kernel
theorem dX7_beat_80 : decode cX7_beat 80 = .ok (.aload_n 0, 1) := by decide +kernel
theorem dX7_beat_81 : decode cX7_beat 81 = .ok (.getfield 7, 3) := by decide +kernel
theorem dX7_beat_84 : decode cX7_beat 84 = .ok (.iconst 4, 1) := by decide +kernel
theorem dX7_beat_85 : decode cX7_beat 85 = .ok (.iaload, 1) := by decide +kernel
theorem dX7_beat_86 : decode cX7_beat 86 = .ok (.aload_n 0, 1) := by decide +kernel
theorem dX7_beat_87 : decode cX7_beat 87 = .ok (.getfield 7, 3) := by decide +kernel
theorem dX7_beat_90 : decode cX7_beat 90 = .ok (.iconst 1, 1) := by decide +kernel
theorem dX7_beat_91 : decode cX7_beat 91 = .ok (.iaload, 1) := by decide +kernel
theorem dX7_beat_92 : decode cX7_beat 92 = .ok (.irem, 1) := by decide +kernel
theorem dX7_beat_93 : decode cX7_beat 93 = .ok (.ifCond .ne 16, 3) := by decide +kernel
theorem dX7_beat_96 : decode cX7_beat 96 = .ok (.aload_n 0, 1) := by decide +kernel
theorem dX7_beat_97 : decode cX7_beat 97 = .ok (.iload_n 1, 1) := by decide +kernel
theorem dX7_beat_98 : decode cX7_beat 98 = .ok (.invokevirtual 91, 3) := by decide +kernel
theorem dX7_beat_101 : decode cX7_beat 101 = .ok (.ifCond .eq 8, 3) := by decide +kernel
theorem dX7_beat_104 : decode cX7_beat 104 = .ok (.aload_n 0, 1) := by decide +kernel
theorem dX7_beat_105 : decode cX7_beat 105 = .ok (.iload_n 1, 1) := by decide +kernel
theorem dX7_beat_106 : decode cX7_beat 106 = .ok (.invokevirtual 94, 3) := by decide +kernel
theorem dX7_beat_109 : decode cX7_beat 109 = .ok (.iinc 1 1, 3) := by decide +kernel
theorem dX7_beat_112 : decode cX7_beat 112 = .ok (.goto (-51), 3) := by decide +kernel
theorem dX7_beat_115 : decode cX7_beat 115 = .ok (.return_, 1) := by decide +kernel
theorem dX7_burn_0 : decode cX7_burn 0 = .ok (.aload_n 0, 1) := by decide +kernel
theorem dX7_burn_1 : decode cX7_burn 1 = .ok (.bipush 117, 2) := by decide +kernel
theorem dX7_burn_3 : decode cX7_burn 3 = .ok (.iload_n 1, 1) := by decide +kernel
theorem dX7_burn_4 : decode cX7_burn 4 = .ok (.iconst 0, 1) := by decide +kernel
theorem dX7_burn_5 : decode cX7_burn 5 = .ok (.iconst 0, 1) := by decide +kernel
theorem dX7_burn_6 : decode cX7_burn 6 = .ok (.iconst 0, 1) := by decide +kernel
theorem dX7_burn_7 : decode cX7_burn 7 = .ok (.invokevirtual 145, 3) := by decide +kernel
theorem dX7_burn_10 : decode cX7_burn 10 = .ok (.ireturn, 1) := by decide +kernel
theorem dX7_burns_0 : decode cX7_burns 0 = .ok (.iconst 0, 1) := by decide +kernel
theorem dX7_burns_1 : decode cX7_burns 1 = .ok (.istore_n 3, 1) := by decide +kernel
theorem dX7_burns_2 : decode cX7_burns 2 = .ok (.aload_n 0, 1) := by decide +kernel
theorem dX7_burns_3 : decode cX7_burns 3 = .ok (.getfield 7, 3) := by decide +kernel
theorem dX7_burns_6 : decode cX7_burns 6 = .ok (.iload_n 1, 1) := by decide +kernel
theorem dX7_burns_7 : decode cX7_burns 7 = .ok (.iconst 0, 1) := by decide +kernel
theorem dX7_burns_8 : decode cX7_burns 8 = .ok (.invokestatic 36, 3) := by decide +kernel
theorem dX7_burns_11 : decode cX7_burns 11 = .ok (.iaload, 1) := by decide +kernel
theorem dX7_burns_12 : decode cX7_burns 12 = .ok (.iload_n 2, 1) := by decide +kernel
theorem dX7_burns_13 : decode cX7_burns 13 = .ok (.if_icmp .le 60, 3) := by decide +kernel
theorem dX7_burns_16 : decode cX7_burns 16 = .ok (.iconst 0, 1) := by decide +kernel
theorem dX7_burns_17 : decode cX7_burns 17 = .ok (.istore 4, 2) := by decide +kernel
theorem dX7_burns_19 : decode cX7_burns 19 = .ok (.iload 4, 2) := by decide +kernel
theorem dX7_burns_21 : decode cX7_burns 21 = .ok (.iconst 4, 1) := by decide +kernel
theorem dX7_burns_22 : decode cX7_burns 22 = .ok (.if_icmp .ge 31, 3) := by decide +kernel
theorem dX7_burns_25 : decode cX7_burns 25 = .ok (.aload_n 0, 1) := by decide +kernel
theorem dX7_burns_26 : decode cX7_burns 26 = .ok (.getfield 7, 3) := by decide +kernel
theorem dX7_burns_29 : decode cX7_burns 29 = .ok (.iload_n 1, 1) := by decide +kernel
theorem dX7_burns_30 : decode cX7_burns 30 = .ok (.aload_n 0, 1) := by decide +kernel
theorem dX7_burns_31 : decode cX7_burns 31 = .ok (.getfield 7, 3) := by decide +kernel
theorem dX7_burns_34 : decode cX7_burns 34 = .ok (.iload_n 1, 1) := by decide +kernel
theorem dX7_burns_35 : decode cX7_burns 35 = .ok (.iconst 0, 1) := by decide +kernel
theorem dX7_burns_36 : decode cX7_burns 36 = .ok (.invokestatic 36, 3) := by decide +kernel
theorem dX7_burns_39 : decode cX7_burns 39 = .ok (.iaload, 1) := by decide +kernel
theorem dX7_burns_40 : decode cX7_burns 40 = .ok (.iload 4, 2) := by decide +kernel
theorem dX7_burns_42 : decode cX7_burns 42 = .ok (.invokestatic 40, 3) := by decide +kernel
theorem dX7_burns_45 : decode cX7_burns 45 = .ok (.iconst 0, 1) := by decide +kernel
theorem dX7_burns_46 : decode cX7_burns 46 = .ok (.iastore, 1) := by decide +kernel
theorem dX7_burns_47 : decode cX7_burns 47 = .ok (.iinc 4 1, 3) := by decide +kernel
theorem dX7_burns_50 : decode cX7_burns 50 = .ok (.goto (-31), 3) := by decide +kernel
theorem dX7_burns_53 : decode cX7_burns 53 = .ok (.aload_n 0, 1) := by decide +kernel
theorem dX7_burns_54 : decode cX7_burns 54 = .ok (.getfield 7, 3) := by decide +kernel
theorem dX7_burns_57 : decode cX7_burns 57 = .ok (.iload_n 1, 1) := by decide +kernel
theorem dX7_burns_58 : decode cX7_burns 58 = .ok (.iconst 0, 1) := by decide +kernel
theorem dX7_burns_59 : decode cX7_burns 59 = .ok (.invokestatic 36, 3) := by decide +kernel
theorem dX7_burns_62 : decode cX7_burns 62 = .ok (.dup2, 1) := by decide +kernel
theorem dX7_burns_63 : decode cX7_burns 63 = .ok (.iaload, 1) := by decide +kernel
theorem dX7_burns_64 : decode cX7_burns 64 = .ok (.iconst 1, 1) := by decide +kernel
theorem dX7_burns_65 : decode cX7_burns 65 = .ok (.isub, 1) := by decide +kernel
theorem dX7_burns_66 : decode cX7_burns 66 = .ok (.iastore, 1) := by decide +kernel
theorem dX7_burns_67 : decode cX7_burns 67 = .ok (.iinc 3 1, 3) := by decide +kernel
theorem dX7_burns_70 : decode cX7_burns 70 = .ok (.goto (-68), 3) := by decide +kernel
theorem dX7_burns_73 : decode cX7_burns 73 = .ok (.aload_n 0, 1) := by decide +kernel
theorem dX7_burns_74 : decode cX7_burns 74 = .ok (.getfield 7, 3) := by decide +kernel
theorem dX7_burns_77 : decode cX7_burns 77 = .ok (.bipush 9, 2) := by decide +kernel
theorem dX7_burns_79 : decode cX7_burns 79 = .ok (.dup2, 1) := by decide +kernel
theorem dX7_burns_80 : decode cX7_burns 80 = .ok (.iaload, 1) := by decide +kernel
theorem dX7_burns_81 : decode cX7_burns 81 = .ok (.iload_n 3, 1) := by decide +kernel
theorem dX7_burns_82 : decode cX7_burns 82 = .ok (.iadd, 1) := by decide +kernel
theorem dX7_burns_83 : decode cX7_burns 83 = .ok (.iastore, 1) := by decide +kernel
theorem dX7_burns_84 : decode cX7_burns 84 = .ok (.iload_n 3, 1) := by decide +kernel
theorem dX7_burns_85 : decode cX7_burns 85 = .ok (.ireturn, 1) := by decide +kernel
theorem dX7_burnt_0 : decode cX7_burnt 0 = .ok (.aload_n 0, 1) := by decide +kernel
theorem dX7_burnt_1 : decode cX7_burnt 1 = .ok (.iload_n 1, 1) := by decide +kernel
theorem dX7_burnt_2 : decode cX7_burnt 2 = .ok (.invokevirtual 87, 3) := by decide +kernel
theorem dX7_burnt_5 : decode cX7_burnt 5 = .ok (.ifCond .ne 7, 3) := by decide +kernel
theorem dX7_burnt_8 : decode cX7_burnt 8 = .ok (.iconst (-1), 1) := by decide +kernel
theorem dX7_burnt_9 : decode cX7_burnt 9 = .ok (.goto 21, 3) := by decide +kernel
theorem dX7_burnt_12 : decode cX7_burnt 12 = .ok (.aload_n 0, 1) := by decide +kernel
theorem dX7_burnt_13 : decode cX7_burnt 13 = .ok (.invokevirtual 59, 3) := by decide +kernel
theorem dX7_burnt_16 : decode cX7_burnt 16 = .ok (.ifCond .eq 12, 3) := by decide +kernel
theorem dX7_burnt_19 : decode cX7_burnt 19 = .ok (.aload_n 0, 1) := by decide +kernel
theorem dX7_burnt_20 : decode cX7_burnt 20 = .ok (.iload_n 1, 1) := by decide +kernel
theorem dX7_burnt_21 : decode cX7_burnt 21 = .ok (.iconst 0, 1) := by decide +kernel
theorem dX7_burnt_22 : decode cX7_burnt 22 = .ok (.invokevirtual 66, 3) := by decide +kernel
theorem dX7_burnt_25 : decode cX7_burnt 25 = .ok (.goto 5, 3) := by decide +kernel
theorem dX7_burnt_28 : decode cX7_burnt 28 = .ok (.bipush (-5), 2) := by decide +kernel
theorem dX7_burnt_30 : decode cX7_burnt 30 = .ok (.ireturn, 1) := by decide +kernel
theorem dX7_canRefresh_0 : decode cX7_canRefresh 0 = .ok (.aload_n 0, 1) := by decide +kernel
theorem dX7_canRefresh_1 : decode cX7_canRefresh 1 = .ok (.invokevirtual 59, 3) := by decide +kernel
theorem dX7_canRefresh_4 : decode cX7_canRefresh 4 = .ok (.ifCond .eq 24, 3) := by decide +kernel
theorem dX7_canRefresh_7 : decode cX7_canRefresh 7 = .ok (.aload_n 0, 1) := by decide +kernel
theorem dX7_canRefresh_8 : decode cX7_canRefresh 8 = .ok (.getfield 7, 3) := by decide +kernel
theorem dX7_canRefresh_11 : decode cX7_canRefresh 11 = .ok (.iload_n 1, 1) := by decide +kernel
theorem dX7_canRefresh_12 : decode cX7_canRefresh 12 = .ok (.iconst 0, 1) := by decide +kernel
theorem dX7_canRefresh_13 : decode cX7_canRefresh 13 = .ok (.iconst 0, 1) := by decide +kernel
theorem dX7_canRefresh_14 : decode cX7_canRefresh 14 = .ok (.invokestatic 40, 3) := by decide +kernel
theorem dX7_canRefresh_17 : decode cX7_canRefresh 17 = .ok (.iaload, 1) := by decide +kernel
theorem dX7_canRefresh_18 : decode cX7_canRefresh 18 = .ok (.sipush 999, 3) := by decide +kernel
theorem dX7_canRefresh_21 : decode cX7_canRefresh 21 = .ok (.if_icmp .ge 7, 3) := by decide +kernel
theorem dX7_canRefresh_24 : decode cX7_canRefresh 24 = .ok (.iconst 1, 1) := by decide +kernel
theorem dX7_canRefresh_25 : decode cX7_canRefresh 25 = .ok (.goto 4, 3) := by decide +kernel
theorem dX7_canRefresh_28 : decode cX7_canRefresh 28 = .ok (.iconst 0, 1) := by decide +kernel
theorem dX7_canRefresh_29 : decode cX7_canRefresh 29 = .ok (.ireturn, 1) := by decide +kernel
theorem dX7_carryOut_0 : decode cX7_carryOut 0 = .ok (.aload_n 0, 1) := by decide +kernel
theorem dX7_carryOut_1 : decode cX7_carryOut 1 = .ok (.iconst 0, 1) := by decide +kernel
theorem dX7_carryOut_2 : decode cX7_carryOut 2 = .ok (.invokevirtual 185, 3) := by decide +kernel
theorem dX7_carryOut_5 : decode cX7_carryOut 5 = .ok (.istore_n 1, 1) := by decide +kernel
theorem dX7_carryOut_6 : decode cX7_carryOut 6 = .ok (.aload_n 0, 1) := by decide +kernel
theorem dX7_carryOut_7 : decode cX7_carryOut 7 = .ok (.getfield 159, 3) := by decide +kernel
theorem dX7_carryOut_10 : decode cX7_carryOut 10 = .ok (.ifCond .eq 6, 3) := by decide +kernel
theorem dX7_carryOut_13 : decode cX7_carryOut 13 = .ok (.bipush (-3), 2) := by decide +kernel
theorem dX7_carryOut_15 : decode cX7_carryOut 15 = .ok (.ireturn, 1) := by decide +kernel
theorem dX7_carryOut_16 : decode cX7_carryOut 16 = .ok (.aload_n 0, 1) := by decide +kernel
theorem dX7_carryOut_17 : decode cX7_carryOut 17 = .ok (.invokevirtual 142, 3) := by decide +kernel
theorem dX7_carryOut_20 : decode cX7_carryOut 20 = .ok (.aload_n 0, 1) := by decide +kernel
theorem dX7_carryOut_21 : decode cX7_carryOut 21 = .ok (.iconst 1, 1) := by decide +kernel
theorem dX7_carryOut_22 : decode cX7_carryOut 22 = .ok (.invokevirtual 185, 3) := by decide +kernel
theorem dX7_carryOut_25 : decode cX7_carryOut 25 = .ok (.istore_n 2, 1) := by decide +kernel
theorem dX7_carryOut_26 : decode cX7_carryOut 26 = .ok (.aload_n 0, 1) := by decide +kernel
theorem dX7_carryOut_27 : decode cX7_carryOut 27 = .ok (.iconst 0, 1) := by decide +kernel
theorem dX7_carryOut_28 : decode cX7_carryOut 28 = .ok (.putfield 151, 3) := by decide +kernel
theorem dX7_carryOut_31 : decode cX7_carryOut 31 = .ok (.iload_n 2, 1) := by decide +kernel
theorem dX7_carryOut_32 : decode cX7_carryOut 32 = .ok (.ireturn, 1) := by decide +kernel
theorem dX7_cell_0 : decode cX7_cell 0 = .ok (.bipush 12, 2) := by decide +kernel
theorem dX7_cell_2 : decode cX7_cell 2 = .ok (.bipush 35, 2) := by decide +kernel
theorem dX7_cell_4 : decode cX7_cell 4 = .ok (.iload_n 0, 1) := by decide +kernel
theorem dX7_cell_5 : decode cX7_cell 5 = .ok (.imul, 1) := by decide +kernel
theorem dX7_cell_6 : decode cX7_cell 6 = .ok (.iadd, 1) := by decide +kernel
theorem dX7_cell_7 : decode cX7_cell 7 = .ok (.iload_n 1, 1) := by decide +kernel
theorem dX7_cell_8 : decode cX7_cell 8 = .ok (.iadd, 1) := by decide +kernel
theorem dX7_cell_9 : decode cX7_cell 9 = .ok (.ireturn, 1) := by decide +kernel
theorem dX7_count_0 : decode cX7_count 0 = .ok (.iload_n 1, 1) := by decide +kernel
theorem dX7_count_1 : decode cX7_count 1 = .ok (.iconst 0, 1) := by decide +kernel
theorem dX7_count_2 : decode cX7_count 2 = .ok (.iconst 1, 1) := by decide +kernel
theorem dX7_count_3 : decode cX7_count 3 = .ok (.invokestatic 32, 3) := by decide +kernel
theorem dX7_count_6 : decode cX7_count 6 = .ok (.ifCond .eq 12, 3) := by decide +kernel
theorem dX7_count_9 : decode cX7_count 9 = .ok (.aload_n 0, 1) := by decide +kernel
theorem dX7_count_10 : decode cX7_count 10 = .ok (.getfield 7, 3) := by decide +kernel
theorem dX7_count_13 : decode cX7_count 13 = .ok (.iconst 4, 1) := by decide +kernel
theorem dX7_count_14 : decode cX7_count 14 = .ok (.iload_n 1, 1) := by decide +kernel
theorem dX7_count_15 : decode cX7_count 15 = .ok (.iadd, 1) := by decide +kernel
theorem dX7_count_16 : decode cX7_count 16 = .ok (.iaload, 1) := by decide +kernel
theorem dX7_count_17 : decode cX7_count 17 = .ok (.ireturn, 1) := by decide +kernel
theorem dX7_count_18 : decode cX7_count 18 = .ok (.iload_n 1, 1) := by decide +kernel
theorem dX7_count_19 : decode cX7_count 19 = .ok (.iconst 4, 1) := by decide +kernel
theorem dX7_count_20 : decode cX7_count 20 = .ok (.bipush 9, 2) := by decide +kernel
theorem dX7_count_22 : decode cX7_count 22 = .ok (.invokestatic 32, 3) := by decide +kernel
theorem dX7_count_25 : decode cX7_count 25 = .ok (.ifCond .eq 15, 3) := by decide +kernel
theorem dX7_count_28 : decode cX7_count 28 = .ok (.aload_n 0, 1) := by decide +kernel
theorem dX7_count_29 : decode cX7_count 29 = .ok (.getfield 7, 3) := by decide +kernel
theorem dX7_count_32 : decode cX7_count 32 = .ok (.bipush 6, 2) := by decide +kernel
theorem dX7_count_34 : decode cX7_count 34 = .ok (.iload_n 1, 1) := by decide +kernel
theorem dX7_count_35 : decode cX7_count 35 = .ok (.iadd, 1) := by decide +kernel
theorem dX7_count_36 : decode cX7_count 36 = .ok (.iconst 4, 1) := by decide +kernel
theorem dX7_count_37 : decode cX7_count 37 = .ok (.isub, 1) := by decide +kernel
theorem dX7_count_38 : decode cX7_count 38 = .ok (.iaload, 1) := by decide +kernel
theorem dX7_count_39 : decode cX7_count 39 = .ok (.ireturn, 1) := by decide +kernel
theorem dX7_count_40 : decode cX7_count 40 = .ok (.iload_n 1, 1) := by decide +kernel
theorem dX7_count_41 : decode cX7_count 41 = .ok (.tableswitch 110 2 15 #[71, 77, 110, 110, 110, 110, 110, 110, 83, 90, 90, 90, 100, 105], 71) := by decide +kernel
theorem dX7_count_112 : decode cX7_count 112 = .ok (.aload_n 0, 1) := by decide +kernel
theorem dX7_count_113 : decode cX7_count 113 = .ok (.iconst 2, 1) := by decide +kernel
theorem dX7_count_114 : decode cX7_count 114 = .ok (.invokevirtual 148, 3) := by decide +kernel
theorem dX7_count_117 : decode cX7_count 117 = .ok (.ireturn, 1) := by decide +kernel
theorem dX7_count_118 : decode cX7_count 118 = .ok (.aload_n 0, 1) := by decide +kernel
theorem dX7_count_119 : decode cX7_count 119 = .ok (.iconst 5, 1) := by decide +kernel
theorem dX7_count_120 : decode cX7_count 120 = .ok (.invokevirtual 148, 3) := by decide +kernel
theorem dX7_count_123 : decode cX7_count 123 = .ok (.ireturn, 1) := by decide +kernel
theorem dX7_count_124 : decode cX7_count 124 = .ok (.aload_n 0, 1) := by decide +kernel
theorem dX7_count_125 : decode cX7_count 125 = .ok (.getfield 7, 3) := by decide +kernel
theorem dX7_count_128 : decode cX7_count 128 = .ok (.iconst 3, 1) := by decide +kernel
theorem dX7_count_129 : decode cX7_count 129 = .ok (.iaload, 1) := by decide +kernel
theorem dX7_count_130 : decode cX7_count 130 = .ok (.ireturn, 1) := by decide +kernel
theorem dX7_count_131 : decode cX7_count 131 = .ok (.aload_n 0, 1) := by decide +kernel
theorem dX7_count_132 : decode cX7_count 132 = .ok (.getfield 7, 3) := by decide +kernel
theorem dX7_count_135 : decode cX7_count 135 = .ok (.iload_n 1, 1) := by decide +kernel
theorem dX7_count_136 : decode cX7_count 136 = .ok (.bipush 11, 2) := by decide +kernel
theorem dX7_count_138 : decode cX7_count 138 = .ok (.isub, 1) := by decide +kernel
theorem dX7_count_139 : decode cX7_count 139 = .ok (.iaload, 1) := by decide +kernel
theorem dX7_count_140 : decode cX7_count 140 = .ok (.ireturn, 1) := by decide +kernel
theorem dX7_count_141 : decode cX7_count 141 = .ok (.aload_n 0, 1) := by decide +kernel
theorem dX7_count_142 : decode cX7_count 142 = .ok (.getfield 151, 3) := by decide +kernel
theorem dX7_count_145 : decode cX7_count 145 = .ok (.ireturn, 1) := by decide +kernel
theorem dX7_count_146 : decode cX7_count 146 = .ok (.aload_n 0, 1) := by decide +kernel
theorem dX7_count_147 : decode cX7_count 147 = .ok (.getfield 44, 3) := by decide +kernel
theorem dX7_count_150 : decode cX7_count 150 = .ok (.ireturn, 1) := by decide +kernel
theorem dX7_count_151 : decode cX7_count 151 = .ok (.bipush (-2), 2) := by decide +kernel
theorem dX7_count_153 : decode cX7_count 153 = .ok (.ireturn, 1) := by decide +kernel
theorem dX7_does_0 : decode cX7_does 0 = .ok (.iload_n 1, 1) := by decide +kernel
theorem dX7_does_1 : decode cX7_does 1 = .ok (.tableswitch 129 107 122 #[79, 109, 97, 129, 129, 129, 129, 85, 129, 120, 91, 129, 129, 129, 129, 103], 79) := by decide +kernel
theorem dX7_does_80 : decode cX7_does 80 = .ok (.aload_n 0, 1) := by decide +kernel
theorem dX7_does_81 : decode cX7_does 81 = .ok (.iload_n 2, 1) := by decide +kernel
theorem dX7_does_82 : decode cX7_does 82 = .ok (.invokevirtual 117, 3) := by decide +kernel
theorem dX7_does_85 : decode cX7_does 85 = .ok (.ireturn, 1) := by decide +kernel
theorem dX7_does_86 : decode cX7_does 86 = .ok (.aload_n 0, 1) := by decide +kernel
theorem dX7_does_87 : decode cX7_does 87 = .ok (.iload_n 2, 1) := by decide +kernel
theorem dX7_does_88 : decode cX7_does 88 = .ok (.invokevirtual 120, 3) := by decide +kernel
theorem dX7_does_91 : decode cX7_does 91 = .ok (.ireturn, 1) := by decide +kernel
theorem dX7_does_92 : decode cX7_does 92 = .ok (.aload_n 0, 1) := by decide +kernel
theorem dX7_does_93 : decode cX7_does 93 = .ok (.iload_n 2, 1) := by decide +kernel
theorem dX7_does_94 : decode cX7_does 94 = .ok (.invokevirtual 123, 3) := by decide +kernel
theorem dX7_does_97 : decode cX7_does 97 = .ok (.ireturn, 1) := by decide +kernel
theorem dX7_does_98 : decode cX7_does 98 = .ok (.aload_n 0, 1) := by decide +kernel
theorem dX7_does_99 : decode cX7_does 99 = .ok (.iload_n 2, 1) := by decide +kernel
theorem dX7_does_100 : decode cX7_does 100 = .ok (.invokevirtual 126, 3) := by decide +kernel
theorem dX7_does_103 : decode cX7_does 103 = .ok (.ireturn, 1) := by decide +kernel
theorem dX7_does_104 : decode cX7_does 104 = .ok (.aload_n 0, 1) := by decide +kernel
theorem dX7_does_105 : decode cX7_does 105 = .ok (.iload_n 2, 1) := by decide +kernel
theorem dX7_does_106 : decode cX7_does 106 = .ok (.invokevirtual 129, 3) := by decide +kernel
theorem dX7_does_109 : decode cX7_does 109 = .ok (.ireturn, 1) := by decide +kernel
theorem dX7_does_110 : decode cX7_does 110 = .ok (.aload_n 0, 1) := by decide +kernel
theorem dX7_does_111 : decode cX7_does 111 = .ok (.iload_n 2, 1) := by decide +kernel
theorem dX7_does_112 : decode cX7_does 112 = .ok (.iload_n 3, 1) := by decide +kernel
theorem dX7_does_113 : decode cX7_does 113 = .ok (.iload 4, 2) := by decide +kernel
theorem dX7_does_115 : decode cX7_does 115 = .ok (.iload 5, 2) := by decide +kernel
theorem dX7_does_117 : decode cX7_does 117 = .ok (.invokevirtual 132, 3) := by decide +kernel
theorem dX7_does_120 : decode cX7_does 120 = .ok (.ireturn, 1) := by decide +kernel
theorem dX7_does_121 : decode cX7_does 121 = .ok (.aload_n 0, 1) := by decide +kernel
theorem dX7_does_122 : decode cX7_does 122 = .ok (.iload_n 2, 1) := by decide +kernel
theorem dX7_does_123 : decode cX7_does 123 = .ok (.iload_n 3, 1) := by decide +kernel
theorem dX7_does_124 : decode cX7_does 124 = .ok (.iload 4, 2) := by decide +kernel
theorem dX7_does_126 : decode cX7_does 126 = .ok (.invokevirtual 136, 3) := by decide +kernel
theorem dX7_does_129 : decode cX7_does 129 = .ok (.ireturn, 1) := by decide +kernel
theorem dX7_does_130 : decode cX7_does 130 = .ok (.aload_n 0, 1) := by decide +kernel
theorem dX7_does_131 : decode cX7_does 131 = .ok (.iload_n 2, 1) := by decide +kernel
theorem dX7_does_132 : decode cX7_does 132 = .ok (.invokevirtual 139, 3) := by decide +kernel
theorem dX7_does_135 : decode cX7_does 135 = .ok (.ireturn, 1) := by decide +kernel
theorem dX7_draw_0 : decode cX7_draw 0 = .ok (.aload_n 0, 1) := by decide +kernel
theorem dX7_draw_1 : decode cX7_draw 1 = .ok (.getfield 7, 3) := by decide +kernel
theorem dX7_draw_4 : decode cX7_draw 4 = .ok (.iconst 3, 1) := by decide +kernel
theorem dX7_draw_5 : decode cX7_draw 5 = .ok (.bipush 75, 2) := by decide +kernel
theorem dX7_draw_7 : decode cX7_draw 7 = .ok (.aload_n 0, 1) := by decide +kernel
theorem dX7_draw_8 : decode cX7_draw 8 = .ok (.getfield 7, 3) := by decide +kernel
theorem dX7_draw_11 : decode cX7_draw 11 = .ok (.iconst 3, 1) := by decide +kernel
theorem dX7_draw_12 : decode cX7_draw 12 = .ok (.iaload, 1) := by decide +kernel
theorem dX7_draw_13 : decode cX7_draw 13 = .ok (.imul, 1) := by decide +kernel
theorem dX7_draw_14 : decode cX7_draw 14 = .ok (.bipush 74, 2) := by decide +kernel
theorem dX7_draw_16 : decode cX7_draw 16 = .ok (.iadd, 1) := by decide +kernel
theorem dX7_draw_17 : decode cX7_draw 17 = .ok (.ldc 54, 2) := by decide +kernel
theorem dX7_draw_19 : decode cX7_draw 19 = .ok (.irem, 1) := by decide +kernel
theorem dX7_draw_20 : decode cX7_draw 20 = .ok (.iastore, 1) := by decide +kernel
theorem dX7_draw_21 : decode cX7_draw 21 = .ok (.aload_n 0, 1) := by decide +kernel
theorem dX7_draw_22 : decode cX7_draw 22 = .ok (.getfield 7, 3) := by decide +kernel
theorem dX7_draw_25 : decode cX7_draw 25 = .ok (.iconst 3, 1) := by decide +kernel
theorem dX7_draw_26 : decode cX7_draw 26 = .ok (.iaload, 1) := by decide +kernel
theorem dX7_draw_27 : decode cX7_draw 27 = .ok (.bipush 16, 2) := by decide +kernel
theorem dX7_draw_29 : decode cX7_draw 29 = .ok (.idiv, 1) := by decide +kernel
theorem dX7_draw_30 : decode cX7_draw 30 = .ok (.iload_n 1, 1) := by decide +kernel
theorem dX7_draw_31 : decode cX7_draw 31 = .ok (.irem, 1) := by decide +kernel
theorem dX7_draw_32 : decode cX7_draw 32 = .ok (.ireturn, 1) := by decide +kernel
theorem dX7_fault_0 : decode cX7_fault 0 = .ok (.aload_n 0, 1) := by decide +kernel
theorem dX7_fault_1 : decode cX7_fault 1 = .ok (.iconst 0, 1) := by decide +kernel
theorem dX7_fault_2 : decode cX7_fault 2 = .ok (.invokevirtual 185, 3) := by decide +kernel
theorem dX7_fault_5 : decode cX7_fault 5 = .ok (.istore_n 1, 1) := by decide +kernel
theorem dX7_fault_6 : decode cX7_fault 6 = .ok (.aload_n 0, 1) := by decide +kernel
theorem dX7_fault_7 : decode cX7_fault 7 = .ok (.getfield 159, 3) := by decide +kernel
theorem dX7_fault_10 : decode cX7_fault 10 = .ok (.ifCond .eq 10, 3) := by decide +kernel
theorem dX7_fault_13 : decode cX7_fault 13 = .ok (.aload_n 0, 1) := by decide +kernel
theorem dX7_fault_14 : decode cX7_fault 14 = .ok (.getfield 163, 3) := by decide +kernel
theorem dX7_fault_17 : decode cX7_fault 17 = .ok (.goto 5, 3) := by decide +kernel
theorem dX7_fault_20 : decode cX7_fault 20 = .ok (.bipush (-6), 2) := by decide +kernel
theorem dX7_fault_22 : decode cX7_fault 22 = .ok (.ireturn, 1) := by decide +kernel
theorem dX7_goes_0 : decode cX7_goes 0 = .ok (.aload_n 0, 1) := by decide +kernel
theorem dX7_goes_1 : decode cX7_goes 1 = .ok (.iconst 0, 1) := by decide +kernel
theorem dX7_goes_2 : decode cX7_goes 2 = .ok (.putfield 163, 3) := by decide +kernel
theorem dX7_goes_5 : decode cX7_goes 5 = .ok (.aload_n 0, 1) := by decide +kernel
theorem dX7_goes_6 : decode cX7_goes 6 = .ok (.iconst 0, 1) := by decide +kernel
theorem dX7_goes_7 : decode cX7_goes 7 = .ok (.putfield 159, 3) := by decide +kernel
theorem dX7_goes_10 : decode cX7_goes 10 = .ok (.iconst 0, 1) := by decide +kernel
theorem dX7_goes_11 : decode cX7_goes 11 = .ok (.istore_n 2, 1) := by decide +kernel
theorem dX7_goes_12 : decode cX7_goes 12 = .ok (.iconst 1, 1) := by decide +kernel
theorem dX7_goes_13 : decode cX7_goes 13 = .ok (.istore_n 3, 1) := by decide +kernel
theorem dX7_goes_14 : decode cX7_goes 14 = .ok (.iload_n 3, 1) := by decide +kernel
theorem dX7_goes_15 : decode cX7_goes 15 = .ok (.ifCond .eq 97, 3) := by decide +kernel
theorem dX7_goes_18 : decode cX7_goes 18 = .ok (.aload_n 0, 1) := by decide +kernel
theorem dX7_goes_19 : decode cX7_goes 19 = .ok (.invokevirtual 179, 3) := by decide +kernel
theorem dX7_goes_22 : decode cX7_goes 22 = .ok (.iload_n 1, 1) := by decide +kernel
theorem dX7_goes_23 : decode cX7_goes 23 = .ok (.ifCond .eq 10, 3) := by decide +kernel
theorem dX7_goes_26 : decode cX7_goes 26 = .ok (.aload_n 0, 1) := by decide +kernel
theorem dX7_goes_27 : decode cX7_goes 27 = .ok (.invokevirtual 182, 3) := by decide +kernel
theorem dX7_goes_30 : decode cX7_goes 30 = .ok (.ifCond .eq 7, 3) := by decide +kernel
theorem dX7_goes_33 : decode cX7_goes 33 = .ok (.iconst 1, 1) := by decide +kernel
theorem dX7_goes_34 : decode cX7_goes 34 = .ok (.goto 4, 3) := by decide +kernel
theorem dX7_goes_37 : decode cX7_goes 37 = .ok (.iconst 0, 1) := by decide +kernel
theorem dX7_goes_38 : decode cX7_goes 38 = .ok (.istore 4, 2) := by decide +kernel
theorem dX7_goes_40 : decode cX7_goes 40 = .ok (.iload_n 2, 1) := by decide +kernel
theorem dX7_goes_41 : decode cX7_goes 41 = .ok (.iload 4, 2) := by decide +kernel
theorem dX7_goes_43 : decode cX7_goes 43 = .ok (.ifCond .eq 7, 3) := by decide +kernel
theorem dX7_goes_46 : decode cX7_goes 46 = .ok (.iconst 1, 1) := by decide +kernel
theorem dX7_goes_47 : decode cX7_goes 47 = .ok (.goto 4, 3) := by decide +kernel
theorem dX7_goes_50 : decode cX7_goes 50 = .ok (.iconst 0, 1) := by decide +kernel
theorem dX7_goes_51 : decode cX7_goes 51 = .ok (.iadd, 1) := by decide +kernel
theorem dX7_goes_52 : decode cX7_goes 52 = .ok (.istore_n 2, 1) := by decide +kernel
theorem dX7_goes_53 : decode cX7_goes 53 = .ok (.iload 4, 2) := by decide +kernel
theorem dX7_goes_55 : decode cX7_goes 55 = .ok (.ifCond .eq 25, 3) := by decide +kernel
theorem dX7_goes_58 : decode cX7_goes 58 = .ok (.aload_n 0, 1) := by decide +kernel
theorem dX7_goes_59 : decode cX7_goes 59 = .ok (.getfield 159, 3) := by decide +kernel
theorem dX7_goes_62 : decode cX7_goes 62 = .ok (.ifCond .ne 18, 3) := by decide +kernel
theorem dX7_goes_65 : decode cX7_goes 65 = .ok (.aload_n 0, 1) := by decide +kernel
theorem dX7_goes_66 : decode cX7_goes 66 = .ok (.getfield 163, 3) := by decide +kernel
theorem dX7_goes_69 : decode cX7_goes 69 = .ok (.aload_n 0, 1) := by decide +kernel
theorem dX7_goes_70 : decode cX7_goes 70 = .ok (.getfield 151, 3) := by decide +kernel
theorem dX7_goes_73 : decode cX7_goes 73 = .ok (.if_icmp .ge 7, 3) := by decide +kernel
theorem dX7_goes_76 : decode cX7_goes 76 = .ok (.iconst 1, 1) := by decide +kernel
theorem dX7_goes_77 : decode cX7_goes 77 = .ok (.goto 4, 3) := by decide +kernel
theorem dX7_goes_80 : decode cX7_goes 80 = .ok (.iconst 0, 1) := by decide +kernel
theorem dX7_goes_81 : decode cX7_goes 81 = .ok (.istore_n 3, 1) := by decide +kernel
theorem dX7_goes_82 : decode cX7_goes 82 = .ok (.iload_n 3, 1) := by decide +kernel
theorem dX7_goes_83 : decode cX7_goes 83 = .ok (.ifCond .eq 26, 3) := by decide +kernel
theorem dX7_goes_86 : decode cX7_goes 86 = .ok (.aload_n 0, 1) := by decide +kernel
theorem dX7_goes_87 : decode cX7_goes 87 = .ok (.bipush 59, 2) := by decide +kernel
theorem dX7_goes_89 : decode cX7_goes 89 = .ok (.bipush 59, 2) := by decide +kernel
theorem dX7_goes_91 : decode cX7_goes 91 = .ok (.invokevirtual 166, 3) := by decide +kernel
theorem dX7_goes_94 : decode cX7_goes 94 = .ok (.istore 5, 2) := by decide +kernel
theorem dX7_goes_96 : decode cX7_goes 96 = .ok (.aload_n 0, 1) := by decide +kernel
theorem dX7_goes_97 : decode cX7_goes 97 = .ok (.getfield 159, 3) := by decide +kernel
theorem dX7_goes_100 : decode cX7_goes 100 = .ok (.ifCond .ne 7, 3) := by decide +kernel
theorem dX7_goes_103 : decode cX7_goes 103 = .ok (.iconst 1, 1) := by decide +kernel
theorem dX7_goes_104 : decode cX7_goes 104 = .ok (.goto 4, 3) := by decide +kernel
theorem dX7_goes_107 : decode cX7_goes 107 = .ok (.iconst 0, 1) := by decide +kernel
theorem dX7_goes_108 : decode cX7_goes 108 = .ok (.istore_n 3, 1) := by decide +kernel
theorem dX7_goes_109 : decode cX7_goes 109 = .ok (.goto (-95), 3) := by decide +kernel
theorem dX7_goes_112 : decode cX7_goes 112 = .ok (.iload_n 2, 1) := by decide +kernel
theorem dX7_goes_113 : decode cX7_goes 113 = .ok (.ireturn, 1) := by decide +kernel
theorem dX7_ifMerged_0 : decode cX7_ifMerged 0 = .ok (.aload_n 0, 1) := by decide +kernel
theorem dX7_ifMerged_1 : decode cX7_ifMerged 1 = .ok (.iload_n 1, 1) := by decide +kernel
theorem dX7_ifMerged_2 : decode cX7_ifMerged 2 = .ok (.invokevirtual 87, 3) := by decide +kernel
theorem dX7_ifMerged_5 : decode cX7_ifMerged 5 = .ok (.ifCond .ne 7, 3) := by decide +kernel
theorem dX7_ifMerged_8 : decode cX7_ifMerged 8 = .ok (.iconst (-1), 1) := by decide +kernel
theorem dX7_ifMerged_9 : decode cX7_ifMerged 9 = .ok (.goto 20, 3) := by decide +kernel
theorem dX7_ifMerged_12 : decode cX7_ifMerged 12 = .ok (.aload_n 0, 1) := by decide +kernel
theorem dX7_ifMerged_13 : decode cX7_ifMerged 13 = .ok (.invokevirtual 59, 3) := by decide +kernel
theorem dX7_ifMerged_16 : decode cX7_ifMerged 16 = .ok (.ifCond .eq 11, 3) := by decide +kernel
theorem dX7_ifMerged_19 : decode cX7_ifMerged 19 = .ok (.aload_n 0, 1) := by decide +kernel
theorem dX7_ifMerged_20 : decode cX7_ifMerged 20 = .ok (.iload_n 1, 1) := by decide +kernel
theorem dX7_ifMerged_21 : decode cX7_ifMerged 21 = .ok (.invokevirtual 101, 3) := by decide +kernel
theorem dX7_ifMerged_24 : decode cX7_ifMerged 24 = .ok (.goto 5, 3) := by decide +kernel
theorem dX7_ifMerged_27 : decode cX7_ifMerged 27 = .ok (.bipush (-5), 2) := by decide +kernel
theorem dX7_ifMerged_29 : decode cX7_ifMerged 29 = .ok (.ireturn, 1) := by decide +kernel
theorem dX7_in_0 : decode cX7_in 0 = .ok (.iload_n 0, 1) := by decide +kernel
theorem dX7_in_1 : decode cX7_in 1 = .ok (.iload_n 1, 1) := by decide +kernel
theorem dX7_in_2 : decode cX7_in 2 = .ok (.if_icmp .lt 12, 3) := by decide +kernel
theorem dX7_in_5 : decode cX7_in 5 = .ok (.iload_n 0, 1) := by decide +kernel
theorem dX7_in_6 : decode cX7_in 6 = .ok (.iload_n 2, 1) := by decide +kernel
theorem dX7_in_7 : decode cX7_in 7 = .ok (.if_icmp .gt 7, 3) := by decide +kernel
theorem dX7_in_10 : decode cX7_in 10 = .ok (.iconst 1, 1) := by decide +kernel
theorem dX7_in_11 : decode cX7_in 11 = .ok (.goto 4, 3) := by decide +kernel
theorem dX7_in_14 : decode cX7_in 14 = .ok (.iconst 0, 1) := by decide +kernel
theorem dX7_in_15 : decode cX7_in 15 = .ok (.ireturn, 1) := by decide +kernel
theorem dX7_init_0 : decode cX7_init 0 = .ok (.aload_n 0, 1) := by decide +kernel
theorem dX7_init_1 : decode cX7_init 1 = .ok (.invokespecial 1, 3) := by decide +kernel
theorem dX7_init_4 : decode cX7_init 4 = .ok (.aload_n 0, 1) := by decide +kernel
theorem dX7_init_5 : decode cX7_init 5 = .ok (.sipush 292, 3) := by decide +kernel
theorem dX7_init_8 : decode cX7_init 8 = .ok (.newarray .int, 2) := by decide +kernel
theorem dX7_init_10 : decode cX7_init 10 = .ok (.putfield 7, 3) := by decide +kernel
theorem dX7_init_13 : decode cX7_init 13 = .ok (.aload_n 0, 1) := by decide +kernel
theorem dX7_init_14 : decode cX7_init 14 = .ok (.sipush 1752, 3) := by decide +kernel
theorem dX7_init_17 : decode cX7_init 17 = .ok (.newarray .int, 2) := by decide +kernel
theorem dX7_init_19 : decode cX7_init 19 = .ok (.putfield 13, 3) := by decide +kernel
theorem dX7_init_22 : decode cX7_init 22 = .ok (.aload_n 0, 1) := by decide +kernel
theorem dX7_init_23 : decode cX7_init 23 = .ok (.sipush 584, 3) := by decide +kernel
theorem dX7_init_26 : decode cX7_init 26 = .ok (.newarray .int, 2) := by decide +kernel
theorem dX7_init_28 : decode cX7_init 28 = .ok (.putfield 16, 3) := by decide +kernel
theorem dX7_init_31 : decode cX7_init 31 = .ok (.aload_n 0, 1) := by decide +kernel
theorem dX7_init_32 : decode cX7_init 32 = .ok (.iconst 2, 1) := by decide +kernel
theorem dX7_init_33 : decode cX7_init 33 = .ok (.newarray .boolean, 2) := by decide +kernel
theorem dX7_init_35 : decode cX7_init 35 = .ok (.putfield 19, 3) := by decide +kernel
theorem dX7_init_38 : decode cX7_init 38 = .ok (.aload_n 0, 1) := by decide +kernel
theorem dX7_init_39 : decode cX7_init 39 = .ok (.bipush 80, 2) := by decide +kernel
theorem dX7_init_41 : decode cX7_init 41 = .ok (.newarray .int, 2) := by decide +kernel
theorem dX7_init_43 : decode cX7_init 43 = .ok (.putfield 23, 3) := by decide +kernel
theorem dX7_init_46 : decode cX7_init 46 = .ok (.aload_n 0, 1) := by decide +kernel
theorem dX7_init_47 : decode cX7_init 47 = .ok (.sipush 292, 3) := by decide +kernel
theorem dX7_init_50 : decode cX7_init 50 = .ok (.newarray .int, 2) := by decide +kernel
theorem dX7_init_52 : decode cX7_init 52 = .ok (.putfield 26, 3) := by decide +kernel
theorem dX7_init_55 : decode cX7_init 55 = .ok (.aload_n 0, 1) := by decide +kernel
theorem dX7_init_56 : decode cX7_init 56 = .ok (.iconst 5, 1) := by decide +kernel
theorem dX7_init_57 : decode cX7_init 57 = .ok (.newarray .int, 2) := by decide +kernel
theorem dX7_init_59 : decode cX7_init 59 = .ok (.putfield 29, 3) := by decide +kernel
theorem dX7_init_62 : decode cX7_init 62 = .ok (.aload_n 0, 1) := by decide +kernel
theorem dX7_init_63 : decode cX7_init 63 = .ok (.getfield 7, 3) := by decide +kernel
theorem dX7_init_66 : decode cX7_init 66 = .ok (.iconst 0, 1) := by decide +kernel
theorem dX7_init_67 : decode cX7_init 67 = .ok (.iconst 1, 1) := by decide +kernel
theorem dX7_init_68 : decode cX7_init 68 = .ok (.iastore, 1) := by decide +kernel
theorem dX7_init_69 : decode cX7_init 69 = .ok (.aload_n 0, 1) := by decide +kernel
theorem dX7_init_70 : decode cX7_init 70 = .ok (.getfield 7, 3) := by decide +kernel
theorem dX7_init_73 : decode cX7_init 73 = .ok (.iconst 2, 1) := by decide +kernel
theorem dX7_init_74 : decode cX7_init 74 = .ok (.iconst 2, 1) := by decide +kernel
theorem dX7_init_75 : decode cX7_init 75 = .ok (.iastore, 1) := by decide +kernel
theorem dX7_init_76 : decode cX7_init 76 = .ok (.aload_n 0, 1) := by decide +kernel
theorem dX7_init_77 : decode cX7_init 77 = .ok (.getfield 7, 3) := by decide +kernel
theorem dX7_init_80 : decode cX7_init 80 = .ok (.iconst 3, 1) := by decide +kernel
theorem dX7_init_81 : decode cX7_init 81 = .ok (.iconst 1, 1) := by decide +kernel
theorem dX7_init_82 : decode cX7_init 82 = .ok (.iastore, 1) := by decide +kernel
theorem dX7_init_83 : decode cX7_init 83 = .ok (.return_, 1) := by decide +kernel
theorem dX7_isDone_0 : decode cX7_isDone 0 = .ok (.aload_n 0, 1) := by decide +kernel
theorem dX7_isDone_1 : decode cX7_isDone 1 = .ok (.getfield 29, 3) := by decide +kernel
theorem dX7_isDone_4 : decode cX7_isDone 4 = .ok (.iconst 0, 1) := by decide +kernel
theorem dX7_isDone_5 : decode cX7_isDone 5 = .ok (.iaload, 1) := by decide +kernel
theorem dX7_isDone_6 : decode cX7_isDone 6 = .ok (.bipush 116, 2) := by decide +kernel
theorem dX7_isDone_8 : decode cX7_isDone 8 = .ok (.if_icmp .ne 31, 3) := by decide +kernel
theorem dX7_isDone_11 : decode cX7_isDone 11 = .ok (.aload_n 0, 1) := by decide +kernel
theorem dX7_isDone_12 : decode cX7_isDone 12 = .ok (.getfield 29, 3) := by decide +kernel
theorem dX7_isDone_15 : decode cX7_isDone 15 = .ok (.iconst 3, 1) := by decide +kernel
theorem dX7_isDone_16 : decode cX7_isDone 16 = .ok (.iaload, 1) := by decide +kernel
theorem dX7_isDone_17 : decode cX7_isDone 17 = .ok (.bipush (-6), 2) := by decide +kernel
theorem dX7_isDone_19 : decode cX7_isDone 19 = .ok (.if_icmp .ne 20, 3) := by decide +kernel
theorem dX7_isDone_22 : decode cX7_isDone 22 = .ok (.aload_n 0, 1) := by decide +kernel
theorem dX7_isDone_23 : decode cX7_isDone 23 = .ok (.aload_n 0, 1) := by decide +kernel
theorem dX7_isDone_24 : decode cX7_isDone 24 = .ok (.getfield 29, 3) := by decide +kernel
theorem dX7_isDone_27 : decode cX7_isDone 27 = .ok (.iconst 2, 1) := by decide +kernel
theorem dX7_isDone_28 : decode cX7_isDone 28 = .ok (.iaload, 1) := by decide +kernel
theorem dX7_isDone_29 : decode cX7_isDone 29 = .ok (.invokevirtual 87, 3) := by decide +kernel
theorem dX7_isDone_32 : decode cX7_isDone 32 = .ok (.ifCond .eq 7, 3) := by decide +kernel
theorem dX7_isDone_35 : decode cX7_isDone 35 = .ok (.iconst 1, 1) := by decide +kernel
theorem dX7_isDone_36 : decode cX7_isDone 36 = .ok (.goto 4, 3) := by decide +kernel
theorem dX7_isDone_39 : decode cX7_isDone 39 = .ok (.iconst 0, 1) := by decide +kernel
theorem dX7_isDone_40 : decode cX7_isDone 40 = .ok (.istore_n 1, 1) := by decide +kernel
theorem dX7_isDone_41 : decode cX7_isDone 41 = .ok (.iload_n 1, 1) := by decide +kernel
theorem dX7_isDone_42 : decode cX7_isDone 42 = .ok (.ifCond .eq 22, 3) := by decide +kernel
theorem dX7_isDone_45 : decode cX7_isDone 45 = .ok (.aload_n 0, 1) := by decide +kernel
theorem dX7_isDone_46 : decode cX7_isDone 46 = .ok (.getfield 7, 3) := by decide +kernel
theorem dX7_isDone_49 : decode cX7_isDone 49 = .ok (.aload_n 0, 1) := by decide +kernel
theorem dX7_isDone_50 : decode cX7_isDone 50 = .ok (.getfield 29, 3) := by decide +kernel
theorem dX7_isDone_53 : decode cX7_isDone 53 = .ok (.iconst 2, 1) := by decide +kernel
theorem dX7_isDone_54 : decode cX7_isDone 54 = .ok (.iaload, 1) := by decide +kernel
theorem dX7_isDone_55 : decode cX7_isDone 55 = .ok (.iconst 0, 1) := by decide +kernel
theorem dX7_isDone_56 : decode cX7_isDone 56 = .ok (.iconst 0, 1) := by decide +kernel
theorem dX7_isDone_57 : decode cX7_isDone 57 = .ok (.invokestatic 40, 3) := by decide +kernel
theorem dX7_isDone_60 : decode cX7_isDone 60 = .ok (.iaload, 1) := by decide +kernel
theorem dX7_isDone_61 : decode cX7_isDone 61 = .ok (.goto 9, 3) := by decide +kernel
theorem dX7_isDone_64 : decode cX7_isDone 64 = .ok (.aload_n 0, 1) := by decide +kernel
theorem dX7_isDone_65 : decode cX7_isDone 65 = .ok (.getfield 29, 3) := by decide +kernel
theorem dX7_isDone_68 : decode cX7_isDone 68 = .ok (.iconst 3, 1) := by decide +kernel
theorem dX7_isDone_69 : decode cX7_isDone 69 = .ok (.iaload, 1) := by decide +kernel
theorem dX7_isDone_70 : decode cX7_isDone 70 = .ok (.istore_n 2, 1) := by decide +kernel
theorem dX7_isDone_71 : decode cX7_isDone 71 = .ok (.aload_n 0, 1) := by decide +kernel
theorem dX7_isDone_72 : decode cX7_isDone 72 = .ok (.aload_n 0, 1) := by decide +kernel
theorem dX7_isDone_73 : decode cX7_isDone 73 = .ok (.getfield 29, 3) := by decide +kernel
theorem dX7_isDone_76 : decode cX7_isDone 76 = .ok (.iconst 0, 1) := by decide +kernel
theorem dX7_isDone_77 : decode cX7_isDone 77 = .ok (.iaload, 1) := by decide +kernel
theorem dX7_isDone_78 : decode cX7_isDone 78 = .ok (.aload_n 0, 1) := by decide +kernel
theorem dX7_isDone_79 : decode cX7_isDone 79 = .ok (.getfield 29, 3) := by decide +kernel
theorem dX7_isDone_82 : decode cX7_isDone 82 = .ok (.iconst 1, 1) := by decide +kernel
theorem dX7_isDone_83 : decode cX7_isDone 83 = .ok (.iaload, 1) := by decide +kernel
theorem dX7_isDone_84 : decode cX7_isDone 84 = .ok (.aload_n 0, 1) := by decide +kernel
theorem dX7_isDone_85 : decode cX7_isDone 85 = .ok (.getfield 29, 3) := by decide +kernel
theorem dX7_isDone_88 : decode cX7_isDone 88 = .ok (.iconst 2, 1) := by decide +kernel
theorem dX7_isDone_89 : decode cX7_isDone 89 = .ok (.iaload, 1) := by decide +kernel
theorem dX7_isDone_90 : decode cX7_isDone 90 = .ok (.iload_n 2, 1) := by decide +kernel
theorem dX7_isDone_91 : decode cX7_isDone 91 = .ok (.aload_n 0, 1) := by decide +kernel
theorem dX7_isDone_92 : decode cX7_isDone 92 = .ok (.getfield 29, 3) := by decide +kernel
theorem dX7_isDone_95 : decode cX7_isDone 95 = .ok (.iconst 4, 1) := by decide +kernel
theorem dX7_isDone_96 : decode cX7_isDone 96 = .ok (.iaload, 1) := by decide +kernel
theorem dX7_isDone_97 : decode cX7_isDone 97 = .ok (.invokevirtual 113, 3) := by decide +kernel
theorem dX7_isDone_100 : decode cX7_isDone 100 = .ok (.ifCond .lt 7, 3) := by decide +kernel
theorem dX7_isDone_103 : decode cX7_isDone 103 = .ok (.iconst 1, 1) := by decide +kernel
theorem dX7_isDone_104 : decode cX7_isDone 104 = .ok (.goto 4, 3) := by decide +kernel
theorem dX7_isDone_107 : decode cX7_isDone 107 = .ok (.iconst 0, 1) := by decide +kernel
theorem dX7_isDone_108 : decode cX7_isDone 108 = .ok (.ireturn, 1) := by decide +kernel
theorem dX7_isLiedAbout_0 : decode cX7_isLiedAbout 0 = .ok (.aload_n 0, 1) := by decide +kernel
theorem dX7_isLiedAbout_1 : decode cX7_isLiedAbout 1 = .ok (.getfield 7, 3) := by decide +kernel
theorem dX7_isLiedAbout_4 : decode cX7_isLiedAbout 4 = .ok (.iload_n 1, 1) := by decide +kernel
theorem dX7_isLiedAbout_5 : decode cX7_isLiedAbout 5 = .ok (.bipush 7, 2) := by decide +kernel
theorem dX7_isLiedAbout_7 : decode cX7_isLiedAbout 7 = .ok (.invokestatic 36, 3) := by decide +kernel
theorem dX7_isLiedAbout_10 : decode cX7_isLiedAbout 10 = .ok (.iaload, 1) := by decide +kernel
theorem dX7_isLiedAbout_11 : decode cX7_isLiedAbout 11 = .ok (.aload_n 0, 1) := by decide +kernel
theorem dX7_isLiedAbout_12 : decode cX7_isLiedAbout 12 = .ok (.getfield 7, 3) := by decide +kernel
theorem dX7_isLiedAbout_15 : decode cX7_isLiedAbout 15 = .ok (.iload_n 1, 1) := by decide +kernel
theorem dX7_isLiedAbout_16 : decode cX7_isLiedAbout 16 = .ok (.bipush 8, 2) := by decide +kernel
theorem dX7_isLiedAbout_18 : decode cX7_isLiedAbout 18 = .ok (.invokestatic 36, 3) := by decide +kernel
theorem dX7_isLiedAbout_21 : decode cX7_isLiedAbout 21 = .ok (.iaload, 1) := by decide +kernel
theorem dX7_isLiedAbout_22 : decode cX7_isLiedAbout 22 = .ok (.iadd, 1) := by decide +kernel
theorem dX7_isLiedAbout_23 : decode cX7_isLiedAbout 23 = .ok (.aload_n 0, 1) := by decide +kernel
theorem dX7_isLiedAbout_24 : decode cX7_isLiedAbout 24 = .ok (.getfield 7, 3) := by decide +kernel
theorem dX7_isLiedAbout_27 : decode cX7_isLiedAbout 27 = .ok (.iload_n 1, 1) := by decide +kernel
theorem dX7_isLiedAbout_28 : decode cX7_isLiedAbout 28 = .ok (.bipush 9, 2) := by decide +kernel
theorem dX7_isLiedAbout_30 : decode cX7_isLiedAbout 30 = .ok (.invokestatic 36, 3) := by decide +kernel
theorem dX7_isLiedAbout_33 : decode cX7_isLiedAbout 33 = .ok (.iaload, 1) := by decide +kernel
theorem dX7_isLiedAbout_34 : decode cX7_isLiedAbout 34 = .ok (.iadd, 1) := by decide +kernel
theorem dX7_isLiedAbout_35 : decode cX7_isLiedAbout 35 = .ok (.aload_n 0, 1) := by decide +kernel
theorem dX7_isLiedAbout_36 : decode cX7_isLiedAbout 36 = .ok (.getfield 7, 3) := by decide +kernel
theorem dX7_isLiedAbout_39 : decode cX7_isLiedAbout 39 = .ok (.iload_n 1, 1) := by decide +kernel
theorem dX7_isLiedAbout_40 : decode cX7_isLiedAbout 40 = .ok (.bipush 10, 2) := by decide +kernel
theorem dX7_isLiedAbout_42 : decode cX7_isLiedAbout 42 = .ok (.invokestatic 36, 3) := by decide +kernel
theorem dX7_isLiedAbout_45 : decode cX7_isLiedAbout 45 = .ok (.iaload, 1) := by decide +kernel
theorem dX7_isLiedAbout_46 : decode cX7_isLiedAbout 46 = .ok (.iadd, 1) := by decide +kernel
theorem dX7_isLiedAbout_47 : decode cX7_isLiedAbout 47 = .ok (.ifCond .le 7, 3) := by decide +kernel
theorem dX7_isLiedAbout_50 : decode cX7_isLiedAbout 50 = .ok (.iconst 1, 1) := by decide +kernel
theorem dX7_isLiedAbout_51 : decode cX7_isLiedAbout 51 = .ok (.goto 4, 3) := by decide +kernel
theorem dX7_isLiedAbout_54 : decode cX7_isLiedAbout 54 = .ok (.iconst 0, 1) := by decide +kernel
theorem dX7_isLiedAbout_55 : decode cX7_isLiedAbout 55 = .ok (.ireturn, 1) := by decide +kernel
theorem dX7_isNext_0 : decode cX7_isNext 0 = .ok (.aload_n 0, 1) := by decide +kernel
theorem dX7_isNext_1 : decode cX7_isNext 1 = .ok (.getfield 159, 3) := by decide +kernel
theorem dX7_isNext_4 : decode cX7_isNext 4 = .ok (.ifCond .ne 31, 3) := by decide +kernel
theorem dX7_isNext_7 : decode cX7_isNext 7 = .ok (.aload_n 0, 1) := by decide +kernel
theorem dX7_isNext_8 : decode cX7_isNext 8 = .ok (.getfield 163, 3) := by decide +kernel
theorem dX7_isNext_11 : decode cX7_isNext 11 = .ok (.aload_n 0, 1) := by decide +kernel
theorem dX7_isNext_12 : decode cX7_isNext 12 = .ok (.getfield 151, 3) := by decide +kernel
theorem dX7_isNext_15 : decode cX7_isNext 15 = .ok (.if_icmp .ge 20, 3) := by decide +kernel
theorem dX7_isNext_18 : decode cX7_isNext 18 = .ok (.aload_n 0, 1) := by decide +kernel
theorem dX7_isNext_19 : decode cX7_isNext 19 = .ok (.getfield 23, 3) := by decide +kernel
theorem dX7_isNext_22 : decode cX7_isNext 22 = .ok (.aload_n 0, 1) := by decide +kernel
theorem dX7_isNext_23 : decode cX7_isNext 23 = .ok (.getfield 163, 3) := by decide +kernel
theorem dX7_isNext_26 : decode cX7_isNext 26 = .ok (.iaload, 1) := by decide +kernel
theorem dX7_isNext_27 : decode cX7_isNext 27 = .ok (.iload_n 1, 1) := by decide +kernel
theorem dX7_isNext_28 : decode cX7_isNext 28 = .ok (.if_icmp .ne 7, 3) := by decide +kernel
theorem dX7_isNext_31 : decode cX7_isNext 31 = .ok (.iconst 1, 1) := by decide +kernel
theorem dX7_isNext_32 : decode cX7_isNext 32 = .ok (.goto 4, 3) := by decide +kernel
theorem dX7_isNext_35 : decode cX7_isNext 35 = .ok (.iconst 0, 1) := by decide +kernel
theorem dX7_isNext_36 : decode cX7_isNext 36 = .ok (.ireturn, 1) := by decide +kernel
theorem dX7_isPassed_0 : decode cX7_isPassed 0 = .ok (.aload_n 0, 1) := by decide +kernel
theorem dX7_isPassed_1 : decode cX7_isPassed 1 = .ok (.getfield 7, 3) := by decide +kernel
theorem dX7_isPassed_4 : decode cX7_isPassed 4 = .ok (.iload_n 2, 1) := by decide +kernel
theorem dX7_isPassed_5 : decode cX7_isPassed 5 = .ok (.bipush 11, 2) := by decide +kernel
theorem dX7_isPassed_7 : decode cX7_isPassed 7 = .ok (.iload_n 1, 1) := by decide +kernel
theorem dX7_isPassed_8 : decode cX7_isPassed 8 = .ok (.iadd, 1) := by decide +kernel
theorem dX7_isPassed_9 : decode cX7_isPassed 9 = .ok (.invokestatic 36, 3) := by decide +kernel
theorem dX7_isPassed_12 : decode cX7_isPassed 12 = .ok (.iaload, 1) := by decide +kernel
theorem dX7_isPassed_13 : decode cX7_isPassed 13 = .ok (.aload_n 0, 1) := by decide +kernel
theorem dX7_isPassed_14 : decode cX7_isPassed 14 = .ok (.iload_n 1, 1) := by decide +kernel
theorem dX7_isPassed_15 : decode cX7_isPassed 15 = .ok (.iload_n 2, 1) := by decide +kernel
theorem dX7_isPassed_16 : decode cX7_isPassed 16 = .ok (.iload_n 3, 1) := by decide +kernel
theorem dX7_isPassed_17 : decode cX7_isPassed 17 = .ok (.invokevirtual 73, 3) := by decide +kernel
theorem dX7_isPassed_20 : decode cX7_isPassed 20 = .ok (.imul, 1) := by decide +kernel
theorem dX7_isPassed_21 : decode cX7_isPassed 21 = .ok (.aload_n 0, 1) := by decide +kernel
theorem dX7_isPassed_22 : decode cX7_isPassed 22 = .ok (.getfield 7, 3) := by decide +kernel
theorem dX7_isPassed_25 : decode cX7_isPassed 25 = .ok (.iload_n 2, 1) := by decide +kernel
theorem dX7_isPassed_26 : decode cX7_isPassed 26 = .ok (.bipush 13, 2) := by decide +kernel
theorem dX7_isPassed_28 : decode cX7_isPassed 28 = .ok (.iload_n 1, 1) := by decide +kernel
theorem dX7_isPassed_29 : decode cX7_isPassed 29 = .ok (.iadd, 1) := by decide +kernel
theorem dX7_isPassed_30 : decode cX7_isPassed 30 = .ok (.invokestatic 36, 3) := by decide +kernel
theorem dX7_isPassed_33 : decode cX7_isPassed 33 = .ok (.iaload, 1) := by decide +kernel
theorem dX7_isPassed_34 : decode cX7_isPassed 34 = .ok (.iadd, 1) := by decide +kernel
theorem dX7_isPassed_35 : decode cX7_isPassed 35 = .ok (.sipush 257, 3) := by decide +kernel
theorem dX7_isPassed_38 : decode cX7_isPassed 38 = .ok (.irem, 1) := by decide +kernel
theorem dX7_isPassed_39 : decode cX7_isPassed 39 = .ok (.istore 5, 2) := by decide +kernel
theorem dX7_isPassed_41 : decode cX7_isPassed 41 = .ok (.iload 5, 2) := by decide +kernel
theorem dX7_isPassed_43 : decode cX7_isPassed 43 = .ok (.aload_n 0, 1) := by decide +kernel
theorem dX7_isPassed_44 : decode cX7_isPassed 44 = .ok (.iload_n 1, 1) := by decide +kernel
theorem dX7_isPassed_45 : decode cX7_isPassed 45 = .ok (.iload_n 2, 1) := by decide +kernel
theorem dX7_isPassed_46 : decode cX7_isPassed 46 = .ok (.invokevirtual 76, 3) := by decide +kernel
theorem dX7_isPassed_49 : decode cX7_isPassed 49 = .ok (.iload 4, 2) := by decide +kernel
theorem dX7_isPassed_51 : decode cX7_isPassed 51 = .ok (.iadd, 1) := by decide +kernel
theorem dX7_isPassed_52 : decode cX7_isPassed 52 = .ok (.sipush 257, 3) := by decide +kernel
theorem dX7_isPassed_55 : decode cX7_isPassed 55 = .ok (.irem, 1) := by decide +kernel
theorem dX7_isPassed_56 : decode cX7_isPassed 56 = .ok (.if_icmp .ne 7, 3) := by decide +kernel
theorem dX7_isPassed_59 : decode cX7_isPassed 59 = .ok (.iconst 1, 1) := by decide +kernel
theorem dX7_isPassed_60 : decode cX7_isPassed 60 = .ok (.goto 4, 3) := by decide +kernel
theorem dX7_isPassed_63 : decode cX7_isPassed 63 = .ok (.iconst 0, 1) := by decide +kernel
theorem dX7_isPassed_64 : decode cX7_isPassed 64 = .ok (.ireturn, 1) := by decide +kernel
theorem dX7_isPassedNow_0 : decode cX7_isPassedNow 0 = .ok (.aload_n 0, 1) := by decide +kernel
theorem dX7_isPassedNow_1 : decode cX7_isPassedNow 1 = .ok (.iload_n 1, 1) := by decide +kernel
theorem dX7_isPassedNow_2 : decode cX7_isPassedNow 2 = .ok (.iload_n 2, 1) := by decide +kernel
theorem dX7_isPassedNow_3 : decode cX7_isPassedNow 3 = .ok (.aload_n 0, 1) := by decide +kernel
theorem dX7_isPassedNow_4 : decode cX7_isPassedNow 4 = .ok (.getfield 7, 3) := by decide +kernel
theorem dX7_isPassedNow_7 : decode cX7_isPassedNow 7 = .ok (.iload_n 2, 1) := by decide +kernel
theorem dX7_isPassedNow_8 : decode cX7_isPassedNow 8 = .ok (.bipush 7, 2) := by decide +kernel
theorem dX7_isPassedNow_10 : decode cX7_isPassedNow 10 = .ok (.iload_n 1, 1) := by decide +kernel
theorem dX7_isPassedNow_11 : decode cX7_isPassedNow 11 = .ok (.iadd, 1) := by decide +kernel
theorem dX7_isPassedNow_12 : decode cX7_isPassedNow 12 = .ok (.invokestatic 36, 3) := by decide +kernel
theorem dX7_isPassedNow_15 : decode cX7_isPassedNow 15 = .ok (.iaload, 1) := by decide +kernel
theorem dX7_isPassedNow_16 : decode cX7_isPassedNow 16 = .ok (.aload_n 0, 1) := by decide +kernel
theorem dX7_isPassedNow_17 : decode cX7_isPassedNow 17 = .ok (.getfield 7, 3) := by decide +kernel
theorem dX7_isPassedNow_20 : decode cX7_isPassedNow 20 = .ok (.iload_n 2, 1) := by decide +kernel
theorem dX7_isPassedNow_21 : decode cX7_isPassedNow 21 = .ok (.bipush 9, 2) := by decide +kernel
theorem dX7_isPassedNow_23 : decode cX7_isPassedNow 23 = .ok (.iload_n 1, 1) := by decide +kernel
theorem dX7_isPassedNow_24 : decode cX7_isPassedNow 24 = .ok (.iadd, 1) := by decide +kernel
theorem dX7_isPassedNow_25 : decode cX7_isPassedNow 25 = .ok (.invokestatic 36, 3) := by decide +kernel
theorem dX7_isPassedNow_28 : decode cX7_isPassedNow 28 = .ok (.iaload, 1) := by decide +kernel
theorem dX7_isPassedNow_29 : decode cX7_isPassedNow 29 = .ok (.invokevirtual 79, 3) := by decide +kernel
theorem dX7_isPassedNow_32 : decode cX7_isPassedNow 32 = .ok (.ireturn, 1) := by decide +kernel
theorem dX7_isSecret_0 : decode cX7_isSecret 0 = .ok (.iload_n 1, 1) := by decide +kernel
theorem dX7_isSecret_1 : decode cX7_isSecret 1 = .ok (.iconst 0, 1) := by decide +kernel
theorem dX7_isSecret_2 : decode cX7_isSecret 2 = .ok (.aload_n 0, 1) := by decide +kernel
theorem dX7_isSecret_3 : decode cX7_isSecret 3 = .ok (.getfield 7, 3) := by decide +kernel
theorem dX7_isSecret_6 : decode cX7_isSecret 6 = .ok (.iconst 5, 1) := by decide +kernel
theorem dX7_isSecret_7 : decode cX7_isSecret 7 = .ok (.iaload, 1) := by decide +kernel
theorem dX7_isSecret_8 : decode cX7_isSecret 8 = .ok (.iconst 1, 1) := by decide +kernel
theorem dX7_isSecret_9 : decode cX7_isSecret 9 = .ok (.isub, 1) := by decide +kernel
theorem dX7_isSecret_10 : decode cX7_isSecret 10 = .ok (.invokestatic 32, 3) := by decide +kernel
theorem dX7_isSecret_13 : decode cX7_isSecret 13 = .ok (.ireturn, 1) := by decide +kernel
theorem dX7_isStore_0 : decode cX7_isStore 0 = .ok (.iload_n 0, 1) := by decide +kernel
theorem dX7_isStore_1 : decode cX7_isStore 1 = .ok (.iconst 0, 1) := by decide +kernel
theorem dX7_isStore_2 : decode cX7_isStore 2 = .ok (.iconst 1, 1) := by decide +kernel
theorem dX7_isStore_3 : decode cX7_isStore 3 = .ok (.invokestatic 32, 3) := by decide +kernel
theorem dX7_isStore_6 : decode cX7_isStore 6 = .ok (.ireturn, 1) := by decide +kernel
theorem dX7_keep_0 : decode cX7_keep 0 = .ok (.aload_n 0, 1) := by decide +kernel
theorem dX7_keep_1 : decode cX7_keep 1 = .ok (.bipush 107, 2) := by decide +kernel
theorem dX7_keep_3 : decode cX7_keep 3 = .ok (.iload_n 1, 1) := by decide +kernel
theorem dX7_keep_4 : decode cX7_keep 4 = .ok (.iconst 0, 1) := by decide +kernel
theorem dX7_keep_5 : decode cX7_keep 5 = .ok (.iconst 0, 1) := by decide +kernel
theorem dX7_keep_6 : decode cX7_keep 6 = .ok (.iconst 0, 1) := by decide +kernel
theorem dX7_keep_7 : decode cX7_keep 7 = .ok (.invokevirtual 145, 3) := by decide +kernel
theorem dX7_keep_10 : decode cX7_keep 10 = .ok (.ireturn, 1) := by decide +kernel
theorem dX7_keeps_0 : decode cX7_keeps 0 = .ok (.iload_n 1, 1) := by decide +kernel
theorem dX7_keeps_1 : decode cX7_keeps 1 = .ok (.iconst 0, 1) := by decide +kernel
theorem dX7_keeps_2 : decode cX7_keeps 2 = .ok (.sipush 255, 3) := by decide +kernel
theorem dX7_keeps_5 : decode cX7_keeps 5 = .ok (.invokestatic 32, 3) := by decide +kernel
theorem dX7_keeps_8 : decode cX7_keeps 8 = .ok (.ifCond .ne 6, 3) := by decide +kernel
theorem dX7_keeps_11 : decode cX7_keeps 11 = .ok (.bipush (-2), 2) := by decide +kernel
theorem dX7_keeps_13 : decode cX7_keeps 13 = .ok (.ireturn, 1) := by decide +kernel
theorem dX7_keeps_14 : decode cX7_keeps 14 = .ok (.aload_n 0, 1) := by decide +kernel
theorem dX7_keeps_15 : decode cX7_keeps 15 = .ok (.getfield 7, 3) := by decide +kernel
theorem dX7_keeps_18 : decode cX7_keeps 18 = .ok (.iconst 5, 1) := by decide +kernel
theorem dX7_keeps_19 : decode cX7_keeps 19 = .ok (.iaload, 1) := by decide +kernel
theorem dX7_keeps_20 : decode cX7_keeps 20 = .ok (.bipush 8, 2) := by decide +kernel
theorem dX7_keeps_22 : decode cX7_keeps 22 = .ok (.if_icmp .ne 6, 3) := by decide +kernel
theorem dX7_keeps_25 : decode cX7_keeps 25 = .ok (.bipush (-4), 2) := by decide +kernel
theorem dX7_keeps_27 : decode cX7_keeps 27 = .ok (.ireturn, 1) := by decide +kernel
theorem dX7_keeps_28 : decode cX7_keeps 28 = .ok (.aload_n 0, 1) := by decide +kernel
theorem dX7_keeps_29 : decode cX7_keeps 29 = .ok (.invokevirtual 59, 3) := by decide +kernel
theorem dX7_keeps_32 : decode cX7_keeps 32 = .ok (.ifCond .ne 6, 3) := by decide +kernel
theorem dX7_keeps_35 : decode cX7_keeps 35 = .ok (.bipush (-5), 2) := by decide +kernel
theorem dX7_keeps_37 : decode cX7_keeps 37 = .ok (.ireturn, 1) := by decide +kernel
theorem dX7_keeps_38 : decode cX7_keeps 38 = .ok (.aload_n 0, 1) := by decide +kernel
theorem dX7_keeps_39 : decode cX7_keeps 39 = .ok (.getfield 7, 3) := by decide +kernel
theorem dX7_keeps_42 : decode cX7_keeps 42 = .ok (.iconst 5, 1) := by decide +kernel
theorem dX7_keeps_43 : decode cX7_keeps 43 = .ok (.dup2, 1) := by decide +kernel
theorem dX7_keeps_44 : decode cX7_keeps 44 = .ok (.iaload, 1) := by decide +kernel
theorem dX7_keeps_45 : decode cX7_keeps 45 = .ok (.iconst 1, 1) := by decide +kernel
theorem dX7_keeps_46 : decode cX7_keeps 46 = .ok (.iadd, 1) := by decide +kernel
theorem dX7_keeps_47 : decode cX7_keeps 47 = .ok (.iastore, 1) := by decide +kernel
theorem dX7_keeps_48 : decode cX7_keeps 48 = .ok (.aload_n 0, 1) := by decide +kernel
theorem dX7_keeps_49 : decode cX7_keeps 49 = .ok (.aload_n 0, 1) := by decide +kernel
theorem dX7_keeps_50 : decode cX7_keeps 50 = .ok (.getfield 7, 3) := by decide +kernel
theorem dX7_keeps_53 : decode cX7_keeps 53 = .ok (.iconst 5, 1) := by decide +kernel
theorem dX7_keeps_54 : decode cX7_keeps 54 = .ok (.iaload, 1) := by decide +kernel
theorem dX7_keeps_55 : decode cX7_keeps 55 = .ok (.iconst 1, 1) := by decide +kernel
theorem dX7_keeps_56 : decode cX7_keeps 56 = .ok (.isub, 1) := by decide +kernel
theorem dX7_keeps_57 : decode cX7_keeps 57 = .ok (.iload_n 1, 1) := by decide +kernel
theorem dX7_keeps_58 : decode cX7_keeps 58 = .ok (.iconst 1, 1) := by decide +kernel
theorem dX7_keeps_59 : decode cX7_keeps 59 = .ok (.invokevirtual 69, 3) := by decide +kernel
theorem dX7_keeps_62 : decode cX7_keeps 62 = .ok (.aload_n 0, 1) := by decide +kernel
theorem dX7_keeps_63 : decode cX7_keeps 63 = .ok (.getfield 7, 3) := by decide +kernel
theorem dX7_keeps_66 : decode cX7_keeps 66 = .ok (.iconst 5, 1) := by decide +kernel
theorem dX7_keeps_67 : decode cX7_keeps 67 = .ok (.iaload, 1) := by decide +kernel
theorem dX7_keeps_68 : decode cX7_keeps 68 = .ok (.iconst 1, 1) := by decide +kernel
theorem dX7_keeps_69 : decode cX7_keeps 69 = .ok (.isub, 1) := by decide +kernel
theorem dX7_keeps_70 : decode cX7_keeps 70 = .ok (.ireturn, 1) := by decide +kernel
theorem dX7_lie_0 : decode cX7_lie 0 = .ok (.aload_n 0, 1) := by decide +kernel
theorem dX7_lie_1 : decode cX7_lie 1 = .ok (.bipush 108, 2) := by decide +kernel
theorem dX7_lie_3 : decode cX7_lie 3 = .ok (.iload_n 1, 1) := by decide +kernel
theorem dX7_lie_4 : decode cX7_lie 4 = .ok (.iload_n 2, 1) := by decide +kernel
theorem dX7_lie_5 : decode cX7_lie 5 = .ok (.iload_n 3, 1) := by decide +kernel
theorem dX7_lie_6 : decode cX7_lie 6 = .ok (.iload 4, 2) := by decide +kernel
theorem dX7_lie_8 : decode cX7_lie 8 = .ok (.invokevirtual 145, 3) := by decide +kernel
theorem dX7_lie_11 : decode cX7_lie 11 = .ok (.ireturn, 1) := by decide +kernel
theorem dX7_lies_0 : decode cX7_lies 0 = .ok (.iload_n 1, 1) := by decide +kernel
theorem dX7_lies_1 : decode cX7_lies 1 = .ok (.invokestatic 98, 3) := by decide +kernel
theorem dX7_lies_4 : decode cX7_lies 4 = .ok (.ifCond .eq 11, 3) := by decide +kernel
theorem dX7_lies_7 : decode cX7_lies 7 = .ok (.aload_n 0, 1) := by decide +kernel
theorem dX7_lies_8 : decode cX7_lies 8 = .ok (.iload_n 2, 1) := by decide +kernel
theorem dX7_lies_9 : decode cX7_lies 9 = .ok (.invokevirtual 87, 3) := by decide +kernel
theorem dX7_lies_12 : decode cX7_lies 12 = .ok (.ifCond .ne 5, 3) := by decide +kernel
theorem dX7_lies_15 : decode cX7_lies 15 = .ok (.iconst (-1), 1) := by decide +kernel
theorem dX7_lies_16 : decode cX7_lies 16 = .ok (.ireturn, 1) := by decide +kernel
theorem dX7_lies_17 : decode cX7_lies 17 = .ok (.iload_n 3, 1) := by decide +kernel
theorem dX7_lies_18 : decode cX7_lies 18 = .ok (.iconst 0, 1) := by decide +kernel
theorem dX7_lies_19 : decode cX7_lies 19 = .ok (.sipush 255, 3) := by decide +kernel
theorem dX7_lies_22 : decode cX7_lies 22 = .ok (.invokestatic 32, 3) := by decide +kernel
theorem dX7_lies_25 : decode cX7_lies 25 = .ok (.ifCond .eq 15, 3) := by decide +kernel
theorem dX7_lies_28 : decode cX7_lies 28 = .ok (.iload 4, 2) := by decide +kernel
theorem dX7_lies_30 : decode cX7_lies 30 = .ok (.iconst 0, 1) := by decide +kernel
theorem dX7_lies_31 : decode cX7_lies 31 = .ok (.sipush 256, 3) := by decide +kernel
theorem dX7_lies_34 : decode cX7_lies 34 = .ok (.invokestatic 32, 3) := by decide +kernel
theorem dX7_lies_37 : decode cX7_lies 37 = .ok (.ifCond .ne 6, 3) := by decide +kernel
theorem dX7_lies_40 : decode cX7_lies 40 = .ok (.bipush (-2), 2) := by decide +kernel
theorem dX7_lies_42 : decode cX7_lies 42 = .ok (.ireturn, 1) := by decide +kernel
theorem dX7_lies_43 : decode cX7_lies 43 = .ok (.aload_n 0, 1) := by decide +kernel
theorem dX7_lies_44 : decode cX7_lies 44 = .ok (.getfield 7, 3) := by decide +kernel
theorem dX7_lies_47 : decode cX7_lies 47 = .ok (.iload_n 2, 1) := by decide +kernel
theorem dX7_lies_48 : decode cX7_lies 48 = .ok (.bipush 7, 2) := by decide +kernel
theorem dX7_lies_50 : decode cX7_lies 50 = .ok (.iload_n 1, 1) := by decide +kernel
theorem dX7_lies_51 : decode cX7_lies 51 = .ok (.iadd, 1) := by decide +kernel
theorem dX7_lies_52 : decode cX7_lies 52 = .ok (.invokestatic 36, 3) := by decide +kernel
theorem dX7_lies_55 : decode cX7_lies 55 = .ok (.iaload, 1) := by decide +kernel
theorem dX7_lies_56 : decode cX7_lies 56 = .ok (.istore 5, 2) := by decide +kernel
theorem dX7_lies_58 : decode cX7_lies 58 = .ok (.aload_n 0, 1) := by decide +kernel
theorem dX7_lies_59 : decode cX7_lies 59 = .ok (.getfield 7, 3) := by decide +kernel
theorem dX7_lies_62 : decode cX7_lies 62 = .ok (.iload_n 2, 1) := by decide +kernel
theorem dX7_lies_63 : decode cX7_lies 63 = .ok (.bipush 7, 2) := by decide +kernel
theorem dX7_lies_65 : decode cX7_lies 65 = .ok (.iload_n 1, 1) := by decide +kernel
theorem dX7_lies_66 : decode cX7_lies 66 = .ok (.iadd, 1) := by decide +kernel
theorem dX7_lies_67 : decode cX7_lies 67 = .ok (.invokestatic 36, 3) := by decide +kernel
theorem dX7_lies_70 : decode cX7_lies 70 = .ok (.iload_n 3, 1) := by decide +kernel
theorem dX7_lies_71 : decode cX7_lies 71 = .ok (.iastore, 1) := by decide +kernel
theorem dX7_lies_72 : decode cX7_lies 72 = .ok (.aload_n 0, 1) := by decide +kernel
theorem dX7_lies_73 : decode cX7_lies 73 = .ok (.getfield 7, 3) := by decide +kernel
theorem dX7_lies_76 : decode cX7_lies 76 = .ok (.iload_n 2, 1) := by decide +kernel
theorem dX7_lies_77 : decode cX7_lies 77 = .ok (.bipush 9, 2) := by decide +kernel
theorem dX7_lies_79 : decode cX7_lies 79 = .ok (.iload_n 1, 1) := by decide +kernel
theorem dX7_lies_80 : decode cX7_lies 80 = .ok (.iadd, 1) := by decide +kernel
theorem dX7_lies_81 : decode cX7_lies 81 = .ok (.invokestatic 36, 3) := by decide +kernel
theorem dX7_lies_84 : decode cX7_lies 84 = .ok (.iload 4, 2) := by decide +kernel
theorem dX7_lies_86 : decode cX7_lies 86 = .ok (.iastore, 1) := by decide +kernel
theorem dX7_lies_87 : decode cX7_lies 87 = .ok (.iload 5, 2) := by decide +kernel
theorem dX7_lies_89 : decode cX7_lies 89 = .ok (.ireturn, 1) := by decide +kernel
theorem dX7_looks_0 : decode cX7_looks 0 = .ok (.iconst 0, 1) := by decide +kernel
theorem dX7_looks_1 : decode cX7_looks 1 = .ok (.istore_n 1, 1) := by decide +kernel
theorem dX7_looks_2 : decode cX7_looks 2 = .ok (.iload_n 1, 1) := by decide +kernel
theorem dX7_looks_3 : decode cX7_looks 3 = .ok (.sipush 292, 3) := by decide +kernel
theorem dX7_looks_6 : decode cX7_looks 6 = .ok (.if_icmp .ge 21, 3) := by decide +kernel
theorem dX7_looks_9 : decode cX7_looks 9 = .ok (.aload_n 0, 1) := by decide +kernel
theorem dX7_looks_10 : decode cX7_looks 10 = .ok (.getfield 26, 3) := by decide +kernel
theorem dX7_looks_13 : decode cX7_looks 13 = .ok (.iload_n 1, 1) := by decide +kernel
theorem dX7_looks_14 : decode cX7_looks 14 = .ok (.aload_n 0, 1) := by decide +kernel
theorem dX7_looks_15 : decode cX7_looks 15 = .ok (.getfield 7, 3) := by decide +kernel
theorem dX7_looks_18 : decode cX7_looks 18 = .ok (.iload_n 1, 1) := by decide +kernel
theorem dX7_looks_19 : decode cX7_looks 19 = .ok (.iaload, 1) := by decide +kernel
theorem dX7_looks_20 : decode cX7_looks 20 = .ok (.iastore, 1) := by decide +kernel
theorem dX7_looks_21 : decode cX7_looks 21 = .ok (.iinc 1 1, 3) := by decide +kernel
theorem dX7_looks_24 : decode cX7_looks 24 = .ok (.goto (-22), 3) := by decide +kernel
theorem dX7_looks_27 : decode cX7_looks 27 = .ok (.return_, 1) := by decide +kernel
theorem dX7_makes_0 : decode cX7_makes 0 = .ok (.aload_n 0, 1) := by decide +kernel
theorem dX7_makes_1 : decode cX7_makes 1 = .ok (.sipush 256, 3) := by decide +kernel
theorem dX7_makes_4 : decode cX7_makes 4 = .ok (.invokevirtual 55, 3) := by decide +kernel
theorem dX7_makes_7 : decode cX7_makes 7 = .ok (.istore 4, 2) := by decide +kernel
theorem dX7_makes_9 : decode cX7_makes 9 = .ok (.aload_n 0, 1) := by decide +kernel
theorem dX7_makes_10 : decode cX7_makes 10 = .ok (.getfield 7, 3) := by decide +kernel
theorem dX7_makes_13 : decode cX7_makes 13 = .ok (.iload_n 1, 1) := by decide +kernel
theorem dX7_makes_14 : decode cX7_makes 14 = .ok (.iconst 0, 1) := by decide +kernel
theorem dX7_makes_15 : decode cX7_makes 15 = .ok (.iconst 0, 1) := by decide +kernel
theorem dX7_makes_16 : decode cX7_makes 16 = .ok (.invokestatic 40, 3) := by decide +kernel
theorem dX7_makes_19 : decode cX7_makes 19 = .ok (.iload_n 3, 1) := by decide +kernel
theorem dX7_makes_20 : decode cX7_makes 20 = .ok (.iastore, 1) := by decide +kernel
theorem dX7_makes_21 : decode cX7_makes 21 = .ok (.aload_n 0, 1) := by decide +kernel
theorem dX7_makes_22 : decode cX7_makes 22 = .ok (.getfield 7, 3) := by decide +kernel
theorem dX7_makes_25 : decode cX7_makes 25 = .ok (.iload_n 1, 1) := by decide +kernel
theorem dX7_makes_26 : decode cX7_makes 26 = .ok (.iconst 0, 1) := by decide +kernel
theorem dX7_makes_27 : decode cX7_makes 27 = .ok (.iconst 1, 1) := by decide +kernel
theorem dX7_makes_28 : decode cX7_makes 28 = .ok (.invokestatic 40, 3) := by decide +kernel
theorem dX7_makes_31 : decode cX7_makes 31 = .ok (.iload 4, 2) := by decide +kernel
theorem dX7_makes_33 : decode cX7_makes 33 = .ok (.iastore, 1) := by decide +kernel
theorem dX7_makes_34 : decode cX7_makes 34 = .ok (.aload_n 0, 1) := by decide +kernel
theorem dX7_makes_35 : decode cX7_makes 35 = .ok (.getfield 7, 3) := by decide +kernel
theorem dX7_makes_38 : decode cX7_makes 38 = .ok (.iload_n 1, 1) := by decide +kernel
theorem dX7_makes_39 : decode cX7_makes 39 = .ok (.iconst 0, 1) := by decide +kernel
theorem dX7_makes_40 : decode cX7_makes 40 = .ok (.iconst 2, 1) := by decide +kernel
theorem dX7_makes_41 : decode cX7_makes 41 = .ok (.invokestatic 40, 3) := by decide +kernel
theorem dX7_makes_44 : decode cX7_makes 44 = .ok (.iload_n 2, 1) := by decide +kernel
theorem dX7_makes_45 : decode cX7_makes 45 = .ok (.sipush 256, 3) := by decide +kernel
theorem dX7_makes_48 : decode cX7_makes 48 = .ok (.iadd, 1) := by decide +kernel
theorem dX7_makes_49 : decode cX7_makes 49 = .ok (.iload 4, 2) := by decide +kernel
theorem dX7_makes_51 : decode cX7_makes 51 = .ok (.isub, 1) := by decide +kernel
theorem dX7_makes_52 : decode cX7_makes 52 = .ok (.sipush 256, 3) := by decide +kernel
theorem dX7_makes_55 : decode cX7_makes 55 = .ok (.irem, 1) := by decide +kernel
theorem dX7_makes_56 : decode cX7_makes 56 = .ok (.iastore, 1) := by decide +kernel
theorem dX7_makes_57 : decode cX7_makes 57 = .ok (.aload_n 0, 1) := by decide +kernel
theorem dX7_makes_58 : decode cX7_makes 58 = .ok (.getfield 7, 3) := by decide +kernel
theorem dX7_makes_61 : decode cX7_makes 61 = .ok (.iload_n 1, 1) := by decide +kernel
theorem dX7_makes_62 : decode cX7_makes 62 = .ok (.iconst 0, 1) := by decide +kernel
theorem dX7_makes_63 : decode cX7_makes 63 = .ok (.iconst 3, 1) := by decide +kernel
theorem dX7_makes_64 : decode cX7_makes 64 = .ok (.invokestatic 40, 3) := by decide +kernel
theorem dX7_makes_67 : decode cX7_makes 67 = .ok (.iconst 0, 1) := by decide +kernel
theorem dX7_makes_68 : decode cX7_makes 68 = .ok (.iastore, 1) := by decide +kernel
theorem dX7_makes_69 : decode cX7_makes 69 = .ok (.iconst 0, 1) := by decide +kernel
theorem dX7_makes_70 : decode cX7_makes 70 = .ok (.istore 5, 2) := by decide +kernel
theorem dX7_makes_72 : decode cX7_makes 72 = .ok (.iload 5, 2) := by decide +kernel
theorem dX7_makes_74 : decode cX7_makes 74 = .ok (.iconst 2, 1) := by decide +kernel
theorem dX7_makes_75 : decode cX7_makes 75 = .ok (.if_icmp .ge 53, 3) := by decide +kernel
theorem dX7_makes_78 : decode cX7_makes 78 = .ok (.aload_n 0, 1) := by decide +kernel
theorem dX7_makes_79 : decode cX7_makes 79 = .ok (.getfield 7, 3) := by decide +kernel
theorem dX7_makes_82 : decode cX7_makes 82 = .ok (.iload_n 1, 1) := by decide +kernel
theorem dX7_makes_83 : decode cX7_makes 83 = .ok (.bipush 11, 2) := by decide +kernel
theorem dX7_makes_85 : decode cX7_makes 85 = .ok (.iload 5, 2) := by decide +kernel
theorem dX7_makes_87 : decode cX7_makes 87 = .ok (.iadd, 1) := by decide +kernel
theorem dX7_makes_88 : decode cX7_makes 88 = .ok (.invokestatic 36, 3) := by decide +kernel
theorem dX7_makes_91 : decode cX7_makes 91 = .ok (.aload_n 0, 1) := by decide +kernel
theorem dX7_makes_92 : decode cX7_makes 92 = .ok (.sipush 256, 3) := by decide +kernel
theorem dX7_makes_95 : decode cX7_makes 95 = .ok (.invokevirtual 55, 3) := by decide +kernel
theorem dX7_makes_98 : decode cX7_makes 98 = .ok (.iconst 1, 1) := by decide +kernel
theorem dX7_makes_99 : decode cX7_makes 99 = .ok (.iadd, 1) := by decide +kernel
theorem dX7_makes_100 : decode cX7_makes 100 = .ok (.iastore, 1) := by decide +kernel
theorem dX7_makes_101 : decode cX7_makes 101 = .ok (.aload_n 0, 1) := by decide +kernel
theorem dX7_makes_102 : decode cX7_makes 102 = .ok (.getfield 7, 3) := by decide +kernel
theorem dX7_makes_105 : decode cX7_makes 105 = .ok (.iload_n 1, 1) := by decide +kernel
theorem dX7_makes_106 : decode cX7_makes 106 = .ok (.bipush 13, 2) := by decide +kernel
theorem dX7_makes_108 : decode cX7_makes 108 = .ok (.iload 5, 2) := by decide +kernel
theorem dX7_makes_110 : decode cX7_makes 110 = .ok (.iadd, 1) := by decide +kernel
theorem dX7_makes_111 : decode cX7_makes 111 = .ok (.invokestatic 36, 3) := by decide +kernel
theorem dX7_makes_114 : decode cX7_makes 114 = .ok (.aload_n 0, 1) := by decide +kernel
theorem dX7_makes_115 : decode cX7_makes 115 = .ok (.sipush 257, 3) := by decide +kernel
theorem dX7_makes_118 : decode cX7_makes 118 = .ok (.invokevirtual 55, 3) := by decide +kernel
theorem dX7_makes_121 : decode cX7_makes 121 = .ok (.iastore, 1) := by decide +kernel
theorem dX7_makes_122 : decode cX7_makes 122 = .ok (.iinc 5 1, 3) := by decide +kernel
theorem dX7_makes_125 : decode cX7_makes 125 = .ok (.goto (-53), 3) := by decide +kernel
theorem dX7_makes_128 : decode cX7_makes 128 = .ok (.aload_n 0, 1) := by decide +kernel
theorem dX7_makes_129 : decode cX7_makes 129 = .ok (.getfield 7, 3) := by decide +kernel
theorem dX7_makes_132 : decode cX7_makes 132 = .ok (.bipush 8, 2) := by decide +kernel
theorem dX7_makes_134 : decode cX7_makes 134 = .ok (.dup2, 1) := by decide +kernel
theorem dX7_makes_135 : decode cX7_makes 135 = .ok (.iaload, 1) := by decide +kernel
theorem dX7_makes_136 : decode cX7_makes 136 = .ok (.iconst 1, 1) := by decide +kernel
theorem dX7_makes_137 : decode cX7_makes 137 = .ok (.iadd, 1) := by decide +kernel
theorem dX7_makes_138 : decode cX7_makes 138 = .ok (.iastore, 1) := by decide +kernel
theorem dX7_makes_139 : decode cX7_makes 139 = .ok (.return_, 1) := by decide +kernel
theorem dX7_merge_0 : decode cX7_merge 0 = .ok (.aload_n 0, 1) := by decide +kernel
theorem dX7_merge_1 : decode cX7_merge 1 = .ok (.bipush 109, 2) := by decide +kernel
theorem dX7_merge_3 : decode cX7_merge 3 = .ok (.iload_n 1, 1) := by decide +kernel
theorem dX7_merge_4 : decode cX7_merge 4 = .ok (.iconst 0, 1) := by decide +kernel
theorem dX7_merge_5 : decode cX7_merge 5 = .ok (.iconst 0, 1) := by decide +kernel
theorem dX7_merge_6 : decode cX7_merge 6 = .ok (.iconst 0, 1) := by decide +kernel
theorem dX7_merge_7 : decode cX7_merge 7 = .ok (.invokevirtual 145, 3) := by decide +kernel
theorem dX7_merge_10 : decode cX7_merge 10 = .ok (.ireturn, 1) := by decide +kernel
theorem dX7_merged_0 : decode cX7_merged 0 = .ok (.aload_n 0, 1) := by decide +kernel
theorem dX7_merged_1 : decode cX7_merged 1 = .ok (.iconst 1, 1) := by decide +kernel
theorem dX7_merged_2 : decode cX7_merged 2 = .ok (.iload_n 1, 1) := by decide +kernel
theorem dX7_merged_3 : decode cX7_merged 3 = .ok (.invokevirtual 83, 3) := by decide +kernel
theorem dX7_merged_6 : decode cX7_merged 6 = .ok (.ifCond .ne 7, 3) := by decide +kernel
theorem dX7_merged_9 : decode cX7_merged 9 = .ok (.sipush 1000, 3) := by decide +kernel
theorem dX7_merged_12 : decode cX7_merged 12 = .ok (.ireturn, 1) := by decide +kernel
theorem dX7_merged_13 : decode cX7_merged 13 = .ok (.aload_n 0, 1) := by decide +kernel
theorem dX7_merged_14 : decode cX7_merged 14 = .ok (.iconst 0, 1) := by decide +kernel
theorem dX7_merged_15 : decode cX7_merged 15 = .ok (.iload_n 1, 1) := by decide +kernel
theorem dX7_merged_16 : decode cX7_merged 16 = .ok (.invokevirtual 83, 3) := by decide +kernel
theorem dX7_merged_19 : decode cX7_merged 19 = .ok (.ifCond .ne 7, 3) := by decide +kernel
theorem dX7_merged_22 : decode cX7_merged 22 = .ok (.sipush 1001, 3) := by decide +kernel
theorem dX7_merged_25 : decode cX7_merged 25 = .ok (.ireturn, 1) := by decide +kernel
theorem dX7_merged_26 : decode cX7_merged 26 = .ok (.aload_n 0, 1) := by decide +kernel
theorem dX7_merged_27 : decode cX7_merged 27 = .ok (.iconst 0, 1) := by decide +kernel
theorem dX7_merged_28 : decode cX7_merged 28 = .ok (.iload_n 1, 1) := by decide +kernel
theorem dX7_merged_29 : decode cX7_merged 29 = .ok (.aload_n 0, 1) := by decide +kernel
theorem dX7_merged_30 : decode cX7_merged 30 = .ok (.getfield 7, 3) := by decide +kernel
theorem dX7_merged_33 : decode cX7_merged 33 = .ok (.iload_n 1, 1) := by decide +kernel
theorem dX7_merged_34 : decode cX7_merged 34 = .ok (.bipush 7, 2) := by decide +kernel
theorem dX7_merged_36 : decode cX7_merged 36 = .ok (.invokestatic 36, 3) := by decide +kernel
theorem dX7_merged_39 : decode cX7_merged 39 = .ok (.iaload, 1) := by decide +kernel
theorem dX7_merged_40 : decode cX7_merged 40 = .ok (.invokevirtual 73, 3) := by decide +kernel
theorem dX7_merged_43 : decode cX7_merged 43 = .ok (.aload_n 0, 1) := by decide +kernel
theorem dX7_merged_44 : decode cX7_merged 44 = .ok (.iconst 1, 1) := by decide +kernel
theorem dX7_merged_45 : decode cX7_merged 45 = .ok (.iload_n 1, 1) := by decide +kernel
theorem dX7_merged_46 : decode cX7_merged 46 = .ok (.aload_n 0, 1) := by decide +kernel
theorem dX7_merged_47 : decode cX7_merged 47 = .ok (.getfield 7, 3) := by decide +kernel
theorem dX7_merged_50 : decode cX7_merged 50 = .ok (.iload_n 1, 1) := by decide +kernel
theorem dX7_merged_51 : decode cX7_merged 51 = .ok (.bipush 8, 2) := by decide +kernel
theorem dX7_merged_53 : decode cX7_merged 53 = .ok (.invokestatic 36, 3) := by decide +kernel
theorem dX7_merged_56 : decode cX7_merged 56 = .ok (.iaload, 1) := by decide +kernel
theorem dX7_merged_57 : decode cX7_merged 57 = .ok (.invokevirtual 73, 3) := by decide +kernel
theorem dX7_merged_60 : decode cX7_merged 60 = .ok (.iadd, 1) := by decide +kernel
theorem dX7_merged_61 : decode cX7_merged 61 = .ok (.sipush 256, 3) := by decide +kernel
theorem dX7_merged_64 : decode cX7_merged 64 = .ok (.irem, 1) := by decide +kernel
theorem dX7_merged_65 : decode cX7_merged 65 = .ok (.ireturn, 1) := by decide +kernel
theorem dX7_merges_0 : decode cX7_merges 0 = .ok (.aload_n 0, 1) := by decide +kernel
theorem dX7_merges_1 : decode cX7_merges 1 = .ok (.iload_n 1, 1) := by decide +kernel
theorem dX7_merges_2 : decode cX7_merges 2 = .ok (.invokevirtual 87, 3) := by decide +kernel
theorem dX7_merges_5 : decode cX7_merges 5 = .ok (.ifCond .ne 5, 3) := by decide +kernel
theorem dX7_merges_8 : decode cX7_merges 8 = .ok (.iconst (-1), 1) := by decide +kernel
theorem dX7_merges_9 : decode cX7_merges 9 = .ok (.ireturn, 1) := by decide +kernel
theorem dX7_merges_10 : decode cX7_merges 10 = .ok (.aload_n 0, 1) := by decide +kernel
theorem dX7_merges_11 : decode cX7_merges 11 = .ok (.invokevirtual 59, 3) := by decide +kernel
theorem dX7_merges_14 : decode cX7_merges 14 = .ok (.ifCond .ne 6, 3) := by decide +kernel
theorem dX7_merges_17 : decode cX7_merges 17 = .ok (.bipush (-5), 2) := by decide +kernel
theorem dX7_merges_19 : decode cX7_merges 19 = .ok (.ireturn, 1) := by decide +kernel
theorem dX7_merges_20 : decode cX7_merges 20 = .ok (.aload_n 0, 1) := by decide +kernel
theorem dX7_merges_21 : decode cX7_merges 21 = .ok (.iload_n 1, 1) := by decide +kernel
theorem dX7_merges_22 : decode cX7_merges 22 = .ok (.invokevirtual 101, 3) := by decide +kernel
theorem dX7_merges_25 : decode cX7_merges 25 = .ok (.istore_n 2, 1) := by decide +kernel
theorem dX7_merges_26 : decode cX7_merges 26 = .ok (.iload_n 2, 1) := by decide +kernel
theorem dX7_merges_27 : decode cX7_merges 27 = .ok (.sipush 1000, 3) := by decide +kernel
theorem dX7_merges_30 : decode cX7_merges 30 = .ok (.if_icmp .lt 31, 3) := by decide +kernel
theorem dX7_merges_33 : decode cX7_merges 33 = .ok (.aload_n 0, 1) := by decide +kernel
theorem dX7_merges_34 : decode cX7_merges 34 = .ok (.getfield 7, 3) := by decide +kernel
theorem dX7_merges_37 : decode cX7_merges 37 = .ok (.iload_n 1, 1) := by decide +kernel
theorem dX7_merges_38 : decode cX7_merges 38 = .ok (.iconst 3, 1) := by decide +kernel
theorem dX7_merges_39 : decode cX7_merges 39 = .ok (.invokestatic 36, 3) := by decide +kernel
theorem dX7_merges_42 : decode cX7_merges 42 = .ok (.dup2, 1) := by decide +kernel
theorem dX7_merges_43 : decode cX7_merges 43 = .ok (.iaload, 1) := by decide +kernel
theorem dX7_merges_44 : decode cX7_merges 44 = .ok (.iconst 1, 1) := by decide +kernel
theorem dX7_merges_45 : decode cX7_merges 45 = .ok (.iadd, 1) := by decide +kernel
theorem dX7_merges_46 : decode cX7_merges 46 = .ok (.iastore, 1) := by decide +kernel
theorem dX7_merges_47 : decode cX7_merges 47 = .ok (.aload_n 0, 1) := by decide +kernel
theorem dX7_merges_48 : decode cX7_merges 48 = .ok (.getfield 7, 3) := by decide +kernel
theorem dX7_merges_51 : decode cX7_merges 51 = .ok (.bipush 10, 2) := by decide +kernel
theorem dX7_merges_53 : decode cX7_merges 53 = .ok (.dup2, 1) := by decide +kernel
theorem dX7_merges_54 : decode cX7_merges 54 = .ok (.iaload, 1) := by decide +kernel
theorem dX7_merges_55 : decode cX7_merges 55 = .ok (.iconst 1, 1) := by decide +kernel
theorem dX7_merges_56 : decode cX7_merges 56 = .ok (.iadd, 1) := by decide +kernel
theorem dX7_merges_57 : decode cX7_merges 57 = .ok (.iastore, 1) := by decide +kernel
theorem dX7_merges_58 : decode cX7_merges 58 = .ok (.goto 67, 3) := by decide +kernel
theorem dX7_merges_61 : decode cX7_merges 61 = .ok (.aload_n 0, 1) := by decide +kernel
theorem dX7_merges_62 : decode cX7_merges 62 = .ok (.getfield 7, 3) := by decide +kernel
theorem dX7_merges_65 : decode cX7_merges 65 = .ok (.iload_n 1, 1) := by decide +kernel
theorem dX7_merges_66 : decode cX7_merges 66 = .ok (.iconst 1, 1) := by decide +kernel
theorem dX7_merges_67 : decode cX7_merges 67 = .ok (.invokestatic 36, 3) := by decide +kernel
theorem dX7_merges_70 : decode cX7_merges 70 = .ok (.iload_n 2, 1) := by decide +kernel
theorem dX7_merges_71 : decode cX7_merges 71 = .ok (.iastore, 1) := by decide +kernel
theorem dX7_merges_72 : decode cX7_merges 72 = .ok (.aload_n 0, 1) := by decide +kernel
theorem dX7_merges_73 : decode cX7_merges 73 = .ok (.getfield 7, 3) := by decide +kernel
theorem dX7_merges_76 : decode cX7_merges 76 = .ok (.iload_n 1, 1) := by decide +kernel
theorem dX7_merges_77 : decode cX7_merges 77 = .ok (.iconst 2, 1) := by decide +kernel
theorem dX7_merges_78 : decode cX7_merges 78 = .ok (.invokestatic 36, 3) := by decide +kernel
theorem dX7_merges_81 : decode cX7_merges 81 = .ok (.aload_n 0, 1) := by decide +kernel
theorem dX7_merges_82 : decode cX7_merges 82 = .ok (.getfield 7, 3) := by decide +kernel
theorem dX7_merges_85 : decode cX7_merges 85 = .ok (.iconst 0, 1) := by decide +kernel
theorem dX7_merges_86 : decode cX7_merges 86 = .ok (.iaload, 1) := by decide +kernel
theorem dX7_merges_87 : decode cX7_merges 87 = .ok (.iastore, 1) := by decide +kernel
theorem dX7_merges_88 : decode cX7_merges 88 = .ok (.aload_n 0, 1) := by decide +kernel
theorem dX7_merges_89 : decode cX7_merges 89 = .ok (.getfield 7, 3) := by decide +kernel
theorem dX7_merges_92 : decode cX7_merges 92 = .ok (.iload_n 1, 1) := by decide +kernel
theorem dX7_merges_93 : decode cX7_merges 93 = .ok (.iconst 4, 1) := by decide +kernel
theorem dX7_merges_94 : decode cX7_merges 94 = .ok (.invokestatic 36, 3) := by decide +kernel
theorem dX7_merges_97 : decode cX7_merges 97 = .ok (.dup2, 1) := by decide +kernel
theorem dX7_merges_98 : decode cX7_merges 98 = .ok (.iaload, 1) := by decide +kernel
theorem dX7_merges_99 : decode cX7_merges 99 = .ok (.iconst 1, 1) := by decide +kernel
theorem dX7_merges_100 : decode cX7_merges 100 = .ok (.iadd, 1) := by decide +kernel
theorem dX7_merges_101 : decode cX7_merges 101 = .ok (.iastore, 1) := by decide +kernel
theorem dX7_merges_102 : decode cX7_merges 102 = .ok (.aload_n 0, 1) := by decide +kernel
theorem dX7_merges_103 : decode cX7_merges 103 = .ok (.getfield 7, 3) := by decide +kernel
theorem dX7_merges_106 : decode cX7_merges 106 = .ok (.bipush 11, 2) := by decide +kernel
theorem dX7_merges_108 : decode cX7_merges 108 = .ok (.dup2, 1) := by decide +kernel
theorem dX7_merges_109 : decode cX7_merges 109 = .ok (.iaload, 1) := by decide +kernel
theorem dX7_merges_110 : decode cX7_merges 110 = .ok (.aload_n 0, 1) := by decide +kernel
theorem dX7_merges_111 : decode cX7_merges 111 = .ok (.iload_n 1, 1) := by decide +kernel
theorem dX7_merges_112 : decode cX7_merges 112 = .ok (.invokevirtual 104, 3) := by decide +kernel
theorem dX7_merges_115 : decode cX7_merges 115 = .ok (.ifCond .eq 7, 3) := by decide +kernel
theorem dX7_merges_118 : decode cX7_merges 118 = .ok (.iconst 1, 1) := by decide +kernel
theorem dX7_merges_119 : decode cX7_merges 119 = .ok (.goto 4, 3) := by decide +kernel
theorem dX7_merges_122 : decode cX7_merges 122 = .ok (.iconst 0, 1) := by decide +kernel
theorem dX7_merges_123 : decode cX7_merges 123 = .ok (.iadd, 1) := by decide +kernel
theorem dX7_merges_124 : decode cX7_merges 124 = .ok (.iastore, 1) := by decide +kernel
theorem dX7_merges_125 : decode cX7_merges 125 = .ok (.iload_n 2, 1) := by decide +kernel
theorem dX7_merges_126 : decode cX7_merges 126 = .ok (.ireturn, 1) := by decide +kernel
theorem dX7_needed_0 : decode cX7_needed 0 = .ok (.aload_n 0, 1) := by decide +kernel
theorem dX7_needed_1 : decode cX7_needed 1 = .ok (.iload_n 1, 1) := by decide +kernel
theorem dX7_needed_2 : decode cX7_needed 2 = .ok (.invokevirtual 87, 3) := by decide +kernel
theorem dX7_needed_5 : decode cX7_needed 5 = .ok (.ifCond .ne 5, 3) := by decide +kernel
theorem dX7_needed_8 : decode cX7_needed 8 = .ok (.iconst (-1), 1) := by decide +kernel
theorem dX7_needed_9 : decode cX7_needed 9 = .ok (.ireturn, 1) := by decide +kernel
theorem dX7_needed_10 : decode cX7_needed 10 = .ok (.aload_n 0, 1) := by decide +kernel
theorem dX7_needed_11 : decode cX7_needed 11 = .ok (.getfield 7, 3) := by decide +kernel
theorem dX7_needed_14 : decode cX7_needed 14 = .ok (.iload_n 1, 1) := by decide +kernel
theorem dX7_needed_15 : decode cX7_needed 15 = .ok (.iconst 5, 1) := by decide +kernel
theorem dX7_needed_16 : decode cX7_needed 16 = .ok (.invokestatic 36, 3) := by decide +kernel
theorem dX7_needed_19 : decode cX7_needed 19 = .ok (.iaload, 1) := by decide +kernel
theorem dX7_needed_20 : decode cX7_needed 20 = .ok (.iconst 1, 1) := by decide +kernel
theorem dX7_needed_21 : decode cX7_needed 21 = .ok (.if_icmp .ne 7, 3) := by decide +kernel
theorem dX7_needed_24 : decode cX7_needed 24 = .ok (.iconst 0, 1) := by decide +kernel
theorem dX7_needed_25 : decode cX7_needed 25 = .ok (.goto 16, 3) := by decide +kernel
theorem dX7_needed_28 : decode cX7_needed 28 = .ok (.aload_n 0, 1) := by decide +kernel
theorem dX7_needed_29 : decode cX7_needed 29 = .ok (.iload_n 1, 1) := by decide +kernel
theorem dX7_needed_30 : decode cX7_needed 30 = .ok (.invokevirtual 154, 3) := by decide +kernel
theorem dX7_needed_33 : decode cX7_needed 33 = .ok (.ifCond .le 7, 3) := by decide +kernel
theorem dX7_needed_36 : decode cX7_needed 36 = .ok (.iconst 1, 1) := by decide +kernel
theorem dX7_needed_37 : decode cX7_needed 37 = .ok (.goto 4, 3) := by decide +kernel
theorem dX7_needed_40 : decode cX7_needed 40 = .ok (.iconst 2, 1) := by decide +kernel
theorem dX7_needed_41 : decode cX7_needed 41 = .ok (.ireturn, 1) := by decide +kernel
theorem dX7_of_0 : decode cX7_of 0 = .ok (.iload_n 1, 1) := by decide +kernel
theorem dX7_of_1 : decode cX7_of 1 = .ok (.invokestatic 98, 3) := by decide +kernel
theorem dX7_of_4 : decode cX7_of 4 = .ok (.ifCond .eq 11, 3) := by decide +kernel
theorem dX7_of_7 : decode cX7_of 7 = .ok (.aload_n 0, 1) := by decide +kernel
theorem dX7_of_8 : decode cX7_of 8 = .ok (.iload_n 2, 1) := by decide +kernel
theorem dX7_of_9 : decode cX7_of 9 = .ok (.invokevirtual 87, 3) := by decide +kernel
theorem dX7_of_12 : decode cX7_of 12 = .ok (.ifCond .ne 5, 3) := by decide +kernel
theorem dX7_of_15 : decode cX7_of 15 = .ok (.iconst (-1), 1) := by decide +kernel
theorem dX7_of_16 : decode cX7_of 16 = .ok (.ireturn, 1) := by decide +kernel
theorem dX7_of_17 : decode cX7_of 17 = .ok (.aload_n 0, 1) := by decide +kernel
theorem dX7_of_18 : decode cX7_of 18 = .ok (.getfield 7, 3) := by decide +kernel
theorem dX7_of_21 : decode cX7_of 21 = .ok (.iload_n 2, 1) := by decide +kernel
theorem dX7_of_22 : decode cX7_of 22 = .ok (.bipush 7, 2) := by decide +kernel
theorem dX7_of_24 : decode cX7_of 24 = .ok (.iload_n 1, 1) := by decide +kernel
theorem dX7_of_25 : decode cX7_of 25 = .ok (.iadd, 1) := by decide +kernel
theorem dX7_of_26 : decode cX7_of 26 = .ok (.invokestatic 36, 3) := by decide +kernel
theorem dX7_of_29 : decode cX7_of 29 = .ok (.iaload, 1) := by decide +kernel
theorem dX7_of_30 : decode cX7_of 30 = .ok (.istore 4, 2) := by decide +kernel
theorem dX7_of_32 : decode cX7_of 32 = .ok (.aload_n 0, 1) := by decide +kernel
theorem dX7_of_33 : decode cX7_of 33 = .ok (.getfield 7, 3) := by decide +kernel
theorem dX7_of_36 : decode cX7_of 36 = .ok (.iload_n 2, 1) := by decide +kernel
theorem dX7_of_37 : decode cX7_of 37 = .ok (.bipush 9, 2) := by decide +kernel
theorem dX7_of_39 : decode cX7_of 39 = .ok (.iload_n 1, 1) := by decide +kernel
theorem dX7_of_40 : decode cX7_of 40 = .ok (.iadd, 1) := by decide +kernel
theorem dX7_of_41 : decode cX7_of 41 = .ok (.invokestatic 36, 3) := by decide +kernel
theorem dX7_of_44 : decode cX7_of 44 = .ok (.iaload, 1) := by decide +kernel
theorem dX7_of_45 : decode cX7_of 45 = .ok (.istore 5, 2) := by decide +kernel
theorem dX7_of_47 : decode cX7_of 47 = .ok (.iload_n 3, 1) := by decide +kernel
theorem dX7_of_48 : decode cX7_of 48 = .ok (.tableswitch 119 0 7 #[48, 55, 62, 76, 90, 93, 96, 105], 48) := by decide +kernel
theorem dX7_of_96 : decode cX7_of 96 = .ok (.aload_n 0, 1) := by decide +kernel
theorem dX7_of_97 : decode cX7_of 97 = .ok (.iload_n 1, 1) := by decide +kernel
theorem dX7_of_98 : decode cX7_of 98 = .ok (.iload_n 2, 1) := by decide +kernel
theorem dX7_of_99 : decode cX7_of 99 = .ok (.invokevirtual 63, 3) := by decide +kernel
theorem dX7_of_102 : decode cX7_of 102 = .ok (.ireturn, 1) := by decide +kernel
theorem dX7_of_103 : decode cX7_of 103 = .ok (.aload_n 0, 1) := by decide +kernel
theorem dX7_of_104 : decode cX7_of 104 = .ok (.iload_n 1, 1) := by decide +kernel
theorem dX7_of_105 : decode cX7_of 105 = .ok (.iload_n 2, 1) := by decide +kernel
theorem dX7_of_106 : decode cX7_of 106 = .ok (.invokevirtual 76, 3) := by decide +kernel
theorem dX7_of_109 : decode cX7_of 109 = .ok (.ireturn, 1) := by decide +kernel
theorem dX7_of_110 : decode cX7_of 110 = .ok (.aload_n 0, 1) := by decide +kernel
theorem dX7_of_111 : decode cX7_of 111 = .ok (.getfield 7, 3) := by decide +kernel
theorem dX7_of_114 : decode cX7_of 114 = .ok (.iload_n 2, 1) := by decide +kernel
theorem dX7_of_115 : decode cX7_of 115 = .ok (.bipush 12, 2) := by decide +kernel
theorem dX7_of_117 : decode cX7_of 117 = .ok (.iload_n 1, 1) := by decide +kernel
theorem dX7_of_118 : decode cX7_of 118 = .ok (.isub, 1) := by decide +kernel
theorem dX7_of_119 : decode cX7_of 119 = .ok (.invokestatic 36, 3) := by decide +kernel
theorem dX7_of_122 : decode cX7_of 122 = .ok (.iaload, 1) := by decide +kernel
theorem dX7_of_123 : decode cX7_of 123 = .ok (.ireturn, 1) := by decide +kernel
theorem dX7_of_124 : decode cX7_of 124 = .ok (.aload_n 0, 1) := by decide +kernel
theorem dX7_of_125 : decode cX7_of 125 = .ok (.getfield 7, 3) := by decide +kernel
theorem dX7_of_128 : decode cX7_of 128 = .ok (.iload_n 2, 1) := by decide +kernel
theorem dX7_of_129 : decode cX7_of 129 = .ok (.bipush 14, 2) := by decide +kernel
theorem dX7_of_131 : decode cX7_of 131 = .ok (.iload_n 1, 1) := by decide +kernel
theorem dX7_of_132 : decode cX7_of 132 = .ok (.isub, 1) := by decide +kernel
theorem dX7_of_133 : decode cX7_of 133 = .ok (.invokestatic 36, 3) := by decide +kernel
theorem dX7_of_136 : decode cX7_of 136 = .ok (.iaload, 1) := by decide +kernel
theorem dX7_of_137 : decode cX7_of 137 = .ok (.ireturn, 1) := by decide +kernel
theorem dX7_of_138 : decode cX7_of 138 = .ok (.iload 4, 2) := by decide +kernel
theorem dX7_of_140 : decode cX7_of 140 = .ok (.ireturn, 1) := by decide +kernel
theorem dX7_of_141 : decode cX7_of 141 = .ok (.iload 5, 2) := by decide +kernel
theorem dX7_of_143 : decode cX7_of 143 = .ok (.ireturn, 1) := by decide +kernel
theorem dX7_of_144 : decode cX7_of 144 = .ok (.aload_n 0, 1) := by decide +kernel
theorem dX7_of_145 : decode cX7_of 145 = .ok (.iload_n 1, 1) := by decide +kernel
theorem dX7_of_146 : decode cX7_of 146 = .ok (.iload_n 2, 1) := by decide +kernel
theorem dX7_of_147 : decode cX7_of 147 = .ok (.iload 4, 2) := by decide +kernel
theorem dX7_of_149 : decode cX7_of 149 = .ok (.invokevirtual 73, 3) := by decide +kernel
theorem dX7_of_152 : decode cX7_of 152 = .ok (.ireturn, 1) := by decide +kernel
theorem dX7_of_153 : decode cX7_of 153 = .ok (.aload_n 0, 1) := by decide +kernel
theorem dX7_of_154 : decode cX7_of 154 = .ok (.iload_n 1, 1) := by decide +kernel
theorem dX7_of_155 : decode cX7_of 155 = .ok (.iload_n 2, 1) := by decide +kernel
theorem dX7_of_156 : decode cX7_of 156 = .ok (.invokevirtual 76, 3) := by decide +kernel
theorem dX7_of_159 : decode cX7_of 159 = .ok (.iload 5, 2) := by decide +kernel
theorem dX7_of_161 : decode cX7_of 161 = .ok (.iadd, 1) := by decide +kernel
theorem dX7_of_162 : decode cX7_of 162 = .ok (.sipush 257, 3) := by decide +kernel
theorem dX7_of_165 : decode cX7_of 165 = .ok (.irem, 1) := by decide +kernel
theorem dX7_of_166 : decode cX7_of 166 = .ok (.ireturn, 1) := by decide +kernel
theorem dX7_of_167 : decode cX7_of 167 = .ok (.bipush (-2), 2) := by decide +kernel
theorem dX7_of_169 : decode cX7_of 169 = .ok (.ireturn, 1) := by decide +kernel
theorem dX7_ofSecret_0 : decode cX7_ofSecret 0 = .ok (.aload_n 0, 1) := by decide +kernel
theorem dX7_ofSecret_1 : decode cX7_ofSecret 1 = .ok (.iload_n 1, 1) := by decide +kernel
theorem dX7_ofSecret_2 : decode cX7_ofSecret 2 = .ok (.invokevirtual 87, 3) := by decide +kernel
theorem dX7_ofSecret_5 : decode cX7_ofSecret 5 = .ok (.ifCond .ne 5, 3) := by decide +kernel
theorem dX7_ofSecret_8 : decode cX7_ofSecret 8 = .ok (.iconst (-1), 1) := by decide +kernel
theorem dX7_ofSecret_9 : decode cX7_ofSecret 9 = .ok (.ireturn, 1) := by decide +kernel
theorem dX7_ofSecret_10 : decode cX7_ofSecret 10 = .ok (.iload_n 2, 1) := by decide +kernel
theorem dX7_ofSecret_11 : decode cX7_ofSecret 11 = .ok (.tableswitch 153 0 7 #[45, 57, 68, 97, 108, 119, 130, 142], 45) := by decide +kernel
theorem dX7_ofSecret_56 : decode cX7_ofSecret 56 = .ok (.aload_n 0, 1) := by decide +kernel
theorem dX7_ofSecret_57 : decode cX7_ofSecret 57 = .ok (.getfield 7, 3) := by decide +kernel
theorem dX7_ofSecret_60 : decode cX7_ofSecret 60 = .ok (.iload_n 1, 1) := by decide +kernel
theorem dX7_ofSecret_61 : decode cX7_ofSecret 61 = .ok (.iconst 0, 1) := by decide +kernel
theorem dX7_ofSecret_62 : decode cX7_ofSecret 62 = .ok (.iconst 0, 1) := by decide +kernel
theorem dX7_ofSecret_63 : decode cX7_ofSecret 63 = .ok (.invokestatic 40, 3) := by decide +kernel
theorem dX7_ofSecret_66 : decode cX7_ofSecret 66 = .ok (.iaload, 1) := by decide +kernel
theorem dX7_ofSecret_67 : decode cX7_ofSecret 67 = .ok (.ireturn, 1) := by decide +kernel
theorem dX7_ofSecret_68 : decode cX7_ofSecret 68 = .ok (.aload_n 0, 1) := by decide +kernel
theorem dX7_ofSecret_69 : decode cX7_ofSecret 69 = .ok (.getfield 7, 3) := by decide +kernel
theorem dX7_ofSecret_72 : decode cX7_ofSecret 72 = .ok (.iload_n 1, 1) := by decide +kernel
theorem dX7_ofSecret_73 : decode cX7_ofSecret 73 = .ok (.iconst 0, 1) := by decide +kernel
theorem dX7_ofSecret_74 : decode cX7_ofSecret 74 = .ok (.invokestatic 36, 3) := by decide +kernel
theorem dX7_ofSecret_77 : decode cX7_ofSecret 77 = .ok (.iaload, 1) := by decide +kernel
theorem dX7_ofSecret_78 : decode cX7_ofSecret 78 = .ok (.ireturn, 1) := by decide +kernel
theorem dX7_ofSecret_79 : decode cX7_ofSecret 79 = .ok (.aload_n 0, 1) := by decide +kernel
theorem dX7_ofSecret_80 : decode cX7_ofSecret 80 = .ok (.getfield 7, 3) := by decide +kernel
theorem dX7_ofSecret_83 : decode cX7_ofSecret 83 = .ok (.iload_n 1, 1) := by decide +kernel
theorem dX7_ofSecret_84 : decode cX7_ofSecret 84 = .ok (.iconst 2, 1) := by decide +kernel
theorem dX7_ofSecret_85 : decode cX7_ofSecret 85 = .ok (.invokestatic 36, 3) := by decide +kernel
theorem dX7_ofSecret_88 : decode cX7_ofSecret 88 = .ok (.iaload, 1) := by decide +kernel
theorem dX7_ofSecret_89 : decode cX7_ofSecret 89 = .ok (.ifCond .le 16, 3) := by decide +kernel
theorem dX7_ofSecret_92 : decode cX7_ofSecret 92 = .ok (.aload_n 0, 1) := by decide +kernel
theorem dX7_ofSecret_93 : decode cX7_ofSecret 93 = .ok (.getfield 7, 3) := by decide +kernel
theorem dX7_ofSecret_96 : decode cX7_ofSecret 96 = .ok (.iload_n 1, 1) := by decide +kernel
theorem dX7_ofSecret_97 : decode cX7_ofSecret 97 = .ok (.iconst 1, 1) := by decide +kernel
theorem dX7_ofSecret_98 : decode cX7_ofSecret 98 = .ok (.invokestatic 36, 3) := by decide +kernel
theorem dX7_ofSecret_101 : decode cX7_ofSecret 101 = .ok (.iaload, 1) := by decide +kernel
theorem dX7_ofSecret_102 : decode cX7_ofSecret 102 = .ok (.goto 5, 3) := by decide +kernel
theorem dX7_ofSecret_105 : decode cX7_ofSecret 105 = .ok (.bipush (-6), 2) := by decide +kernel
theorem dX7_ofSecret_107 : decode cX7_ofSecret 107 = .ok (.ireturn, 1) := by decide +kernel
theorem dX7_ofSecret_108 : decode cX7_ofSecret 108 = .ok (.aload_n 0, 1) := by decide +kernel
theorem dX7_ofSecret_109 : decode cX7_ofSecret 109 = .ok (.getfield 7, 3) := by decide +kernel
theorem dX7_ofSecret_112 : decode cX7_ofSecret 112 = .ok (.iload_n 1, 1) := by decide +kernel
theorem dX7_ofSecret_113 : decode cX7_ofSecret 113 = .ok (.iconst 2, 1) := by decide +kernel
theorem dX7_ofSecret_114 : decode cX7_ofSecret 114 = .ok (.invokestatic 36, 3) := by decide +kernel
theorem dX7_ofSecret_117 : decode cX7_ofSecret 117 = .ok (.iaload, 1) := by decide +kernel
theorem dX7_ofSecret_118 : decode cX7_ofSecret 118 = .ok (.ireturn, 1) := by decide +kernel
theorem dX7_ofSecret_119 : decode cX7_ofSecret 119 = .ok (.aload_n 0, 1) := by decide +kernel
theorem dX7_ofSecret_120 : decode cX7_ofSecret 120 = .ok (.getfield 7, 3) := by decide +kernel
theorem dX7_ofSecret_123 : decode cX7_ofSecret 123 = .ok (.iload_n 1, 1) := by decide +kernel
theorem dX7_ofSecret_124 : decode cX7_ofSecret 124 = .ok (.iconst 3, 1) := by decide +kernel
theorem dX7_ofSecret_125 : decode cX7_ofSecret 125 = .ok (.invokestatic 36, 3) := by decide +kernel
theorem dX7_ofSecret_128 : decode cX7_ofSecret 128 = .ok (.iaload, 1) := by decide +kernel
theorem dX7_ofSecret_129 : decode cX7_ofSecret 129 = .ok (.ireturn, 1) := by decide +kernel
theorem dX7_ofSecret_130 : decode cX7_ofSecret 130 = .ok (.aload_n 0, 1) := by decide +kernel
theorem dX7_ofSecret_131 : decode cX7_ofSecret 131 = .ok (.getfield 7, 3) := by decide +kernel
theorem dX7_ofSecret_134 : decode cX7_ofSecret 134 = .ok (.iload_n 1, 1) := by decide +kernel
theorem dX7_ofSecret_135 : decode cX7_ofSecret 135 = .ok (.iconst 5, 1) := by decide +kernel
theorem dX7_ofSecret_136 : decode cX7_ofSecret 136 = .ok (.invokestatic 36, 3) := by decide +kernel
theorem dX7_ofSecret_139 : decode cX7_ofSecret 139 = .ok (.iaload, 1) := by decide +kernel
theorem dX7_ofSecret_140 : decode cX7_ofSecret 140 = .ok (.ireturn, 1) := by decide +kernel
theorem dX7_ofSecret_141 : decode cX7_ofSecret 141 = .ok (.aload_n 0, 1) := by decide +kernel
theorem dX7_ofSecret_142 : decode cX7_ofSecret 142 = .ok (.getfield 7, 3) := by decide +kernel
theorem dX7_ofSecret_145 : decode cX7_ofSecret 145 = .ok (.iload_n 1, 1) := by decide +kernel
theorem dX7_ofSecret_146 : decode cX7_ofSecret 146 = .ok (.bipush 6, 2) := by decide +kernel
theorem dX7_ofSecret_148 : decode cX7_ofSecret 148 = .ok (.invokestatic 36, 3) := by decide +kernel
theorem dX7_ofSecret_151 : decode cX7_ofSecret 151 = .ok (.iaload, 1) := by decide +kernel
theorem dX7_ofSecret_152 : decode cX7_ofSecret 152 = .ok (.ireturn, 1) := by decide +kernel
theorem dX7_ofSecret_153 : decode cX7_ofSecret 153 = .ok (.aload_n 0, 1) := by decide +kernel
theorem dX7_ofSecret_154 : decode cX7_ofSecret 154 = .ok (.getfield 7, 3) := by decide +kernel
theorem dX7_ofSecret_157 : decode cX7_ofSecret 157 = .ok (.iload_n 1, 1) := by decide +kernel
theorem dX7_ofSecret_158 : decode cX7_ofSecret 158 = .ok (.iconst 4, 1) := by decide +kernel
theorem dX7_ofSecret_159 : decode cX7_ofSecret 159 = .ok (.invokestatic 36, 3) := by decide +kernel
theorem dX7_ofSecret_162 : decode cX7_ofSecret 162 = .ok (.iaload, 1) := by decide +kernel
theorem dX7_ofSecret_163 : decode cX7_ofSecret 163 = .ok (.ireturn, 1) := by decide +kernel
theorem dX7_ofSecret_164 : decode cX7_ofSecret 164 = .ok (.bipush (-2), 2) := by decide +kernel
theorem dX7_ofSecret_166 : decode cX7_ofSecret 166 = .ok (.ireturn, 1) := by decide +kernel
theorem dX7_old_0 : decode cX7_old 0 = .ok (.aload_n 0, 1) := by decide +kernel
theorem dX7_old_1 : decode cX7_old 1 = .ok (.iload_n 1, 1) := by decide +kernel
theorem dX7_old_2 : decode cX7_old 2 = .ok (.invokevirtual 87, 3) := by decide +kernel
theorem dX7_old_5 : decode cX7_old 5 = .ok (.ifCond .eq 23, 3) := by decide +kernel
theorem dX7_old_8 : decode cX7_old 8 = .ok (.iload_n 2, 1) := by decide +kernel
theorem dX7_old_9 : decode cX7_old 9 = .ok (.iconst 0, 1) := by decide +kernel
theorem dX7_old_10 : decode cX7_old 10 = .ok (.aload_n 0, 1) := by decide +kernel
theorem dX7_old_11 : decode cX7_old 11 = .ok (.getfield 7, 3) := by decide +kernel
theorem dX7_old_14 : decode cX7_old 14 = .ok (.iload_n 1, 1) := by decide +kernel
theorem dX7_old_15 : decode cX7_old 15 = .ok (.iconst 0, 1) := by decide +kernel
theorem dX7_old_16 : decode cX7_old 16 = .ok (.invokestatic 36, 3) := by decide +kernel
theorem dX7_old_19 : decode cX7_old 19 = .ok (.iaload, 1) := by decide +kernel
theorem dX7_old_20 : decode cX7_old 20 = .ok (.iconst 1, 1) := by decide +kernel
theorem dX7_old_21 : decode cX7_old 21 = .ok (.isub, 1) := by decide +kernel
theorem dX7_old_22 : decode cX7_old 22 = .ok (.invokestatic 32, 3) := by decide +kernel
theorem dX7_old_25 : decode cX7_old 25 = .ok (.ifCond .ne 5, 3) := by decide +kernel
theorem dX7_old_28 : decode cX7_old 28 = .ok (.iconst (-1), 1) := by decide +kernel
theorem dX7_old_29 : decode cX7_old 29 = .ok (.ireturn, 1) := by decide +kernel
theorem dX7_old_30 : decode cX7_old 30 = .ok (.iload_n 3, 1) := by decide +kernel
theorem dX7_old_31 : decode cX7_old 31 = .ok (.iconst 0, 1) := by decide +kernel
theorem dX7_old_32 : decode cX7_old 32 = .ok (.iconst 3, 1) := by decide +kernel
theorem dX7_old_33 : decode cX7_old 33 = .ok (.invokestatic 32, 3) := by decide +kernel
theorem dX7_old_36 : decode cX7_old 36 = .ok (.ifCond .eq 19, 3) := by decide +kernel
theorem dX7_old_39 : decode cX7_old 39 = .ok (.aload_n 0, 1) := by decide +kernel
theorem dX7_old_40 : decode cX7_old 40 = .ok (.getfield 7, 3) := by decide +kernel
theorem dX7_old_43 : decode cX7_old 43 = .ok (.iload_n 1, 1) := by decide +kernel
theorem dX7_old_44 : decode cX7_old 44 = .ok (.iload_n 2, 1) := by decide +kernel
theorem dX7_old_45 : decode cX7_old 45 = .ok (.iconst 1, 1) := by decide +kernel
theorem dX7_old_46 : decode cX7_old 46 = .ok (.iadd, 1) := by decide +kernel
theorem dX7_old_47 : decode cX7_old 47 = .ok (.iload_n 3, 1) := by decide +kernel
theorem dX7_old_48 : decode cX7_old 48 = .ok (.invokestatic 40, 3) := by decide +kernel
theorem dX7_old_51 : decode cX7_old 51 = .ok (.iaload, 1) := by decide +kernel
theorem dX7_old_52 : decode cX7_old 52 = .ok (.goto 5, 3) := by decide +kernel
theorem dX7_old_55 : decode cX7_old 55 = .ok (.bipush (-2), 2) := by decide +kernel
theorem dX7_old_57 : decode cX7_old 57 = .ok (.ireturn, 1) := by decide +kernel
theorem dX7_otherwise_0 : decode cX7_otherwise 0 = .ok (.iload_n 1, 1) := by decide +kernel
theorem dX7_otherwise_1 : decode cX7_otherwise 1 = .ok (.invokestatic 98, 3) := by decide +kernel
theorem dX7_otherwise_4 : decode cX7_otherwise 4 = .ok (.ifCond .eq 11, 3) := by decide +kernel
theorem dX7_otherwise_7 : decode cX7_otherwise 7 = .ok (.aload_n 0, 1) := by decide +kernel
theorem dX7_otherwise_8 : decode cX7_otherwise 8 = .ok (.iload_n 2, 1) := by decide +kernel
theorem dX7_otherwise_9 : decode cX7_otherwise 9 = .ok (.invokevirtual 87, 3) := by decide +kernel
theorem dX7_otherwise_12 : decode cX7_otherwise 12 = .ok (.ifCond .ne 5, 3) := by decide +kernel
theorem dX7_otherwise_15 : decode cX7_otherwise 15 = .ok (.iconst (-1), 1) := by decide +kernel
theorem dX7_otherwise_16 : decode cX7_otherwise 16 = .ok (.ireturn, 1) := by decide +kernel
theorem dX7_otherwise_17 : decode cX7_otherwise 17 = .ok (.iload_n 3, 1) := by decide +kernel
theorem dX7_otherwise_18 : decode cX7_otherwise 18 = .ok (.iconst 0, 1) := by decide +kernel
theorem dX7_otherwise_19 : decode cX7_otherwise 19 = .ok (.sipush 255, 3) := by decide +kernel
theorem dX7_otherwise_22 : decode cX7_otherwise 22 = .ok (.invokestatic 32, 3) := by decide +kernel
theorem dX7_otherwise_25 : decode cX7_otherwise 25 = .ok (.ifCond .eq 22, 3) := by decide +kernel
theorem dX7_otherwise_28 : decode cX7_otherwise 28 = .ok (.iload_n 3, 1) := by decide +kernel
theorem dX7_otherwise_29 : decode cX7_otherwise 29 = .ok (.sipush 256, 3) := by decide +kernel
theorem dX7_otherwise_32 : decode cX7_otherwise 32 = .ok (.iadd, 1) := by decide +kernel
theorem dX7_otherwise_33 : decode cX7_otherwise 33 = .ok (.aload_n 0, 1) := by decide +kernel
theorem dX7_otherwise_34 : decode cX7_otherwise 34 = .ok (.iload_n 1, 1) := by decide +kernel
theorem dX7_otherwise_35 : decode cX7_otherwise 35 = .ok (.iload_n 2, 1) := by decide +kernel
theorem dX7_otherwise_36 : decode cX7_otherwise 36 = .ok (.invokevirtual 63, 3) := by decide +kernel
theorem dX7_otherwise_39 : decode cX7_otherwise 39 = .ok (.isub, 1) := by decide +kernel
theorem dX7_otherwise_40 : decode cX7_otherwise 40 = .ok (.sipush 256, 3) := by decide +kernel
theorem dX7_otherwise_43 : decode cX7_otherwise 43 = .ok (.irem, 1) := by decide +kernel
theorem dX7_otherwise_44 : decode cX7_otherwise 44 = .ok (.goto 5, 3) := by decide +kernel
theorem dX7_otherwise_47 : decode cX7_otherwise 47 = .ok (.bipush (-2), 2) := by decide +kernel
theorem dX7_otherwise_49 : decode cX7_otherwise 49 = .ok (.ireturn, 1) := by decide +kernel
theorem dX7_partOf_0 : decode cX7_partOf 0 = .ok (.aload_n 0, 1) := by decide +kernel
theorem dX7_partOf_1 : decode cX7_partOf 1 = .ok (.getfield 7, 3) := by decide +kernel
theorem dX7_partOf_4 : decode cX7_partOf 4 = .ok (.iload_n 2, 1) := by decide +kernel
theorem dX7_partOf_5 : decode cX7_partOf 5 = .ok (.iconst 0, 1) := by decide +kernel
theorem dX7_partOf_6 : decode cX7_partOf 6 = .ok (.iconst 1, 1) := by decide +kernel
theorem dX7_partOf_7 : decode cX7_partOf 7 = .ok (.iload_n 1, 1) := by decide +kernel
theorem dX7_partOf_8 : decode cX7_partOf 8 = .ok (.iadd, 1) := by decide +kernel
theorem dX7_partOf_9 : decode cX7_partOf 9 = .ok (.invokestatic 40, 3) := by decide +kernel
theorem dX7_partOf_12 : decode cX7_partOf 12 = .ok (.iaload, 1) := by decide +kernel
theorem dX7_partOf_13 : decode cX7_partOf 13 = .ok (.ireturn, 1) := by decide +kernel
theorem dX7_pass_0 : decode cX7_pass 0 = .ok (.aload_n 0, 1) := by decide +kernel
theorem dX7_pass_1 : decode cX7_pass 1 = .ok (.bipush 98, 2) := by decide +kernel
theorem dX7_pass_3 : decode cX7_pass 3 = .ok (.iload_n 1, 1) := by decide +kernel
theorem dX7_pass_4 : decode cX7_pass 4 = .ok (.iconst 0, 1) := by decide +kernel
theorem dX7_pass_5 : decode cX7_pass 5 = .ok (.iconst 0, 1) := by decide +kernel
theorem dX7_pass_6 : decode cX7_pass 6 = .ok (.iconst 0, 1) := by decide +kernel
theorem dX7_pass_7 : decode cX7_pass 7 = .ok (.invokevirtual 145, 3) := by decide +kernel
theorem dX7_pass_10 : decode cX7_pass 10 = .ok (.ireturn, 1) := by decide +kernel
theorem dX7_passes_0 : decode cX7_passes 0 = .ok (.iload_n 1, 1) := by decide +kernel
theorem dX7_passes_1 : decode cX7_passes 1 = .ok (.iconst 1, 1) := by decide +kernel
theorem dX7_passes_2 : decode cX7_passes 2 = .ok (.bipush 99, 2) := by decide +kernel
theorem dX7_passes_4 : decode cX7_passes 4 = .ok (.invokestatic 32, 3) := by decide +kernel
theorem dX7_passes_7 : decode cX7_passes 7 = .ok (.ifCond .ne 6, 3) := by decide +kernel
theorem dX7_passes_10 : decode cX7_passes 10 = .ok (.bipush (-2), 2) := by decide +kernel
theorem dX7_passes_12 : decode cX7_passes 12 = .ok (.ireturn, 1) := by decide +kernel
theorem dX7_passes_13 : decode cX7_passes 13 = .ok (.aload_n 0, 1) := by decide +kernel
theorem dX7_passes_14 : decode cX7_passes 14 = .ok (.getfield 7, 3) := by decide +kernel
theorem dX7_passes_17 : decode cX7_passes 17 = .ok (.iconst 4, 1) := by decide +kernel
theorem dX7_passes_18 : decode cX7_passes 18 = .ok (.iaload, 1) := by decide +kernel
theorem dX7_passes_19 : decode cX7_passes 19 = .ok (.iload_n 1, 1) := by decide +kernel
theorem dX7_passes_20 : decode cX7_passes 20 = .ok (.iadd, 1) := by decide +kernel
theorem dX7_passes_21 : decode cX7_passes 21 = .ok (.sipush 9999, 3) := by decide +kernel
theorem dX7_passes_24 : decode cX7_passes 24 = .ok (.if_icmp .le 6, 3) := by decide +kernel
theorem dX7_passes_27 : decode cX7_passes 27 = .ok (.bipush (-5), 2) := by decide +kernel
theorem dX7_passes_29 : decode cX7_passes 29 = .ok (.ireturn, 1) := by decide +kernel
theorem dX7_passes_30 : decode cX7_passes 30 = .ok (.aload_n 0, 1) := by decide +kernel
theorem dX7_passes_31 : decode cX7_passes 31 = .ok (.getfield 7, 3) := by decide +kernel
theorem dX7_passes_34 : decode cX7_passes 34 = .ok (.bipush 8, 2) := by decide +kernel
theorem dX7_passes_36 : decode cX7_passes 36 = .ok (.iaload, 1) := by decide +kernel
theorem dX7_passes_37 : decode cX7_passes 37 = .ok (.istore_n 2, 1) := by decide +kernel
theorem dX7_passes_38 : decode cX7_passes 38 = .ok (.iconst 0, 1) := by decide +kernel
theorem dX7_passes_39 : decode cX7_passes 39 = .ok (.istore_n 3, 1) := by decide +kernel
theorem dX7_passes_40 : decode cX7_passes 40 = .ok (.iload_n 3, 1) := by decide +kernel
theorem dX7_passes_41 : decode cX7_passes 41 = .ok (.iload_n 1, 1) := by decide +kernel
theorem dX7_passes_42 : decode cX7_passes 42 = .ok (.if_icmp .ge 13, 3) := by decide +kernel
theorem dX7_passes_45 : decode cX7_passes 45 = .ok (.aload_n 0, 1) := by decide +kernel
theorem dX7_passes_46 : decode cX7_passes 46 = .ok (.invokevirtual 110, 3) := by decide +kernel
theorem dX7_passes_49 : decode cX7_passes 49 = .ok (.iinc 3 1, 3) := by decide +kernel
theorem dX7_passes_52 : decode cX7_passes 52 = .ok (.goto (-12), 3) := by decide +kernel
theorem dX7_passes_55 : decode cX7_passes 55 = .ok (.aload_n 0, 1) := by decide +kernel
theorem dX7_passes_56 : decode cX7_passes 56 = .ok (.getfield 7, 3) := by decide +kernel
theorem dX7_passes_59 : decode cX7_passes 59 = .ok (.bipush 8, 2) := by decide +kernel
theorem dX7_passes_61 : decode cX7_passes 61 = .ok (.iaload, 1) := by decide +kernel
theorem dX7_passes_62 : decode cX7_passes 62 = .ok (.iload_n 2, 1) := by decide +kernel
theorem dX7_passes_63 : decode cX7_passes 63 = .ok (.isub, 1) := by decide +kernel
theorem dX7_passes_64 : decode cX7_passes 64 = .ok (.ireturn, 1) := by decide +kernel
theorem dX7_passes__0 : decode cX7_passes_ 0 = .ok (.iload_n 1, 1) := by decide +kernel
theorem dX7_passes__1 : decode cX7_passes_ 1 = .ok (.invokestatic 98, 3) := by decide +kernel
theorem dX7_passes__4 : decode cX7_passes_ 4 = .ok (.ifCond .eq 11, 3) := by decide +kernel
theorem dX7_passes__7 : decode cX7_passes_ 7 = .ok (.aload_n 0, 1) := by decide +kernel
theorem dX7_passes__8 : decode cX7_passes_ 8 = .ok (.iload_n 2, 1) := by decide +kernel
theorem dX7_passes__9 : decode cX7_passes_ 9 = .ok (.invokevirtual 87, 3) := by decide +kernel
theorem dX7_passes__12 : decode cX7_passes_ 12 = .ok (.ifCond .ne 5, 3) := by decide +kernel
theorem dX7_passes__15 : decode cX7_passes_ 15 = .ok (.iconst (-1), 1) := by decide +kernel
theorem dX7_passes__16 : decode cX7_passes_ 16 = .ok (.ireturn, 1) := by decide +kernel
theorem dX7_passes__17 : decode cX7_passes_ 17 = .ok (.iload_n 3, 1) := by decide +kernel
theorem dX7_passes__18 : decode cX7_passes_ 18 = .ok (.iconst 0, 1) := by decide +kernel
theorem dX7_passes__19 : decode cX7_passes_ 19 = .ok (.sipush 256, 3) := by decide +kernel
theorem dX7_passes__22 : decode cX7_passes_ 22 = .ok (.invokestatic 32, 3) := by decide +kernel
theorem dX7_passes__25 : decode cX7_passes_ 25 = .ok (.ifCond .ne 6, 3) := by decide +kernel
theorem dX7_passes__28 : decode cX7_passes_ 28 = .ok (.bipush (-2), 2) := by decide +kernel
theorem dX7_passes__30 : decode cX7_passes_ 30 = .ok (.ireturn, 1) := by decide +kernel
theorem dX7_passes__31 : decode cX7_passes_ 31 = .ok (.iconst 0, 1) := by decide +kernel
theorem dX7_passes__32 : decode cX7_passes_ 32 = .ok (.istore 4, 2) := by decide +kernel
theorem dX7_passes__34 : decode cX7_passes_ 34 = .ok (.iconst 1, 1) := by decide +kernel
theorem dX7_passes__35 : decode cX7_passes_ 35 = .ok (.istore 5, 2) := by decide +kernel
theorem dX7_passes__37 : decode cX7_passes_ 37 = .ok (.iload 5, 2) := by decide +kernel
theorem dX7_passes__39 : decode cX7_passes_ 39 = .ok (.sipush 256, 3) := by decide +kernel
theorem dX7_passes__42 : decode cX7_passes_ 42 = .ok (.if_icmp .ge 31, 3) := by decide +kernel
theorem dX7_passes__45 : decode cX7_passes_ 45 = .ok (.iload 4, 2) := by decide +kernel
theorem dX7_passes__47 : decode cX7_passes_ 47 = .ok (.aload_n 0, 1) := by decide +kernel
theorem dX7_passes__48 : decode cX7_passes_ 48 = .ok (.iload_n 1, 1) := by decide +kernel
theorem dX7_passes__49 : decode cX7_passes_ 49 = .ok (.iload_n 2, 1) := by decide +kernel
theorem dX7_passes__50 : decode cX7_passes_ 50 = .ok (.iload 5, 2) := by decide +kernel
theorem dX7_passes__52 : decode cX7_passes_ 52 = .ok (.iload_n 3, 1) := by decide +kernel
theorem dX7_passes__53 : decode cX7_passes_ 53 = .ok (.invokevirtual 79, 3) := by decide +kernel
theorem dX7_passes__56 : decode cX7_passes_ 56 = .ok (.ifCond .eq 7, 3) := by decide +kernel
theorem dX7_passes__59 : decode cX7_passes_ 59 = .ok (.iconst 1, 1) := by decide +kernel
theorem dX7_passes__60 : decode cX7_passes_ 60 = .ok (.goto 4, 3) := by decide +kernel
theorem dX7_passes__63 : decode cX7_passes_ 63 = .ok (.iconst 0, 1) := by decide +kernel
theorem dX7_passes__64 : decode cX7_passes_ 64 = .ok (.iadd, 1) := by decide +kernel
theorem dX7_passes__65 : decode cX7_passes_ 65 = .ok (.istore 4, 2) := by decide +kernel
theorem dX7_passes__67 : decode cX7_passes_ 67 = .ok (.iinc 5 1, 3) := by decide +kernel
theorem dX7_passes__70 : decode cX7_passes_ 70 = .ok (.goto (-33), 3) := by decide +kernel
theorem dX7_passes__73 : decode cX7_passes_ 73 = .ok (.iload 4, 2) := by decide +kernel
theorem dX7_passes__75 : decode cX7_passes_ 75 = .ok (.ireturn, 1) := by decide +kernel
theorem dX7_passing_0 : decode cX7_passing 0 = .ok (.iload_n 1, 1) := by decide +kernel
theorem dX7_passing_1 : decode cX7_passing 1 = .ok (.invokestatic 98, 3) := by decide +kernel
theorem dX7_passing_4 : decode cX7_passing 4 = .ok (.ifCond .eq 11, 3) := by decide +kernel
theorem dX7_passing_7 : decode cX7_passing 7 = .ok (.aload_n 0, 1) := by decide +kernel
theorem dX7_passing_8 : decode cX7_passing 8 = .ok (.iload_n 2, 1) := by decide +kernel
theorem dX7_passing_9 : decode cX7_passing 9 = .ok (.invokevirtual 87, 3) := by decide +kernel
theorem dX7_passing_12 : decode cX7_passing 12 = .ok (.ifCond .ne 5, 3) := by decide +kernel
theorem dX7_passing_15 : decode cX7_passing 15 = .ok (.iconst (-1), 1) := by decide +kernel
theorem dX7_passing_16 : decode cX7_passing 16 = .ok (.ireturn, 1) := by decide +kernel
theorem dX7_passing_17 : decode cX7_passing 17 = .ok (.iload_n 3, 1) := by decide +kernel
theorem dX7_passing_18 : decode cX7_passing 18 = .ok (.iconst 0, 1) := by decide +kernel
theorem dX7_passing_19 : decode cX7_passing 19 = .ok (.sipush 255, 3) := by decide +kernel
theorem dX7_passing_22 : decode cX7_passing 22 = .ok (.invokestatic 32, 3) := by decide +kernel
theorem dX7_passing_25 : decode cX7_passing 25 = .ok (.ifCond .ne 6, 3) := by decide +kernel
theorem dX7_passing_28 : decode cX7_passing 28 = .ok (.bipush (-2), 2) := by decide +kernel
theorem dX7_passing_30 : decode cX7_passing 30 = .ok (.ireturn, 1) := by decide +kernel
theorem dX7_passing_31 : decode cX7_passing 31 = .ok (.iconst 0, 1) := by decide +kernel
theorem dX7_passing_32 : decode cX7_passing 32 = .ok (.istore 4, 2) := by decide +kernel
theorem dX7_passing_34 : decode cX7_passing 34 = .ok (.aload_n 0, 1) := by decide +kernel
theorem dX7_passing_35 : decode cX7_passing 35 = .ok (.iload_n 1, 1) := by decide +kernel
theorem dX7_passing_36 : decode cX7_passing 36 = .ok (.iload_n 2, 1) := by decide +kernel
theorem dX7_passing_37 : decode cX7_passing 37 = .ok (.iload_n 3, 1) := by decide +kernel
theorem dX7_passing_38 : decode cX7_passing 38 = .ok (.iload 4, 2) := by decide +kernel
theorem dX7_passing_40 : decode cX7_passing 40 = .ok (.invokevirtual 79, 3) := by decide +kernel
theorem dX7_passing_43 : decode cX7_passing 43 = .ok (.ifCond .ne 17, 3) := by decide +kernel
theorem dX7_passing_46 : decode cX7_passing 46 = .ok (.iload 4, 2) := by decide +kernel
theorem dX7_passing_48 : decode cX7_passing 48 = .ok (.sipush 256, 3) := by decide +kernel
theorem dX7_passing_51 : decode cX7_passing 51 = .ok (.if_icmp .ge 9, 3) := by decide +kernel
theorem dX7_passing_54 : decode cX7_passing 54 = .ok (.iinc 4 1, 3) := by decide +kernel
theorem dX7_passing_57 : decode cX7_passing 57 = .ok (.goto (-23), 3) := by decide +kernel
theorem dX7_passing_60 : decode cX7_passing 60 = .ok (.iload 4, 2) := by decide +kernel
theorem dX7_passing_62 : decode cX7_passing 62 = .ok (.ireturn, 1) := by decide +kernel
theorem dX7_pushes_0 : decode cX7_pushes 0 = .ok (.aload_n 0, 1) := by decide +kernel
theorem dX7_pushes_1 : decode cX7_pushes 1 = .ok (.getfield 44, 3) := by decide +kernel
theorem dX7_pushes_4 : decode cX7_pushes 4 = .ok (.bipush 6, 2) := by decide +kernel
theorem dX7_pushes_6 : decode cX7_pushes 6 = .ok (.if_icmp .ne 44, 3) := by decide +kernel
theorem dX7_pushes_9 : decode cX7_pushes 9 = .ok (.iconst 0, 1) := by decide +kernel
theorem dX7_pushes_10 : decode cX7_pushes 10 = .ok (.istore_n 1, 1) := by decide +kernel
theorem dX7_pushes_11 : decode cX7_pushes 11 = .ok (.iload_n 1, 1) := by decide +kernel
theorem dX7_pushes_12 : decode cX7_pushes 12 = .ok (.sipush 1460, 3) := by decide +kernel
theorem dX7_pushes_15 : decode cX7_pushes 15 = .ok (.if_icmp .ge 25, 3) := by decide +kernel
theorem dX7_pushes_18 : decode cX7_pushes 18 = .ok (.aload_n 0, 1) := by decide +kernel
theorem dX7_pushes_19 : decode cX7_pushes 19 = .ok (.getfield 13, 3) := by decide +kernel
theorem dX7_pushes_22 : decode cX7_pushes 22 = .ok (.iload_n 1, 1) := by decide +kernel
theorem dX7_pushes_23 : decode cX7_pushes 23 = .ok (.aload_n 0, 1) := by decide +kernel
theorem dX7_pushes_24 : decode cX7_pushes 24 = .ok (.getfield 13, 3) := by decide +kernel
theorem dX7_pushes_27 : decode cX7_pushes 27 = .ok (.iload_n 1, 1) := by decide +kernel
theorem dX7_pushes_28 : decode cX7_pushes 28 = .ok (.sipush 292, 3) := by decide +kernel
theorem dX7_pushes_31 : decode cX7_pushes 31 = .ok (.iadd, 1) := by decide +kernel
theorem dX7_pushes_32 : decode cX7_pushes 32 = .ok (.iaload, 1) := by decide +kernel
theorem dX7_pushes_33 : decode cX7_pushes 33 = .ok (.iastore, 1) := by decide +kernel
theorem dX7_pushes_34 : decode cX7_pushes 34 = .ok (.iinc 1 1, 3) := by decide +kernel
theorem dX7_pushes_37 : decode cX7_pushes 37 = .ok (.goto (-26), 3) := by decide +kernel
theorem dX7_pushes_40 : decode cX7_pushes 40 = .ok (.aload_n 0, 1) := by decide +kernel
theorem dX7_pushes_41 : decode cX7_pushes 41 = .ok (.dup, 1) := by decide +kernel
theorem dX7_pushes_42 : decode cX7_pushes 42 = .ok (.getfield 44, 3) := by decide +kernel
theorem dX7_pushes_45 : decode cX7_pushes 45 = .ok (.iconst 1, 1) := by decide +kernel
theorem dX7_pushes_46 : decode cX7_pushes 46 = .ok (.isub, 1) := by decide +kernel
theorem dX7_pushes_47 : decode cX7_pushes 47 = .ok (.putfield 44, 3) := by decide +kernel
theorem dX7_pushes_50 : decode cX7_pushes 50 = .ok (.iconst 0, 1) := by decide +kernel
theorem dX7_pushes_51 : decode cX7_pushes 51 = .ok (.istore_n 1, 1) := by decide +kernel
theorem dX7_pushes_52 : decode cX7_pushes 52 = .ok (.iload_n 1, 1) := by decide +kernel
theorem dX7_pushes_53 : decode cX7_pushes 53 = .ok (.sipush 292, 3) := by decide +kernel
theorem dX7_pushes_56 : decode cX7_pushes 56 = .ok (.if_icmp .ge 30, 3) := by decide +kernel
theorem dX7_pushes_59 : decode cX7_pushes 59 = .ok (.aload_n 0, 1) := by decide +kernel
theorem dX7_pushes_60 : decode cX7_pushes 60 = .ok (.getfield 13, 3) := by decide +kernel
theorem dX7_pushes_63 : decode cX7_pushes 63 = .ok (.sipush 292, 3) := by decide +kernel
theorem dX7_pushes_66 : decode cX7_pushes 66 = .ok (.aload_n 0, 1) := by decide +kernel
theorem dX7_pushes_67 : decode cX7_pushes 67 = .ok (.getfield 44, 3) := by decide +kernel
theorem dX7_pushes_70 : decode cX7_pushes 70 = .ok (.imul, 1) := by decide +kernel
theorem dX7_pushes_71 : decode cX7_pushes 71 = .ok (.iload_n 1, 1) := by decide +kernel
theorem dX7_pushes_72 : decode cX7_pushes 72 = .ok (.iadd, 1) := by decide +kernel
theorem dX7_pushes_73 : decode cX7_pushes 73 = .ok (.aload_n 0, 1) := by decide +kernel
theorem dX7_pushes_74 : decode cX7_pushes 74 = .ok (.getfield 26, 3) := by decide +kernel
theorem dX7_pushes_77 : decode cX7_pushes 77 = .ok (.iload_n 1, 1) := by decide +kernel
theorem dX7_pushes_78 : decode cX7_pushes 78 = .ok (.iaload, 1) := by decide +kernel
theorem dX7_pushes_79 : decode cX7_pushes 79 = .ok (.iastore, 1) := by decide +kernel
theorem dX7_pushes_80 : decode cX7_pushes 80 = .ok (.iinc 1 1, 3) := by decide +kernel
theorem dX7_pushes_83 : decode cX7_pushes 83 = .ok (.goto (-31), 3) := by decide +kernel
theorem dX7_pushes_86 : decode cX7_pushes 86 = .ok (.aload_n 0, 1) := by decide +kernel
theorem dX7_pushes_87 : decode cX7_pushes 87 = .ok (.dup, 1) := by decide +kernel
theorem dX7_pushes_88 : decode cX7_pushes 88 = .ok (.getfield 44, 3) := by decide +kernel
theorem dX7_pushes_91 : decode cX7_pushes 91 = .ok (.iconst 1, 1) := by decide +kernel
theorem dX7_pushes_92 : decode cX7_pushes 92 = .ok (.iadd, 1) := by decide +kernel
theorem dX7_pushes_93 : decode cX7_pushes 93 = .ok (.putfield 44, 3) := by decide +kernel
theorem dX7_pushes_96 : decode cX7_pushes 96 = .ok (.return_, 1) := by decide +kernel
theorem dX7_put_0 : decode cX7_put 0 = .ok (.iconst 0, 1) := by decide +kernel
theorem dX7_put_1 : decode cX7_put 1 = .ok (.istore_n 3, 1) := by decide +kernel
theorem dX7_put_2 : decode cX7_put 2 = .ok (.iconst 0, 1) := by decide +kernel
theorem dX7_put_3 : decode cX7_put 3 = .ok (.istore 4, 2) := by decide +kernel
theorem dX7_put_5 : decode cX7_put 5 = .ok (.iconst 0, 1) := by decide +kernel
theorem dX7_put_6 : decode cX7_put 6 = .ok (.istore 5, 2) := by decide +kernel
theorem dX7_put_8 : decode cX7_put 8 = .ok (.iload 5, 2) := by decide +kernel
theorem dX7_put_10 : decode cX7_put 10 = .ok (.bipush 8, 2) := by decide +kernel
theorem dX7_put_12 : decode cX7_put 12 = .ok (.if_icmp .ge 89, 3) := by decide +kernel
theorem dX7_put_15 : decode cX7_put 15 = .ok (.lload_n 1, 1) := by decide +kernel
theorem dX7_put_16 : decode cX7_put 16 = .ok (.bipush 8, 2) := by decide +kernel
theorem dX7_put_18 : decode cX7_put 18 = .ok (.iload 5, 2) := by decide +kernel
theorem dX7_put_20 : decode cX7_put 20 = .ok (.imul, 1) := by decide +kernel
theorem dX7_put_21 : decode cX7_put 21 = .ok (.lushr, 1) := by decide +kernel
theorem dX7_put_22 : decode cX7_put 22 = .ok (.ldc2_w 157, 3) := by decide +kernel
theorem dX7_put_25 : decode cX7_put 25 = .ok (.land, 1) := by decide +kernel
theorem dX7_put_26 : decode cX7_put 26 = .ok (.l2i, 1) := by decide +kernel
theorem dX7_put_27 : decode cX7_put 27 = .ok (.istore 6, 2) := by decide +kernel
theorem dX7_put_29 : decode cX7_put 29 = .ok (.iload 5, 2) := by decide +kernel
theorem dX7_put_31 : decode cX7_put 31 = .ok (.ifCond .le 19, 3) := by decide +kernel
theorem dX7_put_34 : decode cX7_put 34 = .ok (.lload_n 1, 1) := by decide +kernel
theorem dX7_put_35 : decode cX7_put 35 = .ok (.bipush 8, 2) := by decide +kernel
theorem dX7_put_37 : decode cX7_put 37 = .ok (.iload 5, 2) := by decide +kernel
theorem dX7_put_39 : decode cX7_put 39 = .ok (.imul, 1) := by decide +kernel
theorem dX7_put_40 : decode cX7_put 40 = .ok (.lushr, 1) := by decide +kernel
theorem dX7_put_41 : decode cX7_put 41 = .ok (.lconst 0, 1) := by decide +kernel
theorem dX7_put_42 : decode cX7_put 42 = .ok (.lcmp, 1) := by decide +kernel
theorem dX7_put_43 : decode cX7_put 43 = .ok (.ifCond .ne 7, 3) := by decide +kernel
theorem dX7_put_46 : decode cX7_put 46 = .ok (.iconst 1, 1) := by decide +kernel
theorem dX7_put_47 : decode cX7_put 47 = .ok (.goto 4, 3) := by decide +kernel
theorem dX7_put_50 : decode cX7_put 50 = .ok (.iconst 0, 1) := by decide +kernel
theorem dX7_put_51 : decode cX7_put 51 = .ok (.istore 7, 2) := by decide +kernel
theorem dX7_put_53 : decode cX7_put 53 = .ok (.iload 4, 2) := by decide +kernel
theorem dX7_put_55 : decode cX7_put 55 = .ok (.ifCond .ne 20, 3) := by decide +kernel
theorem dX7_put_58 : decode cX7_put 58 = .ok (.iload 7, 2) := by decide +kernel
theorem dX7_put_60 : decode cX7_put 60 = .ok (.ifCond .ne 19, 3) := by decide +kernel
theorem dX7_put_63 : decode cX7_put 63 = .ok (.iload 6, 2) := by decide +kernel
theorem dX7_put_65 : decode cX7_put 65 = .ok (.bipush 33, 2) := by decide +kernel
theorem dX7_put_67 : decode cX7_put 67 = .ok (.bipush 126, 2) := by decide +kernel
theorem dX7_put_69 : decode cX7_put 69 = .ok (.invokestatic 32, 3) := by decide +kernel
theorem dX7_put_72 : decode cX7_put 72 = .ok (.ifCond .ne 7, 3) := by decide +kernel
theorem dX7_put_75 : decode cX7_put 75 = .ok (.iconst 1, 1) := by decide +kernel
theorem dX7_put_76 : decode cX7_put 76 = .ok (.goto 4, 3) := by decide +kernel
theorem dX7_put_79 : decode cX7_put 79 = .ok (.iconst 0, 1) := by decide +kernel
theorem dX7_put_80 : decode cX7_put 80 = .ok (.istore 4, 2) := by decide +kernel
theorem dX7_put_82 : decode cX7_put 82 = .ok (.iload_n 3, 1) := by decide +kernel
theorem dX7_put_83 : decode cX7_put 83 = .ok (.iload 7, 2) := by decide +kernel
theorem dX7_put_85 : decode cX7_put 85 = .ok (.ifCond .eq 7, 3) := by decide +kernel
theorem dX7_put_88 : decode cX7_put 88 = .ok (.iconst 0, 1) := by decide +kernel
theorem dX7_put_89 : decode cX7_put 89 = .ok (.goto 4, 3) := by decide +kernel
theorem dX7_put_92 : decode cX7_put 92 = .ok (.iconst 1, 1) := by decide +kernel
theorem dX7_put_93 : decode cX7_put 93 = .ok (.iadd, 1) := by decide +kernel
theorem dX7_put_94 : decode cX7_put 94 = .ok (.istore_n 3, 1) := by decide +kernel
theorem dX7_put_95 : decode cX7_put 95 = .ok (.iinc 5 1, 3) := by decide +kernel
theorem dX7_put_98 : decode cX7_put 98 = .ok (.goto (-90), 3) := by decide +kernel
theorem dX7_put_101 : decode cX7_put 101 = .ok (.iload 4, 2) := by decide +kernel
theorem dX7_put_103 : decode cX7_put 103 = .ok (.ifCond .eq 6, 3) := by decide +kernel
theorem dX7_put_106 : decode cX7_put 106 = .ok (.bipush (-2), 2) := by decide +kernel
theorem dX7_put_108 : decode cX7_put 108 = .ok (.ireturn, 1) := by decide +kernel
theorem dX7_put_109 : decode cX7_put 109 = .ok (.aload_n 0, 1) := by decide +kernel
theorem dX7_put_110 : decode cX7_put 110 = .ok (.getfield 151, 3) := by decide +kernel
theorem dX7_put_113 : decode cX7_put 113 = .ok (.iload_n 3, 1) := by decide +kernel
theorem dX7_put_114 : decode cX7_put 114 = .ok (.iadd, 1) := by decide +kernel
theorem dX7_put_115 : decode cX7_put 115 = .ok (.bipush 80, 2) := by decide +kernel
theorem dX7_put_117 : decode cX7_put 117 = .ok (.if_icmp .le 6, 3) := by decide +kernel
theorem dX7_put_120 : decode cX7_put 120 = .ok (.bipush (-4), 2) := by decide +kernel
theorem dX7_put_122 : decode cX7_put 122 = .ok (.ireturn, 1) := by decide +kernel
theorem dX7_put_123 : decode cX7_put 123 = .ok (.iconst 0, 1) := by decide +kernel
theorem dX7_put_124 : decode cX7_put 124 = .ok (.istore 5, 2) := by decide +kernel
theorem dX7_put_126 : decode cX7_put 126 = .ok (.iload 5, 2) := by decide +kernel
theorem dX7_put_128 : decode cX7_put 128 = .ok (.iload_n 3, 1) := by decide +kernel
theorem dX7_put_129 : decode cX7_put 129 = .ok (.if_icmp .ge 37, 3) := by decide +kernel
theorem dX7_put_132 : decode cX7_put 132 = .ok (.aload_n 0, 1) := by decide +kernel
theorem dX7_put_133 : decode cX7_put 133 = .ok (.getfield 23, 3) := by decide +kernel
theorem dX7_put_136 : decode cX7_put 136 = .ok (.aload_n 0, 1) := by decide +kernel
theorem dX7_put_137 : decode cX7_put 137 = .ok (.getfield 151, 3) := by decide +kernel
theorem dX7_put_140 : decode cX7_put 140 = .ok (.iload_n 3, 1) := by decide +kernel
theorem dX7_put_141 : decode cX7_put 141 = .ok (.iadd, 1) := by decide +kernel
theorem dX7_put_142 : decode cX7_put 142 = .ok (.iconst 1, 1) := by decide +kernel
theorem dX7_put_143 : decode cX7_put 143 = .ok (.isub, 1) := by decide +kernel
theorem dX7_put_144 : decode cX7_put 144 = .ok (.iload 5, 2) := by decide +kernel
theorem dX7_put_146 : decode cX7_put 146 = .ok (.isub, 1) := by decide +kernel
theorem dX7_put_147 : decode cX7_put 147 = .ok (.lload_n 1, 1) := by decide +kernel
theorem dX7_put_148 : decode cX7_put 148 = .ok (.bipush 8, 2) := by decide +kernel
theorem dX7_put_150 : decode cX7_put 150 = .ok (.iload 5, 2) := by decide +kernel
theorem dX7_put_152 : decode cX7_put 152 = .ok (.imul, 1) := by decide +kernel
theorem dX7_put_153 : decode cX7_put 153 = .ok (.lushr, 1) := by decide +kernel
theorem dX7_put_154 : decode cX7_put 154 = .ok (.ldc2_w 157, 3) := by decide +kernel
theorem dX7_put_157 : decode cX7_put 157 = .ok (.land, 1) := by decide +kernel
theorem dX7_put_158 : decode cX7_put 158 = .ok (.l2i, 1) := by decide +kernel
theorem dX7_put_159 : decode cX7_put 159 = .ok (.iastore, 1) := by decide +kernel
theorem dX7_put_160 : decode cX7_put 160 = .ok (.iinc 5 1, 3) := by decide +kernel
theorem dX7_put_163 : decode cX7_put 163 = .ok (.goto (-37), 3) := by decide +kernel
theorem dX7_put_166 : decode cX7_put 166 = .ok (.aload_n 0, 1) := by decide +kernel
theorem dX7_put_167 : decode cX7_put 167 = .ok (.dup, 1) := by decide +kernel
theorem dX7_put_168 : decode cX7_put 168 = .ok (.getfield 151, 3) := by decide +kernel
theorem dX7_put_171 : decode cX7_put 171 = .ok (.iload_n 3, 1) := by decide +kernel
theorem dX7_put_172 : decode cX7_put 172 = .ok (.iadd, 1) := by decide +kernel
theorem dX7_put_173 : decode cX7_put 173 = .ok (.putfield 151, 3) := by decide +kernel
theorem dX7_put_176 : decode cX7_put 176 = .ok (.aload_n 0, 1) := by decide +kernel
theorem dX7_put_177 : decode cX7_put 177 = .ok (.getfield 151, 3) := by decide +kernel
theorem dX7_put_180 : decode cX7_put 180 = .ok (.ireturn, 1) := by decide +kernel
theorem dX7_rankOf_0 : decode cX7_rankOf 0 = .ok (.bipush (-6), 2) := by decide +kernel
theorem dX7_rankOf_2 : decode cX7_rankOf 2 = .ok (.istore_n 3, 1) := by decide +kernel
theorem dX7_rankOf_3 : decode cX7_rankOf 3 = .ok (.iconst 0, 1) := by decide +kernel
theorem dX7_rankOf_4 : decode cX7_rankOf 4 = .ok (.istore 4, 2) := by decide +kernel
theorem dX7_rankOf_6 : decode cX7_rankOf 6 = .ok (.iload 4, 2) := by decide +kernel
theorem dX7_rankOf_8 : decode cX7_rankOf 8 = .ok (.aload_n 0, 1) := by decide +kernel
theorem dX7_rankOf_9 : decode cX7_rankOf 9 = .ok (.getfield 7, 3) := by decide +kernel
theorem dX7_rankOf_12 : decode cX7_rankOf 12 = .ok (.iload_n 1, 1) := by decide +kernel
theorem dX7_rankOf_13 : decode cX7_rankOf 13 = .ok (.iconst 0, 1) := by decide +kernel
theorem dX7_rankOf_14 : decode cX7_rankOf 14 = .ok (.invokestatic 36, 3) := by decide +kernel
theorem dX7_rankOf_17 : decode cX7_rankOf 17 = .ok (.iaload, 1) := by decide +kernel
theorem dX7_rankOf_18 : decode cX7_rankOf 18 = .ok (.if_icmp .gt 32, 3) := by decide +kernel
theorem dX7_rankOf_21 : decode cX7_rankOf 21 = .ok (.aload_n 0, 1) := by decide +kernel
theorem dX7_rankOf_22 : decode cX7_rankOf 22 = .ok (.getfield 7, 3) := by decide +kernel
theorem dX7_rankOf_25 : decode cX7_rankOf 25 = .ok (.iload_n 1, 1) := by decide +kernel
theorem dX7_rankOf_26 : decode cX7_rankOf 26 = .ok (.iload 4, 2) := by decide +kernel
theorem dX7_rankOf_28 : decode cX7_rankOf 28 = .ok (.iconst 0, 1) := by decide +kernel
theorem dX7_rankOf_29 : decode cX7_rankOf 29 = .ok (.invokestatic 40, 3) := by decide +kernel
theorem dX7_rankOf_32 : decode cX7_rankOf 32 = .ok (.iaload, 1) := by decide +kernel
theorem dX7_rankOf_33 : decode cX7_rankOf 33 = .ok (.iload_n 2, 1) := by decide +kernel
theorem dX7_rankOf_34 : decode cX7_rankOf 34 = .ok (.if_icmp .ne 8, 3) := by decide +kernel
theorem dX7_rankOf_37 : decode cX7_rankOf 37 = .ok (.iload 4, 2) := by decide +kernel
theorem dX7_rankOf_39 : decode cX7_rankOf 39 = .ok (.goto 4, 3) := by decide +kernel
theorem dX7_rankOf_42 : decode cX7_rankOf 42 = .ok (.iload_n 3, 1) := by decide +kernel
theorem dX7_rankOf_43 : decode cX7_rankOf 43 = .ok (.istore_n 3, 1) := by decide +kernel
theorem dX7_rankOf_44 : decode cX7_rankOf 44 = .ok (.iinc 4 1, 3) := by decide +kernel
theorem dX7_rankOf_47 : decode cX7_rankOf 47 = .ok (.goto (-41), 3) := by decide +kernel
theorem dX7_rankOf_50 : decode cX7_rankOf 50 = .ok (.iload_n 3, 1) := by decide +kernel
theorem dX7_rankOf_51 : decode cX7_rankOf 51 = .ok (.ireturn, 1) := by decide +kernel
theorem dX7_readOrder_0 : decode cX7_readOrder 0 = .ok (.aload_n 0, 1) := by decide +kernel
theorem dX7_readOrder_1 : decode cX7_readOrder 1 = .ok (.getfield 163, 3) := by decide +kernel
theorem dX7_readOrder_4 : decode cX7_readOrder 4 = .ok (.aload_n 0, 1) := by decide +kernel
theorem dX7_readOrder_5 : decode cX7_readOrder 5 = .ok (.getfield 151, 3) := by decide +kernel
theorem dX7_readOrder_8 : decode cX7_readOrder 8 = .ok (.if_icmp .ge 15, 3) := by decide +kernel
theorem dX7_readOrder_11 : decode cX7_readOrder 11 = .ok (.aload_n 0, 1) := by decide +kernel
theorem dX7_readOrder_12 : decode cX7_readOrder 12 = .ok (.getfield 23, 3) := by decide +kernel
theorem dX7_readOrder_15 : decode cX7_readOrder 15 = .ok (.aload_n 0, 1) := by decide +kernel
theorem dX7_readOrder_16 : decode cX7_readOrder 16 = .ok (.getfield 163, 3) := by decide +kernel
theorem dX7_readOrder_19 : decode cX7_readOrder 19 = .ok (.iaload, 1) := by decide +kernel
theorem dX7_readOrder_20 : decode cX7_readOrder 20 = .ok (.goto 4, 3) := by decide +kernel
theorem dX7_readOrder_23 : decode cX7_readOrder 23 = .ok (.iconst 0, 1) := by decide +kernel
theorem dX7_readOrder_24 : decode cX7_readOrder 24 = .ok (.istore_n 1, 1) := by decide +kernel
theorem dX7_readOrder_25 : decode cX7_readOrder 25 = .ok (.iload_n 1, 1) := by decide +kernel
theorem dX7_readOrder_26 : decode cX7_readOrder 26 = .ok (.bipush 107, 2) := by decide +kernel
theorem dX7_readOrder_28 : decode cX7_readOrder 28 = .ok (.if_icmp .eq 45, 3) := by decide +kernel
theorem dX7_readOrder_31 : decode cX7_readOrder 31 = .ok (.iload_n 1, 1) := by decide +kernel
theorem dX7_readOrder_32 : decode cX7_readOrder 32 = .ok (.bipush 114, 2) := by decide +kernel
theorem dX7_readOrder_34 : decode cX7_readOrder 34 = .ok (.if_icmp .eq 39, 3) := by decide +kernel
theorem dX7_readOrder_37 : decode cX7_readOrder 37 = .ok (.iload_n 1, 1) := by decide +kernel
theorem dX7_readOrder_38 : decode cX7_readOrder 38 = .ok (.bipush 117, 2) := by decide +kernel
theorem dX7_readOrder_40 : decode cX7_readOrder 40 = .ok (.if_icmp .eq 33, 3) := by decide +kernel
theorem dX7_readOrder_43 : decode cX7_readOrder 43 = .ok (.iload_n 1, 1) := by decide +kernel
theorem dX7_readOrder_44 : decode cX7_readOrder 44 = .ok (.bipush 109, 2) := by decide +kernel
theorem dX7_readOrder_46 : decode cX7_readOrder 46 = .ok (.if_icmp .eq 27, 3) := by decide +kernel
theorem dX7_readOrder_49 : decode cX7_readOrder 49 = .ok (.iload_n 1, 1) := by decide +kernel
theorem dX7_readOrder_50 : decode cX7_readOrder 50 = .ok (.bipush 122, 2) := by decide +kernel
theorem dX7_readOrder_52 : decode cX7_readOrder 52 = .ok (.if_icmp .eq 21, 3) := by decide +kernel
theorem dX7_readOrder_55 : decode cX7_readOrder 55 = .ok (.iload_n 1, 1) := by decide +kernel
theorem dX7_readOrder_56 : decode cX7_readOrder 56 = .ok (.bipush 108, 2) := by decide +kernel
theorem dX7_readOrder_58 : decode cX7_readOrder 58 = .ok (.if_icmp .eq 15, 3) := by decide +kernel
theorem dX7_readOrder_61 : decode cX7_readOrder 61 = .ok (.iload_n 1, 1) := by decide +kernel
theorem dX7_readOrder_62 : decode cX7_readOrder 62 = .ok (.bipush 116, 2) := by decide +kernel
theorem dX7_readOrder_64 : decode cX7_readOrder 64 = .ok (.if_icmp .eq 9, 3) := by decide +kernel
theorem dX7_readOrder_67 : decode cX7_readOrder 67 = .ok (.iload_n 1, 1) := by decide +kernel
theorem dX7_readOrder_68 : decode cX7_readOrder 68 = .ok (.bipush 98, 2) := by decide +kernel
theorem dX7_readOrder_70 : decode cX7_readOrder 70 = .ok (.if_icmp .ne 7, 3) := by decide +kernel
theorem dX7_readOrder_73 : decode cX7_readOrder 73 = .ok (.iconst 1, 1) := by decide +kernel
theorem dX7_readOrder_74 : decode cX7_readOrder 74 = .ok (.goto 4, 3) := by decide +kernel
theorem dX7_readOrder_77 : decode cX7_readOrder 77 = .ok (.iconst 0, 1) := by decide +kernel
theorem dX7_readOrder_78 : decode cX7_readOrder 78 = .ok (.istore_n 2, 1) := by decide +kernel
theorem dX7_readOrder_79 : decode cX7_readOrder 79 = .ok (.aload_n 0, 1) := by decide +kernel
theorem dX7_readOrder_80 : decode cX7_readOrder 80 = .ok (.aload_n 0, 1) := by decide +kernel
theorem dX7_readOrder_81 : decode cX7_readOrder 81 = .ok (.getfield 159, 3) := by decide +kernel
theorem dX7_readOrder_84 : decode cX7_readOrder 84 = .ok (.ifCond .ne 7, 3) := by decide +kernel
theorem dX7_readOrder_87 : decode cX7_readOrder 87 = .ok (.iload_n 2, 1) := by decide +kernel
theorem dX7_readOrder_88 : decode cX7_readOrder 88 = .ok (.ifCond .ne 7, 3) := by decide +kernel
theorem dX7_readOrder_91 : decode cX7_readOrder 91 = .ok (.iconst 1, 1) := by decide +kernel
theorem dX7_readOrder_92 : decode cX7_readOrder 92 = .ok (.goto 4, 3) := by decide +kernel
theorem dX7_readOrder_95 : decode cX7_readOrder 95 = .ok (.iconst 0, 1) := by decide +kernel
theorem dX7_readOrder_96 : decode cX7_readOrder 96 = .ok (.putfield 159, 3) := by decide +kernel
theorem dX7_readOrder_99 : decode cX7_readOrder 99 = .ok (.aload_n 0, 1) := by decide +kernel
theorem dX7_readOrder_100 : decode cX7_readOrder 100 = .ok (.dup, 1) := by decide +kernel
theorem dX7_readOrder_101 : decode cX7_readOrder 101 = .ok (.getfield 163, 3) := by decide +kernel
theorem dX7_readOrder_104 : decode cX7_readOrder 104 = .ok (.aload_n 0, 1) := by decide +kernel
theorem dX7_readOrder_105 : decode cX7_readOrder 105 = .ok (.getfield 159, 3) := by decide +kernel
theorem dX7_readOrder_108 : decode cX7_readOrder 108 = .ok (.ifCond .eq 7, 3) := by decide +kernel
theorem dX7_readOrder_111 : decode cX7_readOrder 111 = .ok (.iconst 0, 1) := by decide +kernel
theorem dX7_readOrder_112 : decode cX7_readOrder 112 = .ok (.goto 4, 3) := by decide +kernel
theorem dX7_readOrder_115 : decode cX7_readOrder 115 = .ok (.iconst 1, 1) := by decide +kernel
theorem dX7_readOrder_116 : decode cX7_readOrder 116 = .ok (.iadd, 1) := by decide +kernel
theorem dX7_readOrder_117 : decode cX7_readOrder 117 = .ok (.putfield 163, 3) := by decide +kernel
theorem dX7_readOrder_120 : decode cX7_readOrder 120 = .ok (.aload_n 0, 1) := by decide +kernel
theorem dX7_readOrder_121 : decode cX7_readOrder 121 = .ok (.getfield 29, 3) := by decide +kernel
theorem dX7_readOrder_124 : decode cX7_readOrder 124 = .ok (.iconst 0, 1) := by decide +kernel
theorem dX7_readOrder_125 : decode cX7_readOrder 125 = .ok (.iload_n 1, 1) := by decide +kernel
theorem dX7_readOrder_126 : decode cX7_readOrder 126 = .ok (.iastore, 1) := by decide +kernel
theorem dX7_readOrder_127 : decode cX7_readOrder 127 = .ok (.aload_n 0, 1) := by decide +kernel
theorem dX7_readOrder_128 : decode cX7_readOrder 128 = .ok (.getfield 29, 3) := by decide +kernel
theorem dX7_readOrder_131 : decode cX7_readOrder 131 = .ok (.iconst 1, 1) := by decide +kernel
theorem dX7_readOrder_132 : decode cX7_readOrder 132 = .ok (.iload_n 1, 1) := by decide +kernel
theorem dX7_readOrder_133 : decode cX7_readOrder 133 = .ok (.bipush 122, 2) := by decide +kernel
theorem dX7_readOrder_135 : decode cX7_readOrder 135 = .ok (.if_icmp .eq 15, 3) := by decide +kernel
theorem dX7_readOrder_138 : decode cX7_readOrder 138 = .ok (.iload_n 1, 1) := by decide +kernel
theorem dX7_readOrder_139 : decode cX7_readOrder 139 = .ok (.bipush 108, 2) := by decide +kernel
theorem dX7_readOrder_141 : decode cX7_readOrder 141 = .ok (.if_icmp .eq 9, 3) := by decide +kernel
theorem dX7_readOrder_144 : decode cX7_readOrder 144 = .ok (.iload_n 1, 1) := by decide +kernel
theorem dX7_readOrder_145 : decode cX7_readOrder 145 = .ok (.bipush 116, 2) := by decide +kernel
theorem dX7_readOrder_147 : decode cX7_readOrder 147 = .ok (.if_icmp .ne 14, 3) := by decide +kernel
theorem dX7_readOrder_150 : decode cX7_readOrder 150 = .ok (.aload_n 0, 1) := by decide +kernel
theorem dX7_readOrder_151 : decode cX7_readOrder 151 = .ok (.bipush 97, 2) := by decide +kernel
theorem dX7_readOrder_153 : decode cX7_readOrder 153 = .ok (.bipush 98, 2) := by decide +kernel
theorem dX7_readOrder_155 : decode cX7_readOrder 155 = .ok (.invokevirtual 166, 3) := by decide +kernel
theorem dX7_readOrder_158 : decode cX7_readOrder 158 = .ok (.goto 30, 3) := by decide +kernel
theorem dX7_readOrder_161 : decode cX7_readOrder 161 = .ok (.iload_n 1, 1) := by decide +kernel
theorem dX7_readOrder_162 : decode cX7_readOrder 162 = .ok (.bipush 107, 2) := by decide +kernel
theorem dX7_readOrder_164 : decode cX7_readOrder 164 = .ok (.if_icmp .eq 9, 3) := by decide +kernel
theorem dX7_readOrder_167 : decode cX7_readOrder 167 = .ok (.iload_n 1, 1) := by decide +kernel
theorem dX7_readOrder_168 : decode cX7_readOrder 168 = .ok (.bipush 98, 2) := by decide +kernel
theorem dX7_readOrder_170 : decode cX7_readOrder 170 = .ok (.if_icmp .ne 10, 3) := by decide +kernel
theorem dX7_readOrder_173 : decode cX7_readOrder 173 = .ok (.aload_n 0, 1) := by decide +kernel
theorem dX7_readOrder_174 : decode cX7_readOrder 174 = .ok (.invokevirtual 172, 3) := by decide +kernel
theorem dX7_readOrder_177 : decode cX7_readOrder 177 = .ok (.goto 11, 3) := by decide +kernel
theorem dX7_readOrder_180 : decode cX7_readOrder 180 = .ok (.aload_n 0, 1) := by decide +kernel
theorem dX7_readOrder_181 : decode cX7_readOrder 181 = .ok (.bipush 48, 2) := by decide +kernel
theorem dX7_readOrder_183 : decode cX7_readOrder 183 = .ok (.bipush 57, 2) := by decide +kernel
theorem dX7_readOrder_185 : decode cX7_readOrder 185 = .ok (.invokevirtual 166, 3) := by decide +kernel
theorem dX7_readOrder_188 : decode cX7_readOrder 188 = .ok (.iastore, 1) := by decide +kernel
theorem dX7_readOrder_189 : decode cX7_readOrder 189 = .ok (.aload_n 0, 1) := by decide +kernel
theorem dX7_readOrder_190 : decode cX7_readOrder 190 = .ok (.getfield 29, 3) := by decide +kernel
theorem dX7_readOrder_193 : decode cX7_readOrder 193 = .ok (.iconst 2, 1) := by decide +kernel
theorem dX7_readOrder_194 : decode cX7_readOrder 194 = .ok (.iload_n 1, 1) := by decide +kernel
theorem dX7_readOrder_195 : decode cX7_readOrder 195 = .ok (.bipush 108, 2) := by decide +kernel
theorem dX7_readOrder_197 : decode cX7_readOrder 197 = .ok (.if_icmp .eq 9, 3) := by decide +kernel
theorem dX7_readOrder_200 : decode cX7_readOrder 200 = .ok (.iload_n 1, 1) := by decide +kernel
theorem dX7_readOrder_201 : decode cX7_readOrder 201 = .ok (.bipush 116, 2) := by decide +kernel
theorem dX7_readOrder_203 : decode cX7_readOrder 203 = .ok (.if_icmp .ne 14, 3) := by decide +kernel
theorem dX7_readOrder_206 : decode cX7_readOrder 206 = .ok (.aload_n 0, 1) := by decide +kernel
theorem dX7_readOrder_207 : decode cX7_readOrder 207 = .ok (.bipush 48, 2) := by decide +kernel
theorem dX7_readOrder_209 : decode cX7_readOrder 209 = .ok (.bipush 57, 2) := by decide +kernel
theorem dX7_readOrder_211 : decode cX7_readOrder 211 = .ok (.invokevirtual 166, 3) := by decide +kernel
theorem dX7_readOrder_214 : decode cX7_readOrder 214 = .ok (.goto 4, 3) := by decide +kernel
theorem dX7_readOrder_217 : decode cX7_readOrder 217 = .ok (.iconst 0, 1) := by decide +kernel
theorem dX7_readOrder_218 : decode cX7_readOrder 218 = .ok (.iastore, 1) := by decide +kernel
theorem dX7_readOrder_219 : decode cX7_readOrder 219 = .ok (.aload_n 0, 1) := by decide +kernel
theorem dX7_readOrder_220 : decode cX7_readOrder 220 = .ok (.getfield 29, 3) := by decide +kernel
theorem dX7_readOrder_223 : decode cX7_readOrder 223 = .ok (.iconst 3, 1) := by decide +kernel
theorem dX7_readOrder_224 : decode cX7_readOrder 224 = .ok (.iconst 0, 1) := by decide +kernel
theorem dX7_readOrder_225 : decode cX7_readOrder 225 = .ok (.iastore, 1) := by decide +kernel
theorem dX7_readOrder_226 : decode cX7_readOrder 226 = .ok (.aload_n 0, 1) := by decide +kernel
theorem dX7_readOrder_227 : decode cX7_readOrder 227 = .ok (.getfield 29, 3) := by decide +kernel
theorem dX7_readOrder_230 : decode cX7_readOrder 230 = .ok (.iconst 4, 1) := by decide +kernel
theorem dX7_readOrder_231 : decode cX7_readOrder 231 = .ok (.iconst 0, 1) := by decide +kernel
theorem dX7_readOrder_232 : decode cX7_readOrder 232 = .ok (.iastore, 1) := by decide +kernel
theorem dX7_readOrder_233 : decode cX7_readOrder 233 = .ok (.iload_n 1, 1) := by decide +kernel
theorem dX7_readOrder_234 : decode cX7_readOrder 234 = .ok (.bipush 108, 2) := by decide +kernel
theorem dX7_readOrder_236 : decode cX7_readOrder 236 = .ok (.if_icmp .ne 38, 3) := by decide +kernel
theorem dX7_readOrder_239 : decode cX7_readOrder 239 = .ok (.aload_n 0, 1) := by decide +kernel
theorem dX7_readOrder_240 : decode cX7_readOrder 240 = .ok (.bipush 43, 2) := by decide +kernel
theorem dX7_readOrder_242 : decode cX7_readOrder 242 = .ok (.bipush 43, 2) := by decide +kernel
theorem dX7_readOrder_244 : decode cX7_readOrder 244 = .ok (.invokevirtual 166, 3) := by decide +kernel
theorem dX7_readOrder_247 : decode cX7_readOrder 247 = .ok (.istore_n 3, 1) := by decide +kernel
theorem dX7_readOrder_248 : decode cX7_readOrder 248 = .ok (.aload_n 0, 1) := by decide +kernel
theorem dX7_readOrder_249 : decode cX7_readOrder 249 = .ok (.getfield 29, 3) := by decide +kernel
theorem dX7_readOrder_252 : decode cX7_readOrder 252 = .ok (.iconst 3, 1) := by decide +kernel
theorem dX7_readOrder_253 : decode cX7_readOrder 253 = .ok (.aload_n 0, 1) := by decide +kernel
theorem dX7_readOrder_254 : decode cX7_readOrder 254 = .ok (.invokevirtual 172, 3) := by decide +kernel
theorem dX7_readOrder_257 : decode cX7_readOrder 257 = .ok (.iastore, 1) := by decide +kernel
theorem dX7_readOrder_258 : decode cX7_readOrder 258 = .ok (.aload_n 0, 1) := by decide +kernel
theorem dX7_readOrder_259 : decode cX7_readOrder 259 = .ok (.getfield 29, 3) := by decide +kernel
theorem dX7_readOrder_262 : decode cX7_readOrder 262 = .ok (.iconst 4, 1) := by decide +kernel
theorem dX7_readOrder_263 : decode cX7_readOrder 263 = .ok (.aload_n 0, 1) := by decide +kernel
theorem dX7_readOrder_264 : decode cX7_readOrder 264 = .ok (.bipush 44, 2) := by decide +kernel
theorem dX7_readOrder_266 : decode cX7_readOrder 266 = .ok (.iconst 0, 1) := by decide +kernel
theorem dX7_readOrder_267 : decode cX7_readOrder 267 = .ok (.invokevirtual 176, 3) := by decide +kernel
theorem dX7_readOrder_270 : decode cX7_readOrder 270 = .ok (.iastore, 1) := by decide +kernel
theorem dX7_readOrder_271 : decode cX7_readOrder 271 = .ok (.goto 23, 3) := by decide +kernel
theorem dX7_readOrder_274 : decode cX7_readOrder 274 = .ok (.iload_n 1, 1) := by decide +kernel
theorem dX7_readOrder_275 : decode cX7_readOrder 275 = .ok (.bipush 116, 2) := by decide +kernel
theorem dX7_readOrder_277 : decode cX7_readOrder 277 = .ok (.if_icmp .ne 17, 3) := by decide +kernel
theorem dX7_readOrder_280 : decode cX7_readOrder 280 = .ok (.aload_n 0, 1) := by decide +kernel
theorem dX7_readOrder_281 : decode cX7_readOrder 281 = .ok (.getfield 29, 3) := by decide +kernel
theorem dX7_readOrder_284 : decode cX7_readOrder 284 = .ok (.iconst 3, 1) := by decide +kernel
theorem dX7_readOrder_285 : decode cX7_readOrder 285 = .ok (.aload_n 0, 1) := by decide +kernel
theorem dX7_readOrder_286 : decode cX7_readOrder 286 = .ok (.bipush 46, 2) := by decide +kernel
theorem dX7_readOrder_288 : decode cX7_readOrder 288 = .ok (.bipush (-6), 2) := by decide +kernel
theorem dX7_readOrder_290 : decode cX7_readOrder 290 = .ok (.invokevirtual 176, 3) := by decide +kernel
theorem dX7_readOrder_293 : decode cX7_readOrder 293 = .ok (.iastore, 1) := by decide +kernel
theorem dX7_readOrder_294 : decode cX7_readOrder 294 = .ok (.return_, 1) := by decide +kernel
theorem dX7_record_0 : decode cX7_record 0 = .ok (.aload_n 0, 1) := by decide +kernel
theorem dX7_record_1 : decode cX7_record 1 = .ok (.invokevirtual 48, 3) := by decide +kernel
theorem dX7_record_4 : decode cX7_record 4 = .ok (.aload_n 0, 1) := by decide +kernel
theorem dX7_record_5 : decode cX7_record 5 = .ok (.invokevirtual 51, 3) := by decide +kernel
theorem dX7_record_8 : decode cX7_record 8 = .ok (.return_, 1) := by decide +kernel
theorem dX7_refresh_0 : decode cX7_refresh 0 = .ok (.aload_n 0, 1) := by decide +kernel
theorem dX7_refresh_1 : decode cX7_refresh 1 = .ok (.bipush 114, 2) := by decide +kernel
theorem dX7_refresh_3 : decode cX7_refresh 3 = .ok (.iload_n 1, 1) := by decide +kernel
theorem dX7_refresh_4 : decode cX7_refresh 4 = .ok (.iconst 0, 1) := by decide +kernel
theorem dX7_refresh_5 : decode cX7_refresh 5 = .ok (.iconst 0, 1) := by decide +kernel
theorem dX7_refresh_6 : decode cX7_refresh 6 = .ok (.iconst 0, 1) := by decide +kernel
theorem dX7_refresh_7 : decode cX7_refresh 7 = .ok (.invokevirtual 145, 3) := by decide +kernel
theorem dX7_refresh_10 : decode cX7_refresh 10 = .ok (.ireturn, 1) := by decide +kernel
theorem dX7_refreshed_0 : decode cX7_refreshed 0 = .ok (.aload_n 0, 1) := by decide +kernel
theorem dX7_refreshed_1 : decode cX7_refreshed 1 = .ok (.iload_n 1, 1) := by decide +kernel
theorem dX7_refreshed_2 : decode cX7_refreshed 2 = .ok (.invokevirtual 87, 3) := by decide +kernel
theorem dX7_refreshed_5 : decode cX7_refreshed 5 = .ok (.ifCond .ne 5, 3) := by decide +kernel
theorem dX7_refreshed_8 : decode cX7_refreshed 8 = .ok (.iconst (-1), 1) := by decide +kernel
theorem dX7_refreshed_9 : decode cX7_refreshed 9 = .ok (.ireturn, 1) := by decide +kernel
theorem dX7_refreshed_10 : decode cX7_refreshed 10 = .ok (.aload_n 0, 1) := by decide +kernel
theorem dX7_refreshed_11 : decode cX7_refreshed 11 = .ok (.iload_n 1, 1) := by decide +kernel
theorem dX7_refreshed_12 : decode cX7_refreshed 12 = .ok (.invokevirtual 91, 3) := by decide +kernel
theorem dX7_refreshed_15 : decode cX7_refreshed 15 = .ok (.ifCond .ne 6, 3) := by decide +kernel
theorem dX7_refreshed_18 : decode cX7_refreshed 18 = .ok (.bipush (-5), 2) := by decide +kernel
theorem dX7_refreshed_20 : decode cX7_refreshed 20 = .ok (.ireturn, 1) := by decide +kernel
theorem dX7_refreshed_21 : decode cX7_refreshed 21 = .ok (.aload_n 0, 1) := by decide +kernel
theorem dX7_refreshed_22 : decode cX7_refreshed 22 = .ok (.iload_n 1, 1) := by decide +kernel
theorem dX7_refreshed_23 : decode cX7_refreshed 23 = .ok (.invokevirtual 94, 3) := by decide +kernel
theorem dX7_refreshed_26 : decode cX7_refreshed 26 = .ok (.aload_n 0, 1) := by decide +kernel
theorem dX7_refreshed_27 : decode cX7_refreshed 27 = .ok (.getfield 7, 3) := by decide +kernel
theorem dX7_refreshed_30 : decode cX7_refreshed 30 = .ok (.iload_n 1, 1) := by decide +kernel
theorem dX7_refreshed_31 : decode cX7_refreshed 31 = .ok (.iconst 0, 1) := by decide +kernel
theorem dX7_refreshed_32 : decode cX7_refreshed 32 = .ok (.iconst 0, 1) := by decide +kernel
theorem dX7_refreshed_33 : decode cX7_refreshed 33 = .ok (.invokestatic 40, 3) := by decide +kernel
theorem dX7_refreshed_36 : decode cX7_refreshed 36 = .ok (.iaload, 1) := by decide +kernel
theorem dX7_refreshed_37 : decode cX7_refreshed 37 = .ok (.ireturn, 1) := by decide +kernel
theorem dX7_refreshes_0 : decode cX7_refreshes 0 = .ok (.aload_n 0, 1) := by decide +kernel
theorem dX7_refreshes_1 : decode cX7_refreshes 1 = .ok (.iconst 0, 1) := by decide +kernel
theorem dX7_refreshes_2 : decode cX7_refreshes 2 = .ok (.iload_n 1, 1) := by decide +kernel
theorem dX7_refreshes_3 : decode cX7_refreshes 3 = .ok (.invokevirtual 63, 3) := by decide +kernel
theorem dX7_refreshes_6 : decode cX7_refreshes 6 = .ok (.aload_n 0, 1) := by decide +kernel
theorem dX7_refreshes_7 : decode cX7_refreshes 7 = .ok (.iconst 1, 1) := by decide +kernel
theorem dX7_refreshes_8 : decode cX7_refreshes 8 = .ok (.iload_n 1, 1) := by decide +kernel
theorem dX7_refreshes_9 : decode cX7_refreshes 9 = .ok (.invokevirtual 63, 3) := by decide +kernel
theorem dX7_refreshes_12 : decode cX7_refreshes 12 = .ok (.iadd, 1) := by decide +kernel
theorem dX7_refreshes_13 : decode cX7_refreshes 13 = .ok (.sipush 256, 3) := by decide +kernel
theorem dX7_refreshes_16 : decode cX7_refreshes 16 = .ok (.irem, 1) := by decide +kernel
theorem dX7_refreshes_17 : decode cX7_refreshes 17 = .ok (.istore_n 2, 1) := by decide +kernel
theorem dX7_refreshes_18 : decode cX7_refreshes 18 = .ok (.aload_n 0, 1) := by decide +kernel
theorem dX7_refreshes_19 : decode cX7_refreshes 19 = .ok (.getfield 7, 3) := by decide +kernel
theorem dX7_refreshes_22 : decode cX7_refreshes 22 = .ok (.iload_n 1, 1) := by decide +kernel
theorem dX7_refreshes_23 : decode cX7_refreshes 23 = .ok (.iconst 0, 1) := by decide +kernel
theorem dX7_refreshes_24 : decode cX7_refreshes 24 = .ok (.iconst 0, 1) := by decide +kernel
theorem dX7_refreshes_25 : decode cX7_refreshes 25 = .ok (.invokestatic 40, 3) := by decide +kernel
theorem dX7_refreshes_28 : decode cX7_refreshes 28 = .ok (.iaload, 1) := by decide +kernel
theorem dX7_refreshes_29 : decode cX7_refreshes 29 = .ok (.iconst 1, 1) := by decide +kernel
theorem dX7_refreshes_30 : decode cX7_refreshes 30 = .ok (.iadd, 1) := by decide +kernel
theorem dX7_refreshes_31 : decode cX7_refreshes 31 = .ok (.istore_n 3, 1) := by decide +kernel
theorem dX7_refreshes_32 : decode cX7_refreshes 32 = .ok (.aload_n 0, 1) := by decide +kernel
theorem dX7_refreshes_33 : decode cX7_refreshes 33 = .ok (.iload_n 1, 1) := by decide +kernel
theorem dX7_refreshes_34 : decode cX7_refreshes 34 = .ok (.aload_n 0, 1) := by decide +kernel
theorem dX7_refreshes_35 : decode cX7_refreshes 35 = .ok (.getfield 7, 3) := by decide +kernel
theorem dX7_refreshes_38 : decode cX7_refreshes 38 = .ok (.iconst 2, 1) := by decide +kernel
theorem dX7_refreshes_39 : decode cX7_refreshes 39 = .ok (.iaload, 1) := by decide +kernel
theorem dX7_refreshes_40 : decode cX7_refreshes 40 = .ok (.ifCond .le 14, 3) := by decide +kernel
theorem dX7_refreshes_43 : decode cX7_refreshes 43 = .ok (.aload_n 0, 1) := by decide +kernel
theorem dX7_refreshes_44 : decode cX7_refreshes 44 = .ok (.getfield 7, 3) := by decide +kernel
theorem dX7_refreshes_47 : decode cX7_refreshes 47 = .ok (.iconst 2, 1) := by decide +kernel
theorem dX7_refreshes_48 : decode cX7_refreshes 48 = .ok (.iaload, 1) := by decide +kernel
theorem dX7_refreshes_49 : decode cX7_refreshes 49 = .ok (.iconst 1, 1) := by decide +kernel
theorem dX7_refreshes_50 : decode cX7_refreshes 50 = .ok (.isub, 1) := by decide +kernel
theorem dX7_refreshes_51 : decode cX7_refreshes 51 = .ok (.goto 4, 3) := by decide +kernel
theorem dX7_refreshes_54 : decode cX7_refreshes 54 = .ok (.iconst 0, 1) := by decide +kernel
theorem dX7_refreshes_55 : decode cX7_refreshes 55 = .ok (.invokevirtual 66, 3) := by decide +kernel
theorem dX7_refreshes_58 : decode cX7_refreshes 58 = .ok (.istore 4, 2) := by decide +kernel
theorem dX7_refreshes_60 : decode cX7_refreshes 60 = .ok (.aload_n 0, 1) := by decide +kernel
theorem dX7_refreshes_61 : decode cX7_refreshes 61 = .ok (.getfield 7, 3) := by decide +kernel
theorem dX7_refreshes_64 : decode cX7_refreshes 64 = .ok (.iconst 2, 1) := by decide +kernel
theorem dX7_refreshes_65 : decode cX7_refreshes 65 = .ok (.iaload, 1) := by decide +kernel
theorem dX7_refreshes_66 : decode cX7_refreshes 66 = .ok (.ifCond .le 66, 3) := by decide +kernel
theorem dX7_refreshes_69 : decode cX7_refreshes 69 = .ok (.bipush 19, 2) := by decide +kernel
theorem dX7_refreshes_71 : decode cX7_refreshes 71 = .ok (.istore 5, 2) := by decide +kernel
theorem dX7_refreshes_73 : decode cX7_refreshes 73 = .ok (.iload 5, 2) := by decide +kernel
theorem dX7_refreshes_75 : decode cX7_refreshes 75 = .ok (.iconst 4, 1) := by decide +kernel
theorem dX7_refreshes_76 : decode cX7_refreshes 76 = .ok (.if_icmp .lt 39, 3) := by decide +kernel
theorem dX7_refreshes_79 : decode cX7_refreshes 79 = .ok (.aload_n 0, 1) := by decide +kernel
theorem dX7_refreshes_80 : decode cX7_refreshes 80 = .ok (.getfield 7, 3) := by decide +kernel
theorem dX7_refreshes_83 : decode cX7_refreshes 83 = .ok (.iload_n 1, 1) := by decide +kernel
theorem dX7_refreshes_84 : decode cX7_refreshes 84 = .ok (.bipush 15, 2) := by decide +kernel
theorem dX7_refreshes_86 : decode cX7_refreshes 86 = .ok (.iload 5, 2) := by decide +kernel
theorem dX7_refreshes_88 : decode cX7_refreshes 88 = .ok (.iadd, 1) := by decide +kernel
theorem dX7_refreshes_89 : decode cX7_refreshes 89 = .ok (.invokestatic 36, 3) := by decide +kernel
theorem dX7_refreshes_92 : decode cX7_refreshes 92 = .ok (.aload_n 0, 1) := by decide +kernel
theorem dX7_refreshes_93 : decode cX7_refreshes 93 = .ok (.getfield 7, 3) := by decide +kernel
theorem dX7_refreshes_96 : decode cX7_refreshes 96 = .ok (.iload_n 1, 1) := by decide +kernel
theorem dX7_refreshes_97 : decode cX7_refreshes 97 = .ok (.bipush 15, 2) := by decide +kernel
theorem dX7_refreshes_99 : decode cX7_refreshes 99 = .ok (.iload 5, 2) := by decide +kernel
theorem dX7_refreshes_101 : decode cX7_refreshes 101 = .ok (.iadd, 1) := by decide +kernel
theorem dX7_refreshes_102 : decode cX7_refreshes 102 = .ok (.iconst 4, 1) := by decide +kernel
theorem dX7_refreshes_103 : decode cX7_refreshes 103 = .ok (.isub, 1) := by decide +kernel
theorem dX7_refreshes_104 : decode cX7_refreshes 104 = .ok (.invokestatic 36, 3) := by decide +kernel
theorem dX7_refreshes_107 : decode cX7_refreshes 107 = .ok (.iaload, 1) := by decide +kernel
theorem dX7_refreshes_108 : decode cX7_refreshes 108 = .ok (.iastore, 1) := by decide +kernel
theorem dX7_refreshes_109 : decode cX7_refreshes 109 = .ok (.iinc 5 (-1), 3) := by decide +kernel
theorem dX7_refreshes_112 : decode cX7_refreshes 112 = .ok (.goto (-39), 3) := by decide +kernel
theorem dX7_refreshes_115 : decode cX7_refreshes 115 = .ok (.aload_n 0, 1) := by decide +kernel
theorem dX7_refreshes_116 : decode cX7_refreshes 116 = .ok (.getfield 7, 3) := by decide +kernel
theorem dX7_refreshes_119 : decode cX7_refreshes 119 = .ok (.iload_n 1, 1) := by decide +kernel
theorem dX7_refreshes_120 : decode cX7_refreshes 120 = .ok (.iconst 0, 1) := by decide +kernel
theorem dX7_refreshes_121 : decode cX7_refreshes 121 = .ok (.invokestatic 36, 3) := by decide +kernel
theorem dX7_refreshes_124 : decode cX7_refreshes 124 = .ok (.dup2, 1) := by decide +kernel
theorem dX7_refreshes_125 : decode cX7_refreshes 125 = .ok (.iaload, 1) := by decide +kernel
theorem dX7_refreshes_126 : decode cX7_refreshes 126 = .ok (.iconst 1, 1) := by decide +kernel
theorem dX7_refreshes_127 : decode cX7_refreshes 127 = .ok (.iadd, 1) := by decide +kernel
theorem dX7_refreshes_128 : decode cX7_refreshes 128 = .ok (.iastore, 1) := by decide +kernel
theorem dX7_refreshes_129 : decode cX7_refreshes 129 = .ok (.goto 14, 3) := by decide +kernel
theorem dX7_refreshes_132 : decode cX7_refreshes 132 = .ok (.aload_n 0, 1) := by decide +kernel
theorem dX7_refreshes_133 : decode cX7_refreshes 133 = .ok (.getfield 7, 3) := by decide +kernel
theorem dX7_refreshes_136 : decode cX7_refreshes 136 = .ok (.bipush 9, 2) := by decide +kernel
theorem dX7_refreshes_138 : decode cX7_refreshes 138 = .ok (.dup2, 1) := by decide +kernel
theorem dX7_refreshes_139 : decode cX7_refreshes 139 = .ok (.iaload, 1) := by decide +kernel
theorem dX7_refreshes_140 : decode cX7_refreshes 140 = .ok (.iconst 1, 1) := by decide +kernel
theorem dX7_refreshes_141 : decode cX7_refreshes 141 = .ok (.iadd, 1) := by decide +kernel
theorem dX7_refreshes_142 : decode cX7_refreshes 142 = .ok (.iastore, 1) := by decide +kernel
theorem dX7_refreshes_143 : decode cX7_refreshes 143 = .ok (.aload_n 0, 1) := by decide +kernel
theorem dX7_refreshes_144 : decode cX7_refreshes 144 = .ok (.iload_n 1, 1) := by decide +kernel
theorem dX7_refreshes_145 : decode cX7_refreshes 145 = .ok (.iload_n 2, 1) := by decide +kernel
theorem dX7_refreshes_146 : decode cX7_refreshes 146 = .ok (.iload_n 3, 1) := by decide +kernel
theorem dX7_refreshes_147 : decode cX7_refreshes 147 = .ok (.invokevirtual 69, 3) := by decide +kernel
theorem dX7_refreshes_150 : decode cX7_refreshes 150 = .ok (.return_, 1) := by decide +kernel
theorem dX7_restore_0 : decode cX7_restore 0 = .ok (.iload_n 1, 1) := by decide +kernel
theorem dX7_restore_1 : decode cX7_restore 1 = .ok (.iconst 0, 1) := by decide +kernel
theorem dX7_restore_2 : decode cX7_restore 2 = .ok (.iconst 1, 1) := by decide +kernel
theorem dX7_restore_3 : decode cX7_restore 3 = .ok (.invokestatic 32, 3) := by decide +kernel
theorem dX7_restore_6 : decode cX7_restore 6 = .ok (.ifCond .ne 6, 3) := by decide +kernel
theorem dX7_restore_9 : decode cX7_restore 9 = .ok (.bipush (-2), 2) := by decide +kernel
theorem dX7_restore_11 : decode cX7_restore 11 = .ok (.ireturn, 1) := by decide +kernel
theorem dX7_restore_12 : decode cX7_restore 12 = .ok (.aload_n 0, 1) := by decide +kernel
theorem dX7_restore_13 : decode cX7_restore 13 = .ok (.getfield 19, 3) := by decide +kernel
theorem dX7_restore_16 : decode cX7_restore 16 = .ok (.iload_n 1, 1) := by decide +kernel
theorem dX7_restore_17 : decode cX7_restore 17 = .ok (.baload, 1) := by decide +kernel
theorem dX7_restore_18 : decode cX7_restore 18 = .ok (.ifCond .ne 6, 3) := by decide +kernel
theorem dX7_restore_21 : decode cX7_restore 21 = .ok (.bipush (-5), 2) := by decide +kernel
theorem dX7_restore_23 : decode cX7_restore 23 = .ok (.ireturn, 1) := by decide +kernel
theorem dX7_restore_24 : decode cX7_restore 24 = .ok (.aload_n 0, 1) := by decide +kernel
theorem dX7_restore_25 : decode cX7_restore 25 = .ok (.invokevirtual 142, 3) := by decide +kernel
theorem dX7_restore_28 : decode cX7_restore 28 = .ok (.iconst 0, 1) := by decide +kernel
theorem dX7_restore_29 : decode cX7_restore 29 = .ok (.istore_n 2, 1) := by decide +kernel
theorem dX7_restore_30 : decode cX7_restore 30 = .ok (.iload_n 2, 1) := by decide +kernel
theorem dX7_restore_31 : decode cX7_restore 31 = .ok (.sipush 292, 3) := by decide +kernel
theorem dX7_restore_34 : decode cX7_restore 34 = .ok (.if_icmp .ge 27, 3) := by decide +kernel
theorem dX7_restore_37 : decode cX7_restore 37 = .ok (.aload_n 0, 1) := by decide +kernel
theorem dX7_restore_38 : decode cX7_restore 38 = .ok (.getfield 7, 3) := by decide +kernel
theorem dX7_restore_41 : decode cX7_restore 41 = .ok (.iload_n 2, 1) := by decide +kernel
theorem dX7_restore_42 : decode cX7_restore 42 = .ok (.aload_n 0, 1) := by decide +kernel
theorem dX7_restore_43 : decode cX7_restore 43 = .ok (.getfield 16, 3) := by decide +kernel
theorem dX7_restore_46 : decode cX7_restore 46 = .ok (.sipush 292, 3) := by decide +kernel
theorem dX7_restore_49 : decode cX7_restore 49 = .ok (.iload_n 1, 1) := by decide +kernel
theorem dX7_restore_50 : decode cX7_restore 50 = .ok (.imul, 1) := by decide +kernel
theorem dX7_restore_51 : decode cX7_restore 51 = .ok (.iload_n 2, 1) := by decide +kernel
theorem dX7_restore_52 : decode cX7_restore 52 = .ok (.iadd, 1) := by decide +kernel
theorem dX7_restore_53 : decode cX7_restore 53 = .ok (.iaload, 1) := by decide +kernel
theorem dX7_restore_54 : decode cX7_restore 54 = .ok (.iastore, 1) := by decide +kernel
theorem dX7_restore_55 : decode cX7_restore 55 = .ok (.iinc 2 1, 3) := by decide +kernel
theorem dX7_restore_58 : decode cX7_restore 58 = .ok (.goto (-28), 3) := by decide +kernel
theorem dX7_restore_61 : decode cX7_restore 61 = .ok (.aload_n 0, 1) := by decide +kernel
theorem dX7_restore_62 : decode cX7_restore 62 = .ok (.getfield 7, 3) := by decide +kernel
theorem dX7_restore_65 : decode cX7_restore 65 = .ok (.iconst 5, 1) := by decide +kernel
theorem dX7_restore_66 : decode cX7_restore 66 = .ok (.iaload, 1) := by decide +kernel
theorem dX7_restore_67 : decode cX7_restore 67 = .ok (.ireturn, 1) := by decide +kernel
theorem dX7_save_0 : decode cX7_save 0 = .ok (.iload_n 1, 1) := by decide +kernel
theorem dX7_save_1 : decode cX7_save 1 = .ok (.iconst 0, 1) := by decide +kernel
theorem dX7_save_2 : decode cX7_save 2 = .ok (.iconst 1, 1) := by decide +kernel
theorem dX7_save_3 : decode cX7_save 3 = .ok (.invokestatic 32, 3) := by decide +kernel
theorem dX7_save_6 : decode cX7_save 6 = .ok (.ifCond .ne 6, 3) := by decide +kernel
theorem dX7_save_9 : decode cX7_save 9 = .ok (.bipush (-2), 2) := by decide +kernel
theorem dX7_save_11 : decode cX7_save 11 = .ok (.ireturn, 1) := by decide +kernel
theorem dX7_save_12 : decode cX7_save 12 = .ok (.iconst 0, 1) := by decide +kernel
theorem dX7_save_13 : decode cX7_save 13 = .ok (.istore_n 2, 1) := by decide +kernel
theorem dX7_save_14 : decode cX7_save 14 = .ok (.iload_n 2, 1) := by decide +kernel
theorem dX7_save_15 : decode cX7_save 15 = .ok (.sipush 292, 3) := by decide +kernel
theorem dX7_save_18 : decode cX7_save 18 = .ok (.if_icmp .ge 27, 3) := by decide +kernel
theorem dX7_save_21 : decode cX7_save 21 = .ok (.aload_n 0, 1) := by decide +kernel
theorem dX7_save_22 : decode cX7_save 22 = .ok (.getfield 16, 3) := by decide +kernel
theorem dX7_save_25 : decode cX7_save 25 = .ok (.sipush 292, 3) := by decide +kernel
theorem dX7_save_28 : decode cX7_save 28 = .ok (.iload_n 1, 1) := by decide +kernel
theorem dX7_save_29 : decode cX7_save 29 = .ok (.imul, 1) := by decide +kernel
theorem dX7_save_30 : decode cX7_save 30 = .ok (.iload_n 2, 1) := by decide +kernel
theorem dX7_save_31 : decode cX7_save 31 = .ok (.iadd, 1) := by decide +kernel
theorem dX7_save_32 : decode cX7_save 32 = .ok (.aload_n 0, 1) := by decide +kernel
theorem dX7_save_33 : decode cX7_save 33 = .ok (.getfield 7, 3) := by decide +kernel
theorem dX7_save_36 : decode cX7_save 36 = .ok (.iload_n 2, 1) := by decide +kernel
theorem dX7_save_37 : decode cX7_save 37 = .ok (.iaload, 1) := by decide +kernel
theorem dX7_save_38 : decode cX7_save 38 = .ok (.iastore, 1) := by decide +kernel
theorem dX7_save_39 : decode cX7_save 39 = .ok (.iinc 2 1, 3) := by decide +kernel
theorem dX7_save_42 : decode cX7_save 42 = .ok (.goto (-28), 3) := by decide +kernel
theorem dX7_save_45 : decode cX7_save 45 = .ok (.aload_n 0, 1) := by decide +kernel
theorem dX7_save_46 : decode cX7_save 46 = .ok (.getfield 19, 3) := by decide +kernel
theorem dX7_save_49 : decode cX7_save 49 = .ok (.iload_n 1, 1) := by decide +kernel
theorem dX7_save_50 : decode cX7_save 50 = .ok (.iconst 1, 1) := by decide +kernel
theorem dX7_save_51 : decode cX7_save 51 = .ok (.bastore, 1) := by decide +kernel
theorem dX7_save_52 : decode cX7_save 52 = .ok (.aload_n 0, 1) := by decide +kernel
theorem dX7_save_53 : decode cX7_save 53 = .ok (.getfield 7, 3) := by decide +kernel
theorem dX7_save_56 : decode cX7_save 56 = .ok (.iconst 5, 1) := by decide +kernel
theorem dX7_save_57 : decode cX7_save 57 = .ok (.iaload, 1) := by decide +kernel
theorem dX7_save_58 : decode cX7_save 58 = .ok (.ireturn, 1) := by decide +kernel
theorem dX7_seed_0 : decode cX7_seed 0 = .ok (.iload_n 1, 1) := by decide +kernel
theorem dX7_seed_1 : decode cX7_seed 1 = .ok (.iconst 0, 1) := by decide +kernel
theorem dX7_seed_2 : decode cX7_seed 2 = .ok (.sipush 9999, 3) := by decide +kernel
theorem dX7_seed_5 : decode cX7_seed 5 = .ok (.invokestatic 32, 3) := by decide +kernel
theorem dX7_seed_8 : decode cX7_seed 8 = .ok (.ifCond .ne 6, 3) := by decide +kernel
theorem dX7_seed_11 : decode cX7_seed 11 = .ok (.bipush (-2), 2) := by decide +kernel
theorem dX7_seed_13 : decode cX7_seed 13 = .ok (.ireturn, 1) := by decide +kernel
theorem dX7_seed_14 : decode cX7_seed 14 = .ok (.aload_n 0, 1) := by decide +kernel
theorem dX7_seed_15 : decode cX7_seed 15 = .ok (.invokevirtual 142, 3) := by decide +kernel
theorem dX7_seed_18 : decode cX7_seed 18 = .ok (.aload_n 0, 1) := by decide +kernel
theorem dX7_seed_19 : decode cX7_seed 19 = .ok (.getfield 7, 3) := by decide +kernel
theorem dX7_seed_22 : decode cX7_seed 22 = .ok (.iconst 3, 1) := by decide +kernel
theorem dX7_seed_23 : decode cX7_seed 23 = .ok (.iaload, 1) := by decide +kernel
theorem dX7_seed_24 : decode cX7_seed 24 = .ok (.istore_n 2, 1) := by decide +kernel
theorem dX7_seed_25 : decode cX7_seed 25 = .ok (.aload_n 0, 1) := by decide +kernel
theorem dX7_seed_26 : decode cX7_seed 26 = .ok (.getfield 7, 3) := by decide +kernel
theorem dX7_seed_29 : decode cX7_seed 29 = .ok (.iconst 3, 1) := by decide +kernel
theorem dX7_seed_30 : decode cX7_seed 30 = .ok (.iload_n 1, 1) := by decide +kernel
theorem dX7_seed_31 : decode cX7_seed 31 = .ok (.iastore, 1) := by decide +kernel
theorem dX7_seed_32 : decode cX7_seed 32 = .ok (.iload_n 2, 1) := by decide +kernel
theorem dX7_seed_33 : decode cX7_seed 33 = .ok (.ireturn, 1) := by decide +kernel
theorem dX7_set_0 : decode cX7_set 0 = .ok (.iload_n 1, 1) := by decide +kernel
theorem dX7_set_1 : decode cX7_set 1 = .ok (.ifCond .ne 13, 3) := by decide +kernel
theorem dX7_set_4 : decode cX7_set 4 = .ok (.iload_n 2, 1) := by decide +kernel
theorem dX7_set_5 : decode cX7_set 5 = .ok (.iconst 1, 1) := by decide +kernel
theorem dX7_set_6 : decode cX7_set 6 = .ok (.bipush 20, 2) := by decide +kernel
theorem dX7_set_8 : decode cX7_set 8 = .ok (.invokestatic 32, 3) := by decide +kernel
theorem dX7_set_11 : decode cX7_set 11 = .ok (.goto 37, 3) := by decide +kernel
theorem dX7_set_14 : decode cX7_set 14 = .ok (.iload_n 1, 1) := by decide +kernel
theorem dX7_set_15 : decode cX7_set 15 = .ok (.iconst 1, 1) := by decide +kernel
theorem dX7_set_16 : decode cX7_set 16 = .ok (.if_icmp .ne 13, 3) := by decide +kernel
theorem dX7_set_19 : decode cX7_set 19 = .ok (.iload_n 2, 1) := by decide +kernel
theorem dX7_set_20 : decode cX7_set 20 = .ok (.iconst 0, 1) := by decide +kernel
theorem dX7_set_21 : decode cX7_set 21 = .ok (.bipush 99, 2) := by decide +kernel
theorem dX7_set_23 : decode cX7_set 23 = .ok (.invokestatic 32, 3) := by decide +kernel
theorem dX7_set_26 : decode cX7_set 26 = .ok (.goto 22, 3) := by decide +kernel
theorem dX7_set_29 : decode cX7_set 29 = .ok (.iload_n 1, 1) := by decide +kernel
theorem dX7_set_30 : decode cX7_set 30 = .ok (.iconst 2, 1) := by decide +kernel
theorem dX7_set_31 : decode cX7_set 31 = .ok (.if_icmp .ne 16, 3) := by decide +kernel
theorem dX7_set_34 : decode cX7_set 34 = .ok (.iload_n 2, 1) := by decide +kernel
theorem dX7_set_35 : decode cX7_set 35 = .ok (.iconst 0, 1) := by decide +kernel
theorem dX7_set_36 : decode cX7_set 36 = .ok (.iconst 4, 1) := by decide +kernel
theorem dX7_set_37 : decode cX7_set 37 = .ok (.invokestatic 32, 3) := by decide +kernel
theorem dX7_set_40 : decode cX7_set 40 = .ok (.ifCond .eq 7, 3) := by decide +kernel
theorem dX7_set_43 : decode cX7_set 43 = .ok (.iconst 1, 1) := by decide +kernel
theorem dX7_set_44 : decode cX7_set 44 = .ok (.goto 4, 3) := by decide +kernel
theorem dX7_set_47 : decode cX7_set 47 = .ok (.iconst 0, 1) := by decide +kernel
theorem dX7_set_48 : decode cX7_set 48 = .ok (.istore_n 3, 1) := by decide +kernel
theorem dX7_set_49 : decode cX7_set 49 = .ok (.iload_n 3, 1) := by decide +kernel
theorem dX7_set_50 : decode cX7_set 50 = .ok (.ifCond .ne 6, 3) := by decide +kernel
theorem dX7_set_53 : decode cX7_set 53 = .ok (.bipush (-2), 2) := by decide +kernel
theorem dX7_set_55 : decode cX7_set 55 = .ok (.ireturn, 1) := by decide +kernel
theorem dX7_set_56 : decode cX7_set 56 = .ok (.aload_n 0, 1) := by decide +kernel
theorem dX7_set_57 : decode cX7_set 57 = .ok (.invokevirtual 142, 3) := by decide +kernel
theorem dX7_set_60 : decode cX7_set 60 = .ok (.aload_n 0, 1) := by decide +kernel
theorem dX7_set_61 : decode cX7_set 61 = .ok (.getfield 7, 3) := by decide +kernel
theorem dX7_set_64 : decode cX7_set 64 = .ok (.iload_n 1, 1) := by decide +kernel
theorem dX7_set_65 : decode cX7_set 65 = .ok (.iaload, 1) := by decide +kernel
theorem dX7_set_66 : decode cX7_set 66 = .ok (.istore 4, 2) := by decide +kernel
theorem dX7_set_68 : decode cX7_set 68 = .ok (.aload_n 0, 1) := by decide +kernel
theorem dX7_set_69 : decode cX7_set 69 = .ok (.getfield 7, 3) := by decide +kernel
theorem dX7_set_72 : decode cX7_set 72 = .ok (.iload_n 1, 1) := by decide +kernel
theorem dX7_set_73 : decode cX7_set 73 = .ok (.iload_n 2, 1) := by decide +kernel
theorem dX7_set_74 : decode cX7_set 74 = .ok (.iastore, 1) := by decide +kernel
theorem dX7_set_75 : decode cX7_set 75 = .ok (.iload 4, 2) := by decide +kernel
theorem dX7_set_77 : decode cX7_set 77 = .ok (.ireturn, 1) := by decide +kernel
theorem dX7_setOf_0 : decode cX7_setOf 0 = .ok (.iconst 0, 1) := by decide +kernel
theorem dX7_setOf_1 : decode cX7_setOf 1 = .ok (.istore_n 2, 1) := by decide +kernel
theorem dX7_setOf_2 : decode cX7_setOf 2 = .ok (.iconst 0, 1) := by decide +kernel
theorem dX7_setOf_3 : decode cX7_setOf 3 = .ok (.istore_n 3, 1) := by decide +kernel
theorem dX7_setOf_4 : decode cX7_setOf 4 = .ok (.iload_n 3, 1) := by decide +kernel
theorem dX7_setOf_5 : decode cX7_setOf 5 = .ok (.aload_n 0, 1) := by decide +kernel
theorem dX7_setOf_6 : decode cX7_setOf 6 = .ok (.getfield 7, 3) := by decide +kernel
theorem dX7_setOf_9 : decode cX7_setOf 9 = .ok (.iconst 5, 1) := by decide +kernel
theorem dX7_setOf_10 : decode cX7_setOf 10 = .ok (.iaload, 1) := by decide +kernel
theorem dX7_setOf_11 : decode cX7_setOf 11 = .ok (.if_icmp .ge 32, 3) := by decide +kernel
theorem dX7_setOf_14 : decode cX7_setOf 14 = .ok (.iload_n 2, 1) := by decide +kernel
theorem dX7_setOf_15 : decode cX7_setOf 15 = .ok (.aload_n 0, 1) := by decide +kernel
theorem dX7_setOf_16 : decode cX7_setOf 16 = .ok (.getfield 7, 3) := by decide +kernel
theorem dX7_setOf_19 : decode cX7_setOf 19 = .ok (.iload_n 3, 1) := by decide +kernel
theorem dX7_setOf_20 : decode cX7_setOf 20 = .ok (.iload_n 1, 1) := by decide +kernel
theorem dX7_setOf_21 : decode cX7_setOf 21 = .ok (.invokestatic 36, 3) := by decide +kernel
theorem dX7_setOf_24 : decode cX7_setOf 24 = .ok (.iaload, 1) := by decide +kernel
theorem dX7_setOf_25 : decode cX7_setOf 25 = .ok (.ifCond .le 9, 3) := by decide +kernel
theorem dX7_setOf_28 : decode cX7_setOf 28 = .ok (.iconst 1, 1) := by decide +kernel
theorem dX7_setOf_29 : decode cX7_setOf 29 = .ok (.iload_n 3, 1) := by decide +kernel
theorem dX7_setOf_30 : decode cX7_setOf 30 = .ok (.ishl, 1) := by decide +kernel
theorem dX7_setOf_31 : decode cX7_setOf 31 = .ok (.goto 4, 3) := by decide +kernel
theorem dX7_setOf_34 : decode cX7_setOf 34 = .ok (.iconst 0, 1) := by decide +kernel
theorem dX7_setOf_35 : decode cX7_setOf 35 = .ok (.ior, 1) := by decide +kernel
theorem dX7_setOf_36 : decode cX7_setOf 36 = .ok (.istore_n 2, 1) := by decide +kernel
theorem dX7_setOf_37 : decode cX7_setOf 37 = .ok (.iinc 3 1, 3) := by decide +kernel
theorem dX7_setOf_40 : decode cX7_setOf 40 = .ok (.goto (-36), 3) := by decide +kernel
theorem dX7_setOf_43 : decode cX7_setOf 43 = .ok (.iload_n 2, 1) := by decide +kernel
theorem dX7_setOf_44 : decode cX7_setOf 44 = .ok (.ireturn, 1) := by decide +kernel
theorem dX7_sleep_0 : decode cX7_sleep 0 = .ok (.aload_n 0, 1) := by decide +kernel
theorem dX7_sleep_1 : decode cX7_sleep 1 = .ok (.bipush 122, 2) := by decide +kernel
theorem dX7_sleep_3 : decode cX7_sleep 3 = .ok (.iload_n 1, 1) := by decide +kernel
theorem dX7_sleep_4 : decode cX7_sleep 4 = .ok (.iconst 0, 1) := by decide +kernel
theorem dX7_sleep_5 : decode cX7_sleep 5 = .ok (.iconst 0, 1) := by decide +kernel
theorem dX7_sleep_6 : decode cX7_sleep 6 = .ok (.iconst 0, 1) := by decide +kernel
theorem dX7_sleep_7 : decode cX7_sleep 7 = .ok (.invokevirtual 145, 3) := by decide +kernel
theorem dX7_sleep_10 : decode cX7_sleep 10 = .ok (.ireturn, 1) := by decide +kernel
theorem dX7_sleeps_0 : decode cX7_sleeps 0 = .ok (.iload_n 1, 1) := by decide +kernel
theorem dX7_sleeps_1 : decode cX7_sleeps 1 = .ok (.invokestatic 98, 3) := by decide +kernel
theorem dX7_sleeps_4 : decode cX7_sleeps 4 = .ok (.ifCond .ne 5, 3) := by decide +kernel
theorem dX7_sleeps_7 : decode cX7_sleeps 7 = .ok (.iconst (-1), 1) := by decide +kernel
theorem dX7_sleeps_8 : decode cX7_sleeps 8 = .ok (.ireturn, 1) := by decide +kernel
theorem dX7_sleeps_9 : decode cX7_sleeps 9 = .ok (.aload_n 0, 1) := by decide +kernel
theorem dX7_sleeps_10 : decode cX7_sleeps 10 = .ok (.getfield 7, 3) := by decide +kernel
theorem dX7_sleeps_13 : decode cX7_sleeps 13 = .ok (.bipush 6, 2) := by decide +kernel
theorem dX7_sleeps_15 : decode cX7_sleeps 15 = .ok (.iload_n 1, 1) := by decide +kernel
theorem dX7_sleeps_16 : decode cX7_sleeps 16 = .ok (.iadd, 1) := by decide +kernel
theorem dX7_sleeps_17 : decode cX7_sleeps 17 = .ok (.iconst 1, 1) := by decide +kernel
theorem dX7_sleeps_18 : decode cX7_sleeps 18 = .ok (.aload_n 0, 1) := by decide +kernel
theorem dX7_sleeps_19 : decode cX7_sleeps 19 = .ok (.getfield 7, 3) := by decide +kernel
theorem dX7_sleeps_22 : decode cX7_sleeps 22 = .ok (.bipush 6, 2) := by decide +kernel
theorem dX7_sleeps_24 : decode cX7_sleeps 24 = .ok (.iload_n 1, 1) := by decide +kernel
theorem dX7_sleeps_25 : decode cX7_sleeps 25 = .ok (.iadd, 1) := by decide +kernel
theorem dX7_sleeps_26 : decode cX7_sleeps 26 = .ok (.iaload, 1) := by decide +kernel
theorem dX7_sleeps_27 : decode cX7_sleeps 27 = .ok (.isub, 1) := by decide +kernel
theorem dX7_sleeps_28 : decode cX7_sleeps 28 = .ok (.iastore, 1) := by decide +kernel
theorem dX7_sleeps_29 : decode cX7_sleeps 29 = .ok (.aload_n 0, 1) := by decide +kernel
theorem dX7_sleeps_30 : decode cX7_sleeps 30 = .ok (.getfield 7, 3) := by decide +kernel
theorem dX7_sleeps_33 : decode cX7_sleeps 33 = .ok (.bipush 6, 2) := by decide +kernel
theorem dX7_sleeps_35 : decode cX7_sleeps 35 = .ok (.iload_n 1, 1) := by decide +kernel
theorem dX7_sleeps_36 : decode cX7_sleeps 36 = .ok (.iadd, 1) := by decide +kernel
theorem dX7_sleeps_37 : decode cX7_sleeps 37 = .ok (.iaload, 1) := by decide +kernel
theorem dX7_sleeps_38 : decode cX7_sleeps 38 = .ok (.ireturn, 1) := by decide +kernel
theorem dX7_steal_0 : decode cX7_steal 0 = .ok (.aload_n 0, 1) := by decide +kernel
theorem dX7_steal_1 : decode cX7_steal 1 = .ok (.bipush 116, 2) := by decide +kernel
theorem dX7_steal_3 : decode cX7_steal 3 = .ok (.iload_n 1, 1) := by decide +kernel
theorem dX7_steal_4 : decode cX7_steal 4 = .ok (.iload_n 2, 1) := by decide +kernel
theorem dX7_steal_5 : decode cX7_steal 5 = .ok (.iload_n 3, 1) := by decide +kernel
theorem dX7_steal_6 : decode cX7_steal 6 = .ok (.iconst 0, 1) := by decide +kernel
theorem dX7_steal_7 : decode cX7_steal 7 = .ok (.invokevirtual 145, 3) := by decide +kernel
theorem dX7_steal_10 : decode cX7_steal 10 = .ok (.ireturn, 1) := by decide +kernel
theorem dX7_steals_0 : decode cX7_steals 0 = .ok (.iload_n 1, 1) := by decide +kernel
theorem dX7_steals_1 : decode cX7_steals 1 = .ok (.invokestatic 98, 3) := by decide +kernel
theorem dX7_steals_4 : decode cX7_steals 4 = .ok (.ifCond .eq 20, 3) := by decide +kernel
theorem dX7_steals_7 : decode cX7_steals 7 = .ok (.aload_n 0, 1) := by decide +kernel
theorem dX7_steals_8 : decode cX7_steals 8 = .ok (.iload_n 2, 1) := by decide +kernel
theorem dX7_steals_9 : decode cX7_steals 9 = .ok (.invokevirtual 87, 3) := by decide +kernel
theorem dX7_steals_12 : decode cX7_steals 12 = .ok (.ifCond .eq 12, 3) := by decide +kernel
theorem dX7_steals_15 : decode cX7_steals 15 = .ok (.aload_n 0, 1) := by decide +kernel
theorem dX7_steals_16 : decode cX7_steals 16 = .ok (.iload_n 2, 1) := by decide +kernel
theorem dX7_steals_17 : decode cX7_steals 17 = .ok (.iload_n 3, 1) := by decide +kernel
theorem dX7_steals_18 : decode cX7_steals 18 = .ok (.invokevirtual 107, 3) := by decide +kernel
theorem dX7_steals_21 : decode cX7_steals 21 = .ok (.goto 5, 3) := by decide +kernel
theorem dX7_steals_24 : decode cX7_steals 24 = .ok (.bipush (-6), 2) := by decide +kernel
theorem dX7_steals_26 : decode cX7_steals 26 = .ok (.istore 4, 2) := by decide +kernel
theorem dX7_steals_28 : decode cX7_steals 28 = .ok (.iload 4, 2) := by decide +kernel
theorem dX7_steals_30 : decode cX7_steals 30 = .ok (.bipush (-6), 2) := by decide +kernel
theorem dX7_steals_32 : decode cX7_steals 32 = .ok (.if_icmp .ne 5, 3) := by decide +kernel
theorem dX7_steals_35 : decode cX7_steals 35 = .ok (.iconst (-1), 1) := by decide +kernel
theorem dX7_steals_36 : decode cX7_steals 36 = .ok (.ireturn, 1) := by decide +kernel
theorem dX7_steals_37 : decode cX7_steals 37 = .ok (.aload_n 0, 1) := by decide +kernel
theorem dX7_steals_38 : decode cX7_steals 38 = .ok (.getfield 7, 3) := by decide +kernel
theorem dX7_steals_41 : decode cX7_steals 41 = .ok (.iload_n 2, 1) := by decide +kernel
theorem dX7_steals_42 : decode cX7_steals 42 = .ok (.iload 4, 2) := by decide +kernel
theorem dX7_steals_44 : decode cX7_steals 44 = .ok (.iconst 3, 1) := by decide +kernel
theorem dX7_steals_45 : decode cX7_steals 45 = .ok (.invokestatic 40, 3) := by decide +kernel
theorem dX7_steals_48 : decode cX7_steals 48 = .ok (.iaload, 1) := by decide +kernel
theorem dX7_steals_49 : decode cX7_steals 49 = .ok (.istore 5, 2) := by decide +kernel
theorem dX7_steals_51 : decode cX7_steals 51 = .ok (.iload 5, 2) := by decide +kernel
theorem dX7_steals_53 : decode cX7_steals 53 = .ok (.iload_n 1, 1) := by decide +kernel
theorem dX7_steals_54 : decode cX7_steals 54 = .ok (.ishr, 1) := by decide +kernel
theorem dX7_steals_55 : decode cX7_steals 55 = .ok (.iconst 1, 1) := by decide +kernel
theorem dX7_steals_56 : decode cX7_steals 56 = .ok (.iand, 1) := by decide +kernel
theorem dX7_steals_57 : decode cX7_steals 57 = .ok (.ifCond .ne 7, 3) := by decide +kernel
theorem dX7_steals_60 : decode cX7_steals 60 = .ok (.iconst 1, 1) := by decide +kernel
theorem dX7_steals_61 : decode cX7_steals 61 = .ok (.goto 4, 3) := by decide +kernel
theorem dX7_steals_64 : decode cX7_steals 64 = .ok (.iconst 0, 1) := by decide +kernel
theorem dX7_steals_65 : decode cX7_steals 65 = .ok (.istore 6, 2) := by decide +kernel
theorem dX7_steals_67 : decode cX7_steals 67 = .ok (.aload_n 0, 1) := by decide +kernel
theorem dX7_steals_68 : decode cX7_steals 68 = .ok (.getfield 7, 3) := by decide +kernel
theorem dX7_steals_71 : decode cX7_steals 71 = .ok (.iload_n 2, 1) := by decide +kernel
theorem dX7_steals_72 : decode cX7_steals 72 = .ok (.iload 4, 2) := by decide +kernel
theorem dX7_steals_74 : decode cX7_steals 74 = .ok (.iconst 3, 1) := by decide +kernel
theorem dX7_steals_75 : decode cX7_steals 75 = .ok (.invokestatic 40, 3) := by decide +kernel
theorem dX7_steals_78 : decode cX7_steals 78 = .ok (.iload 5, 2) := by decide +kernel
theorem dX7_steals_80 : decode cX7_steals 80 = .ok (.iconst 1, 1) := by decide +kernel
theorem dX7_steals_81 : decode cX7_steals 81 = .ok (.iload_n 1, 1) := by decide +kernel
theorem dX7_steals_82 : decode cX7_steals 82 = .ok (.ishl, 1) := by decide +kernel
theorem dX7_steals_83 : decode cX7_steals 83 = .ok (.ior, 1) := by decide +kernel
theorem dX7_steals_84 : decode cX7_steals 84 = .ok (.iastore, 1) := by decide +kernel
theorem dX7_steals_85 : decode cX7_steals 85 = .ok (.aload_n 0, 1) := by decide +kernel
theorem dX7_steals_86 : decode cX7_steals 86 = .ok (.getfield 7, 3) := by decide +kernel
theorem dX7_steals_89 : decode cX7_steals 89 = .ok (.iload_n 2, 1) := by decide +kernel
theorem dX7_steals_90 : decode cX7_steals 90 = .ok (.bipush 6, 2) := by decide +kernel
theorem dX7_steals_92 : decode cX7_steals 92 = .ok (.invokestatic 36, 3) := by decide +kernel
theorem dX7_steals_95 : decode cX7_steals 95 = .ok (.dup2, 1) := by decide +kernel
theorem dX7_steals_96 : decode cX7_steals 96 = .ok (.iaload, 1) := by decide +kernel
theorem dX7_steals_97 : decode cX7_steals 97 = .ok (.iload 6, 2) := by decide +kernel
theorem dX7_steals_99 : decode cX7_steals 99 = .ok (.ifCond .eq 7, 3) := by decide +kernel
theorem dX7_steals_102 : decode cX7_steals 102 = .ok (.iconst 1, 1) := by decide +kernel
theorem dX7_steals_103 : decode cX7_steals 103 = .ok (.goto 4, 3) := by decide +kernel
theorem dX7_steals_106 : decode cX7_steals 106 = .ok (.iconst 0, 1) := by decide +kernel
theorem dX7_steals_107 : decode cX7_steals 107 = .ok (.iadd, 1) := by decide +kernel
theorem dX7_steals_108 : decode cX7_steals 108 = .ok (.iastore, 1) := by decide +kernel
theorem dX7_steals_109 : decode cX7_steals 109 = .ok (.aload_n 0, 1) := by decide +kernel
theorem dX7_steals_110 : decode cX7_steals 110 = .ok (.getfield 7, 3) := by decide +kernel
theorem dX7_steals_113 : decode cX7_steals 113 = .ok (.iload_n 2, 1) := by decide +kernel
theorem dX7_steals_114 : decode cX7_steals 114 = .ok (.iconst 5, 1) := by decide +kernel
theorem dX7_steals_115 : decode cX7_steals 115 = .ok (.invokestatic 36, 3) := by decide +kernel
theorem dX7_steals_118 : decode cX7_steals 118 = .ok (.aload_n 0, 1) := by decide +kernel
theorem dX7_steals_119 : decode cX7_steals 119 = .ok (.getfield 7, 3) := by decide +kernel
theorem dX7_steals_122 : decode cX7_steals 122 = .ok (.iload_n 2, 1) := by decide +kernel
theorem dX7_steals_123 : decode cX7_steals 123 = .ok (.iload 4, 2) := by decide +kernel
theorem dX7_steals_125 : decode cX7_steals 125 = .ok (.iconst 3, 1) := by decide +kernel
theorem dX7_steals_126 : decode cX7_steals 126 = .ok (.invokestatic 40, 3) := by decide +kernel
theorem dX7_steals_129 : decode cX7_steals 129 = .ok (.iaload, 1) := by decide +kernel
theorem dX7_steals_130 : decode cX7_steals 130 = .ok (.iconst 3, 1) := by decide +kernel
theorem dX7_steals_131 : decode cX7_steals 131 = .ok (.if_icmp .ne 7, 3) := by decide +kernel
theorem dX7_steals_134 : decode cX7_steals 134 = .ok (.iconst 1, 1) := by decide +kernel
theorem dX7_steals_135 : decode cX7_steals 135 = .ok (.goto 13, 3) := by decide +kernel
theorem dX7_steals_138 : decode cX7_steals 138 = .ok (.aload_n 0, 1) := by decide +kernel
theorem dX7_steals_139 : decode cX7_steals 139 = .ok (.getfield 7, 3) := by decide +kernel
theorem dX7_steals_142 : decode cX7_steals 142 = .ok (.iload_n 2, 1) := by decide +kernel
theorem dX7_steals_143 : decode cX7_steals 143 = .ok (.iconst 5, 1) := by decide +kernel
theorem dX7_steals_144 : decode cX7_steals 144 = .ok (.invokestatic 36, 3) := by decide +kernel
theorem dX7_steals_147 : decode cX7_steals 147 = .ok (.iaload, 1) := by decide +kernel
theorem dX7_steals_148 : decode cX7_steals 148 = .ok (.iastore, 1) := by decide +kernel
theorem dX7_steals_149 : decode cX7_steals 149 = .ok (.aload_n 0, 1) := by decide +kernel
theorem dX7_steals_150 : decode cX7_steals 150 = .ok (.getfield 7, 3) := by decide +kernel
theorem dX7_steals_153 : decode cX7_steals 153 = .ok (.iload_n 2, 1) := by decide +kernel
theorem dX7_steals_154 : decode cX7_steals 154 = .ok (.iload 4, 2) := by decide +kernel
theorem dX7_steals_156 : decode cX7_steals 156 = .ok (.iconst 1, 1) := by decide +kernel
theorem dX7_steals_157 : decode cX7_steals 157 = .ok (.iload_n 1, 1) := by decide +kernel
theorem dX7_steals_158 : decode cX7_steals 158 = .ok (.iadd, 1) := by decide +kernel
theorem dX7_steals_159 : decode cX7_steals 159 = .ok (.invokestatic 40, 3) := by decide +kernel
theorem dX7_steals_162 : decode cX7_steals 162 = .ok (.iaload, 1) := by decide +kernel
theorem dX7_steals_163 : decode cX7_steals 163 = .ok (.ireturn, 1) := by decide +kernel
theorem dX7_tagOf_0 : decode cX7_tagOf 0 = .ok (.aload_n 0, 1) := by decide +kernel
theorem dX7_tagOf_1 : decode cX7_tagOf 1 = .ok (.getfield 7, 3) := by decide +kernel
theorem dX7_tagOf_4 : decode cX7_tagOf 4 = .ok (.iload_n 2, 1) := by decide +kernel
theorem dX7_tagOf_5 : decode cX7_tagOf 5 = .ok (.bipush 11, 2) := by decide +kernel
theorem dX7_tagOf_7 : decode cX7_tagOf 7 = .ok (.iload_n 1, 1) := by decide +kernel
theorem dX7_tagOf_8 : decode cX7_tagOf 8 = .ok (.iadd, 1) := by decide +kernel
theorem dX7_tagOf_9 : decode cX7_tagOf 9 = .ok (.invokestatic 36, 3) := by decide +kernel
theorem dX7_tagOf_12 : decode cX7_tagOf 12 = .ok (.iaload, 1) := by decide +kernel
theorem dX7_tagOf_13 : decode cX7_tagOf 13 = .ok (.aload_n 0, 1) := by decide +kernel
theorem dX7_tagOf_14 : decode cX7_tagOf 14 = .ok (.iload_n 1, 1) := by decide +kernel
theorem dX7_tagOf_15 : decode cX7_tagOf 15 = .ok (.iload_n 2, 1) := by decide +kernel
theorem dX7_tagOf_16 : decode cX7_tagOf 16 = .ok (.invokevirtual 63, 3) := by decide +kernel
theorem dX7_tagOf_19 : decode cX7_tagOf 19 = .ok (.imul, 1) := by decide +kernel
theorem dX7_tagOf_20 : decode cX7_tagOf 20 = .ok (.aload_n 0, 1) := by decide +kernel
theorem dX7_tagOf_21 : decode cX7_tagOf 21 = .ok (.getfield 7, 3) := by decide +kernel
theorem dX7_tagOf_24 : decode cX7_tagOf 24 = .ok (.iload_n 2, 1) := by decide +kernel
theorem dX7_tagOf_25 : decode cX7_tagOf 25 = .ok (.bipush 13, 2) := by decide +kernel
theorem dX7_tagOf_27 : decode cX7_tagOf 27 = .ok (.iload_n 1, 1) := by decide +kernel
theorem dX7_tagOf_28 : decode cX7_tagOf 28 = .ok (.iadd, 1) := by decide +kernel
theorem dX7_tagOf_29 : decode cX7_tagOf 29 = .ok (.invokestatic 36, 3) := by decide +kernel
theorem dX7_tagOf_32 : decode cX7_tagOf 32 = .ok (.iaload, 1) := by decide +kernel
theorem dX7_tagOf_33 : decode cX7_tagOf 33 = .ok (.iadd, 1) := by decide +kernel
theorem dX7_tagOf_34 : decode cX7_tagOf 34 = .ok (.sipush 257, 3) := by decide +kernel
theorem dX7_tagOf_37 : decode cX7_tagOf 37 = .ok (.irem, 1) := by decide +kernel
theorem dX7_tagOf_38 : decode cX7_tagOf 38 = .ok (.ireturn, 1) := by decide +kernel
theorem dX7_takes_0 : decode cX7_takes 0 = .ok (.aload_n 0, 1) := by decide +kernel
theorem dX7_takes_1 : decode cX7_takes 1 = .ok (.getfield 163, 3) := by decide +kernel
theorem dX7_takes_4 : decode cX7_takes 4 = .ok (.aload_n 0, 1) := by decide +kernel
theorem dX7_takes_5 : decode cX7_takes 5 = .ok (.getfield 151, 3) := by decide +kernel
theorem dX7_takes_8 : decode cX7_takes 8 = .ok (.if_icmp .ge 15, 3) := by decide +kernel
theorem dX7_takes_11 : decode cX7_takes 11 = .ok (.aload_n 0, 1) := by decide +kernel
theorem dX7_takes_12 : decode cX7_takes 12 = .ok (.getfield 23, 3) := by decide +kernel
theorem dX7_takes_15 : decode cX7_takes 15 = .ok (.aload_n 0, 1) := by decide +kernel
theorem dX7_takes_16 : decode cX7_takes 16 = .ok (.getfield 163, 3) := by decide +kernel
theorem dX7_takes_19 : decode cX7_takes 19 = .ok (.iaload, 1) := by decide +kernel
theorem dX7_takes_20 : decode cX7_takes 20 = .ok (.goto 4, 3) := by decide +kernel
theorem dX7_takes_23 : decode cX7_takes 23 = .ok (.iconst 0, 1) := by decide +kernel
theorem dX7_takes_24 : decode cX7_takes 24 = .ok (.istore_n 3, 1) := by decide +kernel
theorem dX7_takes_25 : decode cX7_takes 25 = .ok (.aload_n 0, 1) := by decide +kernel
theorem dX7_takes_26 : decode cX7_takes 26 = .ok (.aload_n 0, 1) := by decide +kernel
theorem dX7_takes_27 : decode cX7_takes 27 = .ok (.getfield 159, 3) := by decide +kernel
theorem dX7_takes_30 : decode cX7_takes 30 = .ok (.ifCond .ne 12, 3) := by decide +kernel
theorem dX7_takes_33 : decode cX7_takes 33 = .ok (.iload_n 3, 1) := by decide +kernel
theorem dX7_takes_34 : decode cX7_takes 34 = .ok (.iload_n 1, 1) := by decide +kernel
theorem dX7_takes_35 : decode cX7_takes 35 = .ok (.iload_n 2, 1) := by decide +kernel
theorem dX7_takes_36 : decode cX7_takes 36 = .ok (.invokestatic 32, 3) := by decide +kernel
theorem dX7_takes_39 : decode cX7_takes 39 = .ok (.ifCond .ne 7, 3) := by decide +kernel
theorem dX7_takes_42 : decode cX7_takes 42 = .ok (.iconst 1, 1) := by decide +kernel
theorem dX7_takes_43 : decode cX7_takes 43 = .ok (.goto 4, 3) := by decide +kernel
theorem dX7_takes_46 : decode cX7_takes 46 = .ok (.iconst 0, 1) := by decide +kernel
theorem dX7_takes_47 : decode cX7_takes 47 = .ok (.putfield 159, 3) := by decide +kernel
theorem dX7_takes_50 : decode cX7_takes 50 = .ok (.aload_n 0, 1) := by decide +kernel
theorem dX7_takes_51 : decode cX7_takes 51 = .ok (.dup, 1) := by decide +kernel
theorem dX7_takes_52 : decode cX7_takes 52 = .ok (.getfield 163, 3) := by decide +kernel
theorem dX7_takes_55 : decode cX7_takes 55 = .ok (.aload_n 0, 1) := by decide +kernel
theorem dX7_takes_56 : decode cX7_takes 56 = .ok (.getfield 159, 3) := by decide +kernel
theorem dX7_takes_59 : decode cX7_takes 59 = .ok (.ifCond .eq 7, 3) := by decide +kernel
theorem dX7_takes_62 : decode cX7_takes 62 = .ok (.iconst 0, 1) := by decide +kernel
theorem dX7_takes_63 : decode cX7_takes 63 = .ok (.goto 4, 3) := by decide +kernel
theorem dX7_takes_66 : decode cX7_takes 66 = .ok (.iconst 1, 1) := by decide +kernel
theorem dX7_takes_67 : decode cX7_takes 67 = .ok (.iadd, 1) := by decide +kernel
theorem dX7_takes_68 : decode cX7_takes 68 = .ok (.putfield 163, 3) := by decide +kernel
theorem dX7_takes_71 : decode cX7_takes 71 = .ok (.iload_n 3, 1) := by decide +kernel
theorem dX7_takes_72 : decode cX7_takes 72 = .ok (.iload_n 1, 1) := by decide +kernel
theorem dX7_takes_73 : decode cX7_takes 73 = .ok (.isub, 1) := by decide +kernel
theorem dX7_takes_74 : decode cX7_takes 74 = .ok (.ireturn, 1) := by decide +kernel
theorem dX7_takesBehind_0 : decode cX7_takesBehind 0 = .ok (.aload_n 0, 1) := by decide +kernel
theorem dX7_takesBehind_1 : decode cX7_takesBehind 1 = .ok (.iload_n 1, 1) := by decide +kernel
theorem dX7_takesBehind_2 : decode cX7_takesBehind 2 = .ok (.invokevirtual 169, 3) := by decide +kernel
theorem dX7_takesBehind_5 : decode cX7_takesBehind 5 = .ok (.istore_n 3, 1) := by decide +kernel
theorem dX7_takesBehind_6 : decode cX7_takesBehind 6 = .ok (.aload_n 0, 1) := by decide +kernel
theorem dX7_takesBehind_7 : decode cX7_takesBehind 7 = .ok (.dup, 1) := by decide +kernel
theorem dX7_takesBehind_8 : decode cX7_takesBehind 8 = .ok (.getfield 163, 3) := by decide +kernel
theorem dX7_takesBehind_11 : decode cX7_takesBehind 11 = .ok (.iload_n 3, 1) := by decide +kernel
theorem dX7_takesBehind_12 : decode cX7_takesBehind 12 = .ok (.ifCond .eq 7, 3) := by decide +kernel
theorem dX7_takesBehind_15 : decode cX7_takesBehind 15 = .ok (.iconst 1, 1) := by decide +kernel
theorem dX7_takesBehind_16 : decode cX7_takesBehind 16 = .ok (.goto 4, 3) := by decide +kernel
theorem dX7_takesBehind_19 : decode cX7_takesBehind 19 = .ok (.iconst 0, 1) := by decide +kernel
theorem dX7_takesBehind_20 : decode cX7_takesBehind 20 = .ok (.iadd, 1) := by decide +kernel
theorem dX7_takesBehind_21 : decode cX7_takesBehind 21 = .ok (.putfield 163, 3) := by decide +kernel
theorem dX7_takesBehind_24 : decode cX7_takesBehind 24 = .ok (.iload_n 3, 1) := by decide +kernel
theorem dX7_takesBehind_25 : decode cX7_takesBehind 25 = .ok (.ifCond .eq 10, 3) := by decide +kernel
theorem dX7_takesBehind_28 : decode cX7_takesBehind 28 = .ok (.aload_n 0, 1) := by decide +kernel
theorem dX7_takesBehind_29 : decode cX7_takesBehind 29 = .ok (.invokevirtual 172, 3) := by decide +kernel
theorem dX7_takesBehind_32 : decode cX7_takesBehind 32 = .ok (.goto 4, 3) := by decide +kernel
theorem dX7_takesBehind_35 : decode cX7_takesBehind 35 = .ok (.iload_n 2, 1) := by decide +kernel
theorem dX7_takesBehind_36 : decode cX7_takesBehind 36 = .ok (.ireturn, 1) := by decide +kernel
theorem dX7_takesNumber_0 : decode cX7_takesNumber 0 = .ok (.aload_n 0, 1) := by decide +kernel
theorem dX7_takesNumber_1 : decode cX7_takesNumber 1 = .ok (.bipush 48, 2) := by decide +kernel
theorem dX7_takesNumber_3 : decode cX7_takesNumber 3 = .ok (.bipush 57, 2) := by decide +kernel
theorem dX7_takesNumber_5 : decode cX7_takesNumber 5 = .ok (.invokevirtual 166, 3) := by decide +kernel
theorem dX7_takesNumber_8 : decode cX7_takesNumber 8 = .ok (.istore_n 1, 1) := by decide +kernel
theorem dX7_takesNumber_9 : decode cX7_takesNumber 9 = .ok (.iconst 0, 1) := by decide +kernel
theorem dX7_takesNumber_10 : decode cX7_takesNumber 10 = .ok (.istore_n 2, 1) := by decide +kernel
theorem dX7_takesNumber_11 : decode cX7_takesNumber 11 = .ok (.iload_n 2, 1) := by decide +kernel
theorem dX7_takesNumber_12 : decode cX7_takesNumber 12 = .ok (.iconst 2, 1) := by decide +kernel
theorem dX7_takesNumber_13 : decode cX7_takesNumber 13 = .ok (.if_icmp .ge 64, 3) := by decide +kernel
theorem dX7_takesNumber_16 : decode cX7_takesNumber 16 = .ok (.iload_n 1, 1) := by decide +kernel
theorem dX7_takesNumber_17 : decode cX7_takesNumber 17 = .ok (.ifCond .le 60, 3) := by decide +kernel
theorem dX7_takesNumber_20 : decode cX7_takesNumber 20 = .ok (.aload_n 0, 1) := by decide +kernel
theorem dX7_takesNumber_21 : decode cX7_takesNumber 21 = .ok (.getfield 159, 3) := by decide +kernel
theorem dX7_takesNumber_24 : decode cX7_takesNumber 24 = .ok (.ifCond .ne 53, 3) := by decide +kernel
theorem dX7_takesNumber_27 : decode cX7_takesNumber 27 = .ok (.aload_n 0, 1) := by decide +kernel
theorem dX7_takesNumber_28 : decode cX7_takesNumber 28 = .ok (.getfield 163, 3) := by decide +kernel
theorem dX7_takesNumber_31 : decode cX7_takesNumber 31 = .ok (.aload_n 0, 1) := by decide +kernel
theorem dX7_takesNumber_32 : decode cX7_takesNumber 32 = .ok (.getfield 151, 3) := by decide +kernel
theorem dX7_takesNumber_35 : decode cX7_takesNumber 35 = .ok (.if_icmp .ge 42, 3) := by decide +kernel
theorem dX7_takesNumber_38 : decode cX7_takesNumber 38 = .ok (.aload_n 0, 1) := by decide +kernel
theorem dX7_takesNumber_39 : decode cX7_takesNumber 39 = .ok (.getfield 23, 3) := by decide +kernel
theorem dX7_takesNumber_42 : decode cX7_takesNumber 42 = .ok (.aload_n 0, 1) := by decide +kernel
theorem dX7_takesNumber_43 : decode cX7_takesNumber 43 = .ok (.getfield 163, 3) := by decide +kernel
theorem dX7_takesNumber_46 : decode cX7_takesNumber 46 = .ok (.iaload, 1) := by decide +kernel
theorem dX7_takesNumber_47 : decode cX7_takesNumber 47 = .ok (.bipush 48, 2) := by decide +kernel
theorem dX7_takesNumber_49 : decode cX7_takesNumber 49 = .ok (.bipush 57, 2) := by decide +kernel
theorem dX7_takesNumber_51 : decode cX7_takesNumber 51 = .ok (.invokestatic 32, 3) := by decide +kernel
theorem dX7_takesNumber_54 : decode cX7_takesNumber 54 = .ok (.ifCond .eq 23, 3) := by decide +kernel
theorem dX7_takesNumber_57 : decode cX7_takesNumber 57 = .ok (.bipush 10, 2) := by decide +kernel
theorem dX7_takesNumber_59 : decode cX7_takesNumber 59 = .ok (.iload_n 1, 1) := by decide +kernel
theorem dX7_takesNumber_60 : decode cX7_takesNumber 60 = .ok (.imul, 1) := by decide +kernel
theorem dX7_takesNumber_61 : decode cX7_takesNumber 61 = .ok (.aload_n 0, 1) := by decide +kernel
theorem dX7_takesNumber_62 : decode cX7_takesNumber 62 = .ok (.bipush 48, 2) := by decide +kernel
theorem dX7_takesNumber_64 : decode cX7_takesNumber 64 = .ok (.bipush 57, 2) := by decide +kernel
theorem dX7_takesNumber_66 : decode cX7_takesNumber 66 = .ok (.invokevirtual 166, 3) := by decide +kernel
theorem dX7_takesNumber_69 : decode cX7_takesNumber 69 = .ok (.iadd, 1) := by decide +kernel
theorem dX7_takesNumber_70 : decode cX7_takesNumber 70 = .ok (.istore_n 1, 1) := by decide +kernel
theorem dX7_takesNumber_71 : decode cX7_takesNumber 71 = .ok (.iinc 2 1, 3) := by decide +kernel
theorem dX7_takesNumber_74 : decode cX7_takesNumber 74 = .ok (.goto (-63), 3) := by decide +kernel
theorem dX7_takesNumber_77 : decode cX7_takesNumber 77 = .ok (.iload_n 1, 1) := by decide +kernel
theorem dX7_takesNumber_78 : decode cX7_takesNumber 78 = .ok (.ireturn, 1) := by decide +kernel
theorem dX7_toldPart_0 : decode cX7_toldPart 0 = .ok (.aload_n 0, 1) := by decide +kernel
theorem dX7_toldPart_1 : decode cX7_toldPart 1 = .ok (.iload_n 1, 1) := by decide +kernel
theorem dX7_toldPart_2 : decode cX7_toldPart 2 = .ok (.iload_n 2, 1) := by decide +kernel
theorem dX7_toldPart_3 : decode cX7_toldPart 3 = .ok (.invokevirtual 63, 3) := by decide +kernel
theorem dX7_toldPart_6 : decode cX7_toldPart 6 = .ok (.iload_n 3, 1) := by decide +kernel
theorem dX7_toldPart_7 : decode cX7_toldPart 7 = .ok (.iadd, 1) := by decide +kernel
theorem dX7_toldPart_8 : decode cX7_toldPart 8 = .ok (.sipush 256, 3) := by decide +kernel
theorem dX7_toldPart_11 : decode cX7_toldPart 11 = .ok (.irem, 1) := by decide +kernel
theorem dX7_toldPart_12 : decode cX7_toldPart 12 = .ok (.ireturn, 1) := by decide +kernel
theorem dX7_tries_0 : decode cX7_tries 0 = .ok (.aload_n 0, 1) := by decide +kernel
theorem dX7_tries_1 : decode cX7_tries 1 = .ok (.invokevirtual 48, 3) := by decide +kernel
theorem dX7_tries_4 : decode cX7_tries 4 = .ok (.aload_n 0, 1) := by decide +kernel
theorem dX7_tries_5 : decode cX7_tries 5 = .ok (.iload_n 1, 1) := by decide +kernel
theorem dX7_tries_6 : decode cX7_tries 6 = .ok (.iload_n 2, 1) := by decide +kernel
theorem dX7_tries_7 : decode cX7_tries 7 = .ok (.iload_n 3, 1) := by decide +kernel
theorem dX7_tries_8 : decode cX7_tries 8 = .ok (.iload 4, 2) := by decide +kernel
theorem dX7_tries_10 : decode cX7_tries 10 = .ok (.iload 5, 2) := by decide +kernel
theorem dX7_tries_12 : decode cX7_tries 12 = .ok (.invokevirtual 113, 3) := by decide +kernel
theorem dX7_tries_15 : decode cX7_tries 15 = .ok (.istore 6, 2) := by decide +kernel
theorem dX7_tries_17 : decode cX7_tries 17 = .ok (.iload 6, 2) := by decide +kernel
theorem dX7_tries_19 : decode cX7_tries 19 = .ok (.ifCond .lt 7, 3) := by decide +kernel
theorem dX7_tries_22 : decode cX7_tries 22 = .ok (.aload_n 0, 1) := by decide +kernel
theorem dX7_tries_23 : decode cX7_tries 23 = .ok (.invokevirtual 51, 3) := by decide +kernel
theorem dX7_tries_26 : decode cX7_tries 26 = .ok (.iload 6, 2) := by decide +kernel
theorem dX7_tries_28 : decode cX7_tries 28 = .ok (.ireturn, 1) := by decide +kernel
theorem dX7_undo_0 : decode cX7_undo 0 = .ok (.aload_n 0, 1) := by decide +kernel
theorem dX7_undo_1 : decode cX7_undo 1 = .ok (.getfield 44, 3) := by decide +kernel
theorem dX7_undo_4 : decode cX7_undo 4 = .ok (.ifCond .ne 6, 3) := by decide +kernel
theorem dX7_undo_7 : decode cX7_undo 7 = .ok (.bipush (-5), 2) := by decide +kernel
theorem dX7_undo_9 : decode cX7_undo 9 = .ok (.ireturn, 1) := by decide +kernel
theorem dX7_undo_10 : decode cX7_undo 10 = .ok (.aload_n 0, 1) := by decide +kernel
theorem dX7_undo_11 : decode cX7_undo 11 = .ok (.dup, 1) := by decide +kernel
theorem dX7_undo_12 : decode cX7_undo 12 = .ok (.getfield 44, 3) := by decide +kernel
theorem dX7_undo_15 : decode cX7_undo 15 = .ok (.iconst 1, 1) := by decide +kernel
theorem dX7_undo_16 : decode cX7_undo 16 = .ok (.isub, 1) := by decide +kernel
theorem dX7_undo_17 : decode cX7_undo 17 = .ok (.putfield 44, 3) := by decide +kernel
theorem dX7_undo_20 : decode cX7_undo 20 = .ok (.iconst 0, 1) := by decide +kernel
theorem dX7_undo_21 : decode cX7_undo 21 = .ok (.istore_n 1, 1) := by decide +kernel
theorem dX7_undo_22 : decode cX7_undo 22 = .ok (.iload_n 1, 1) := by decide +kernel
theorem dX7_undo_23 : decode cX7_undo 23 = .ok (.sipush 292, 3) := by decide +kernel
theorem dX7_undo_26 : decode cX7_undo 26 = .ok (.if_icmp .ge 30, 3) := by decide +kernel
theorem dX7_undo_29 : decode cX7_undo 29 = .ok (.aload_n 0, 1) := by decide +kernel
theorem dX7_undo_30 : decode cX7_undo 30 = .ok (.getfield 7, 3) := by decide +kernel
theorem dX7_undo_33 : decode cX7_undo 33 = .ok (.iload_n 1, 1) := by decide +kernel
theorem dX7_undo_34 : decode cX7_undo 34 = .ok (.aload_n 0, 1) := by decide +kernel
theorem dX7_undo_35 : decode cX7_undo 35 = .ok (.getfield 13, 3) := by decide +kernel
theorem dX7_undo_38 : decode cX7_undo 38 = .ok (.sipush 292, 3) := by decide +kernel
theorem dX7_undo_41 : decode cX7_undo 41 = .ok (.aload_n 0, 1) := by decide +kernel
theorem dX7_undo_42 : decode cX7_undo 42 = .ok (.getfield 44, 3) := by decide +kernel
theorem dX7_undo_45 : decode cX7_undo 45 = .ok (.imul, 1) := by decide +kernel
theorem dX7_undo_46 : decode cX7_undo 46 = .ok (.iload_n 1, 1) := by decide +kernel
theorem dX7_undo_47 : decode cX7_undo 47 = .ok (.iadd, 1) := by decide +kernel
theorem dX7_undo_48 : decode cX7_undo 48 = .ok (.iaload, 1) := by decide +kernel
theorem dX7_undo_49 : decode cX7_undo 49 = .ok (.iastore, 1) := by decide +kernel
theorem dX7_undo_50 : decode cX7_undo 50 = .ok (.iinc 1 1, 3) := by decide +kernel
theorem dX7_undo_53 : decode cX7_undo 53 = .ok (.goto (-31), 3) := by decide +kernel
theorem dX7_undo_56 : decode cX7_undo 56 = .ok (.aload_n 0, 1) := by decide +kernel
theorem dX7_undo_57 : decode cX7_undo 57 = .ok (.getfield 44, 3) := by decide +kernel
theorem dX7_undo_60 : decode cX7_undo 60 = .ok (.ireturn, 1) := by decide +kernel
theorem dX7_versionsAtRisk_0 : decode cX7_versionsAtRisk 0 = .ok (.iconst 0, 1) := by decide +kernel
theorem dX7_versionsAtRisk_1 : decode cX7_versionsAtRisk 1 = .ok (.istore_n 2, 1) := by decide +kernel
theorem dX7_versionsAtRisk_2 : decode cX7_versionsAtRisk 2 = .ok (.iconst 0, 1) := by decide +kernel
theorem dX7_versionsAtRisk_3 : decode cX7_versionsAtRisk 3 = .ok (.istore_n 3, 1) := by decide +kernel
theorem dX7_versionsAtRisk_4 : decode cX7_versionsAtRisk 4 = .ok (.iload_n 3, 1) := by decide +kernel
theorem dX7_versionsAtRisk_5 : decode cX7_versionsAtRisk 5 = .ok (.aload_n 0, 1) := by decide +kernel
theorem dX7_versionsAtRisk_6 : decode cX7_versionsAtRisk 6 = .ok (.getfield 7, 3) := by decide +kernel
theorem dX7_versionsAtRisk_9 : decode cX7_versionsAtRisk 9 = .ok (.iload_n 1, 1) := by decide +kernel
theorem dX7_versionsAtRisk_10 : decode cX7_versionsAtRisk 10 = .ok (.iconst 0, 1) := by decide +kernel
theorem dX7_versionsAtRisk_11 : decode cX7_versionsAtRisk 11 = .ok (.invokestatic 36, 3) := by decide +kernel
theorem dX7_versionsAtRisk_14 : decode cX7_versionsAtRisk 14 = .ok (.iaload, 1) := by decide +kernel
theorem dX7_versionsAtRisk_15 : decode cX7_versionsAtRisk 15 = .ok (.if_icmp .gt 36, 3) := by decide +kernel
theorem dX7_versionsAtRisk_18 : decode cX7_versionsAtRisk 18 = .ok (.iload_n 2, 1) := by decide +kernel
theorem dX7_versionsAtRisk_19 : decode cX7_versionsAtRisk 19 = .ok (.aload_n 0, 1) := by decide +kernel
theorem dX7_versionsAtRisk_20 : decode cX7_versionsAtRisk 20 = .ok (.getfield 7, 3) := by decide +kernel
theorem dX7_versionsAtRisk_23 : decode cX7_versionsAtRisk 23 = .ok (.iload_n 1, 1) := by decide +kernel
theorem dX7_versionsAtRisk_24 : decode cX7_versionsAtRisk 24 = .ok (.iload_n 3, 1) := by decide +kernel
theorem dX7_versionsAtRisk_25 : decode cX7_versionsAtRisk 25 = .ok (.iconst 3, 1) := by decide +kernel
theorem dX7_versionsAtRisk_26 : decode cX7_versionsAtRisk 26 = .ok (.invokestatic 40, 3) := by decide +kernel
theorem dX7_versionsAtRisk_29 : decode cX7_versionsAtRisk 29 = .ok (.iaload, 1) := by decide +kernel
theorem dX7_versionsAtRisk_30 : decode cX7_versionsAtRisk 30 = .ok (.iconst 1, 1) := by decide +kernel
theorem dX7_versionsAtRisk_31 : decode cX7_versionsAtRisk 31 = .ok (.iconst 2, 1) := by decide +kernel
theorem dX7_versionsAtRisk_32 : decode cX7_versionsAtRisk 32 = .ok (.invokestatic 32, 3) := by decide +kernel
theorem dX7_versionsAtRisk_35 : decode cX7_versionsAtRisk 35 = .ok (.ifCond .eq 7, 3) := by decide +kernel
theorem dX7_versionsAtRisk_38 : decode cX7_versionsAtRisk 38 = .ok (.iconst 1, 1) := by decide +kernel
theorem dX7_versionsAtRisk_39 : decode cX7_versionsAtRisk 39 = .ok (.goto 4, 3) := by decide +kernel
theorem dX7_versionsAtRisk_42 : decode cX7_versionsAtRisk 42 = .ok (.iconst 0, 1) := by decide +kernel
theorem dX7_versionsAtRisk_43 : decode cX7_versionsAtRisk 43 = .ok (.iadd, 1) := by decide +kernel
theorem dX7_versionsAtRisk_44 : decode cX7_versionsAtRisk 44 = .ok (.istore_n 2, 1) := by decide +kernel
theorem dX7_versionsAtRisk_45 : decode cX7_versionsAtRisk 45 = .ok (.iinc 3 1, 3) := by decide +kernel
theorem dX7_versionsAtRisk_48 : decode cX7_versionsAtRisk 48 = .ok (.goto (-44), 3) := by decide +kernel
theorem dX7_versionsAtRisk_51 : decode cX7_versionsAtRisk 51 = .ok (.iload_n 2, 1) := by decide +kernel
theorem dX7_versionsAtRisk_52 : decode cX7_versionsAtRisk 52 = .ok (.ireturn, 1) := by decide +kernel
theorem dX7_wipe_0 : decode cX7_wipe 0 = .ok (.aload_n 0, 1) := by decide +kernel
theorem dX7_wipe_1 : decode cX7_wipe 1 = .ok (.getfield 151, 3) := by decide +kernel
theorem dX7_wipe_4 : decode cX7_wipe 4 = .ok (.istore_n 1, 1) := by decide +kernel
theorem dX7_wipe_5 : decode cX7_wipe 5 = .ok (.aload_n 0, 1) := by decide +kernel
theorem dX7_wipe_6 : decode cX7_wipe 6 = .ok (.iconst 0, 1) := by decide +kernel
theorem dX7_wipe_7 : decode cX7_wipe 7 = .ok (.putfield 151, 3) := by decide +kernel
theorem dX7_wipe_10 : decode cX7_wipe 10 = .ok (.iload_n 1, 1) := by decide +kernel
theorem dX7_wipe_11 : decode cX7_wipe 11 = .ok (.ireturn, 1) := by decide +kernel
