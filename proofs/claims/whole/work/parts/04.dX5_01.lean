/-! what each instruction decodes to, as printed -/
theorem dX5_writesValue_76 : decode cX5_writesValue 76 = .ok (.iastore, 1) := by decide +kernel
theorem dX5_writesValue_77 : decode cX5_writesValue 77 = .ok (.iload 4, 2) := by decide +kernel
theorem dX5_writesValue_79 : decode cX5_writesValue 79 = .ok (.ireturn, 1) := by decide +kernel
theorem dX5_worth_0 : decode cX5_worth 0 = .ok (.iconst 0, 1) := by decide +kernel
theorem dX5_worth_1 : decode cX5_worth 1 = .ok (.istore_n 3, 1) := by decide +kernel
theorem dX5_worth_2 : decode cX5_worth 2 = .ok (.iconst 0, 1) := by decide +kernel
theorem dX5_worth_3 : decode cX5_worth 3 = .ok (.istore 4, 2) := by decide +kernel
theorem dX5_worth_5 : decode cX5_worth 5 = .ok (.iload 4, 2) := by decide +kernel
theorem dX5_worth_7 : decode cX5_worth 7 = .ok (.iconst 4, 1) := by decide +kernel
theorem dX5_worth_8 : decode cX5_worth 8 = .ok (.if_icmp .ge 37, 3) := by decide +kernel
theorem dX5_worth_11 : decode cX5_worth 11 = .ok (.iload_n 3, 1) := by decide +kernel
theorem dX5_worth_12 : decode cX5_worth 12 = .ok (.aload_n 0, 1) := by decide +kernel
theorem dX5_worth_13 : decode cX5_worth 13 = .ok (.getfield 13, 3) := by decide +kernel
theorem dX5_worth_16 : decode cX5_worth 16 = .ok (.iload_n 1, 1) := by decide +kernel
theorem dX5_worth_17 : decode cX5_worth 17 = .ok (.iload_n 2, 1) := by decide +kernel
theorem dX5_worth_18 : decode cX5_worth 18 = .ok (.iload 4, 2) := by decide +kernel
theorem dX5_worth_20 : decode cX5_worth 20 = .ok (.invokestatic 36, 3) := by decide +kernel
theorem dX5_worth_23 : decode cX5_worth 23 = .ok (.iaload, 1) := by decide +kernel
theorem dX5_worth_24 : decode cX5_worth 24 = .ok (.aload_n 0, 1) := by decide +kernel
theorem dX5_worth_25 : decode cX5_worth 25 = .ok (.getfield 13, 3) := by decide +kernel
theorem dX5_worth_28 : decode cX5_worth 28 = .ok (.iload_n 1, 1) := by decide +kernel
theorem dX5_worth_29 : decode cX5_worth 29 = .ok (.iload_n 2, 1) := by decide +kernel
theorem dX5_worth_30 : decode cX5_worth 30 = .ok (.iload 4, 2) := by decide +kernel
theorem dX5_worth_32 : decode cX5_worth 32 = .ok (.invokestatic 40, 3) := by decide +kernel
theorem dX5_worth_35 : decode cX5_worth 35 = .ok (.iaload, 1) := by decide +kernel
theorem dX5_worth_36 : decode cX5_worth 36 = .ok (.isub, 1) := by decide +kernel
theorem dX5_worth_37 : decode cX5_worth 37 = .ok (.iadd, 1) := by decide +kernel
theorem dX5_worth_38 : decode cX5_worth 38 = .ok (.istore_n 3, 1) := by decide +kernel
theorem dX5_worth_39 : decode cX5_worth 39 = .ok (.iinc 4 1, 3) := by decide +kernel
theorem dX5_worth_42 : decode cX5_worth 42 = .ok (.goto (-37), 3) := by decide +kernel
theorem dX5_worth_45 : decode cX5_worth 45 = .ok (.iload_n 3, 1) := by decide +kernel
theorem dX5_worth_46 : decode cX5_worth 46 = .ok (.ireturn, 1) := by decide +kernel
theorem dX5_tagsIn_0 : decode cX5_tagsIn 0 = .ok (.iconst 0, 1) := by decide +kernel
theorem dX5_tagsIn_1 : decode cX5_tagsIn 1 = .ok (.istore_n 2, 1) := by decide +kernel
theorem dX5_tagsIn_2 : decode cX5_tagsIn 2 = .ok (.iconst 0, 1) := by decide +kernel
theorem dX5_tagsIn_3 : decode cX5_tagsIn 3 = .ok (.istore_n 3, 1) := by decide +kernel
theorem dX5_tagsIn_4 : decode cX5_tagsIn 4 = .ok (.iload_n 3, 1) := by decide +kernel
theorem dX5_tagsIn_5 : decode cX5_tagsIn 5 = .ok (.bipush 16, 2) := by decide +kernel
theorem dX5_tagsIn_7 : decode cX5_tagsIn 7 = .ok (.if_icmp .ge 26, 3) := by decide +kernel
theorem dX5_tagsIn_10 : decode cX5_tagsIn 10 = .ok (.iload_n 2, 1) := by decide +kernel
theorem dX5_tagsIn_11 : decode cX5_tagsIn 11 = .ok (.aload_n 0, 1) := by decide +kernel
theorem dX5_tagsIn_12 : decode cX5_tagsIn 12 = .ok (.iload_n 1, 1) := by decide +kernel
theorem dX5_tagsIn_13 : decode cX5_tagsIn 13 = .ok (.iload_n 3, 1) := by decide +kernel
theorem dX5_tagsIn_14 : decode cX5_tagsIn 14 = .ok (.invokevirtual 78, 3) := by decide +kernel
theorem dX5_tagsIn_17 : decode cX5_tagsIn 17 = .ok (.ifCond .le 7, 3) := by decide +kernel
theorem dX5_tagsIn_20 : decode cX5_tagsIn 20 = .ok (.iconst 1, 1) := by decide +kernel
theorem dX5_tagsIn_21 : decode cX5_tagsIn 21 = .ok (.goto 4, 3) := by decide +kernel
theorem dX5_tagsIn_24 : decode cX5_tagsIn 24 = .ok (.iconst 0, 1) := by decide +kernel
theorem dX5_tagsIn_25 : decode cX5_tagsIn 25 = .ok (.iadd, 1) := by decide +kernel
theorem dX5_tagsIn_26 : decode cX5_tagsIn 26 = .ok (.istore_n 2, 1) := by decide +kernel
theorem dX5_tagsIn_27 : decode cX5_tagsIn 27 = .ok (.iinc 3 1, 3) := by decide +kernel
theorem dX5_tagsIn_30 : decode cX5_tagsIn 30 = .ok (.goto (-26), 3) := by decide +kernel
theorem dX5_tagsIn_33 : decode cX5_tagsIn 33 = .ok (.iload_n 2, 1) := by decide +kernel
theorem dX5_tagsIn_34 : decode cX5_tagsIn 34 = .ok (.ireturn, 1) := by decide +kernel
theorem dX5_conflictsIn_0 : decode cX5_conflictsIn 0 = .ok (.iconst 0, 1) := by decide +kernel
theorem dX5_conflictsIn_1 : decode cX5_conflictsIn 1 = .ok (.istore_n 2, 1) := by decide +kernel
theorem dX5_conflictsIn_2 : decode cX5_conflictsIn 2 = .ok (.iconst 0, 1) := by decide +kernel
theorem dX5_conflictsIn_3 : decode cX5_conflictsIn 3 = .ok (.istore_n 3, 1) := by decide +kernel
theorem dX5_conflictsIn_4 : decode cX5_conflictsIn 4 = .ok (.iload_n 3, 1) := by decide +kernel
theorem dX5_conflictsIn_5 : decode cX5_conflictsIn 5 = .ok (.iconst 4, 1) := by decide +kernel
theorem dX5_conflictsIn_6 : decode cX5_conflictsIn 6 = .ok (.if_icmp .ge 27, 3) := by decide +kernel
theorem dX5_conflictsIn_9 : decode cX5_conflictsIn 9 = .ok (.iload_n 2, 1) := by decide +kernel
theorem dX5_conflictsIn_10 : decode cX5_conflictsIn 10 = .ok (.aload_n 0, 1) := by decide +kernel
theorem dX5_conflictsIn_11 : decode cX5_conflictsIn 11 = .ok (.iload_n 1, 1) := by decide +kernel
theorem dX5_conflictsIn_12 : decode cX5_conflictsIn 12 = .ok (.iload_n 3, 1) := by decide +kernel
theorem dX5_conflictsIn_13 : decode cX5_conflictsIn 13 = .ok (.invokevirtual 87, 3) := by decide +kernel
theorem dX5_conflictsIn_16 : decode cX5_conflictsIn 16 = .ok (.iconst 1, 1) := by decide +kernel
theorem dX5_conflictsIn_17 : decode cX5_conflictsIn 17 = .ok (.if_icmp .le 7, 3) := by decide +kernel
theorem dX5_conflictsIn_20 : decode cX5_conflictsIn 20 = .ok (.iconst 1, 1) := by decide +kernel
theorem dX5_conflictsIn_21 : decode cX5_conflictsIn 21 = .ok (.goto 4, 3) := by decide +kernel
theorem dX5_conflictsIn_24 : decode cX5_conflictsIn 24 = .ok (.iconst 0, 1) := by decide +kernel
theorem dX5_conflictsIn_25 : decode cX5_conflictsIn 25 = .ok (.iadd, 1) := by decide +kernel
theorem dX5_conflictsIn_26 : decode cX5_conflictsIn 26 = .ok (.istore_n 2, 1) := by decide +kernel
theorem dX5_conflictsIn_27 : decode cX5_conflictsIn 27 = .ok (.iinc 3 1, 3) := by decide +kernel
theorem dX5_conflictsIn_30 : decode cX5_conflictsIn 30 = .ok (.goto (-26), 3) := by decide +kernel
theorem dX5_conflictsIn_33 : decode cX5_conflictsIn 33 = .ok (.iload_n 2, 1) := by decide +kernel
theorem dX5_conflictsIn_34 : decode cX5_conflictsIn 34 = .ok (.ireturn, 1) := by decide +kernel
theorem dX5_survivor_0 : decode cX5_survivor 0 = .ok (.iload 4, 2) := by decide +kernel
theorem dX5_survivor_2 : decode cX5_survivor 2 = .ok (.aload_n 0, 1) := by decide +kernel
theorem dX5_survivor_3 : decode cX5_survivor 3 = .ok (.getfield 13, 3) := by decide +kernel
theorem dX5_survivor_6 : decode cX5_survivor 6 = .ok (.iload_n 1, 1) := by decide +kernel
theorem dX5_survivor_7 : decode cX5_survivor 7 = .ok (.iload 5, 2) := by decide +kernel
theorem dX5_survivor_9 : decode cX5_survivor 9 = .ok (.invokestatic 72, 3) := by decide +kernel
theorem dX5_survivor_12 : decode cX5_survivor 12 = .ok (.iaload, 1) := by decide +kernel
theorem dX5_survivor_13 : decode cX5_survivor 13 = .ok (.if_icmp .le 6, 3) := by decide +kernel
theorem dX5_survivor_16 : decode cX5_survivor 16 = .ok (.iload 4, 2) := by decide +kernel
theorem dX5_survivor_18 : decode cX5_survivor 18 = .ok (.ireturn, 1) := by decide +kernel
theorem dX5_survivor_19 : decode cX5_survivor 19 = .ok (.iload_n 3, 1) := by decide +kernel
theorem dX5_survivor_20 : decode cX5_survivor 20 = .ok (.iload 4, 2) := by decide +kernel
theorem dX5_survivor_22 : decode cX5_survivor 22 = .ok (.if_icmp .eq 18, 3) := by decide +kernel
theorem dX5_survivor_25 : decode cX5_survivor 25 = .ok (.iload_n 3, 1) := by decide +kernel
theorem dX5_survivor_26 : decode cX5_survivor 26 = .ok (.aload_n 0, 1) := by decide +kernel
theorem dX5_survivor_27 : decode cX5_survivor 27 = .ok (.getfield 13, 3) := by decide +kernel
theorem dX5_survivor_30 : decode cX5_survivor 30 = .ok (.iload_n 2, 1) := by decide +kernel
theorem dX5_survivor_31 : decode cX5_survivor 31 = .ok (.iload 5, 2) := by decide +kernel
theorem dX5_survivor_33 : decode cX5_survivor 33 = .ok (.invokestatic 72, 3) := by decide +kernel
theorem dX5_survivor_36 : decode cX5_survivor 36 = .ok (.iaload, 1) := by decide +kernel
theorem dX5_survivor_37 : decode cX5_survivor 37 = .ok (.if_icmp .le 7, 3) := by decide +kernel
theorem dX5_survivor_40 : decode cX5_survivor 40 = .ok (.iconst 1, 1) := by decide +kernel
theorem dX5_survivor_41 : decode cX5_survivor 41 = .ok (.goto 4, 3) := by decide +kernel
theorem dX5_survivor_44 : decode cX5_survivor 44 = .ok (.iconst 0, 1) := by decide +kernel
theorem dX5_survivor_45 : decode cX5_survivor 45 = .ok (.istore 6, 2) := by decide +kernel
theorem dX5_survivor_47 : decode cX5_survivor 47 = .ok (.iload 6, 2) := by decide +kernel
theorem dX5_survivor_49 : decode cX5_survivor 49 = .ok (.ifCond .eq 7, 3) := by decide +kernel
theorem dX5_survivor_52 : decode cX5_survivor 52 = .ok (.iload_n 3, 1) := by decide +kernel
theorem dX5_survivor_53 : decode cX5_survivor 53 = .ok (.goto 4, 3) := by decide +kernel
theorem dX5_survivor_56 : decode cX5_survivor 56 = .ok (.iconst 0, 1) := by decide +kernel
theorem dX5_survivor_57 : decode cX5_survivor 57 = .ok (.ireturn, 1) := by decide +kernel
theorem dX5_mergesEntry_0 : decode cX5_mergesEntry 0 = .ok (.aload_n 0, 1) := by decide +kernel
theorem dX5_mergesEntry_1 : decode cX5_mergesEntry 1 = .ok (.getfield 13, 3) := by decide +kernel
theorem dX5_mergesEntry_4 : decode cX5_mergesEntry 4 = .ok (.iload_n 1, 1) := by decide +kernel
theorem dX5_mergesEntry_5 : decode cX5_mergesEntry 5 = .ok (.iload_n 3, 1) := by decide +kernel
theorem dX5_mergesEntry_6 : decode cX5_mergesEntry 6 = .ok (.iload 4, 2) := by decide +kernel
theorem dX5_mergesEntry_8 : decode cX5_mergesEntry 8 = .ok (.invokestatic 84, 3) := by decide +kernel
theorem dX5_mergesEntry_11 : decode cX5_mergesEntry 11 = .ok (.iaload, 1) := by decide +kernel
theorem dX5_mergesEntry_12 : decode cX5_mergesEntry 12 = .ok (.istore 5, 2) := by decide +kernel
theorem dX5_mergesEntry_14 : decode cX5_mergesEntry 14 = .ok (.aload_n 0, 1) := by decide +kernel
theorem dX5_mergesEntry_15 : decode cX5_mergesEntry 15 = .ok (.getfield 13, 3) := by decide +kernel
theorem dX5_mergesEntry_18 : decode cX5_mergesEntry 18 = .ok (.iload_n 2, 1) := by decide +kernel
theorem dX5_mergesEntry_19 : decode cX5_mergesEntry 19 = .ok (.iload_n 3, 1) := by decide +kernel
theorem dX5_mergesEntry_20 : decode cX5_mergesEntry 20 = .ok (.iload 4, 2) := by decide +kernel
theorem dX5_mergesEntry_22 : decode cX5_mergesEntry 22 = .ok (.invokestatic 84, 3) := by decide +kernel
theorem dX5_mergesEntry_25 : decode cX5_mergesEntry 25 = .ok (.iaload, 1) := by decide +kernel
theorem dX5_mergesEntry_26 : decode cX5_mergesEntry 26 = .ok (.istore 6, 2) := by decide +kernel
theorem dX5_mergesEntry_28 : decode cX5_mergesEntry 28 = .ok (.aload_n 0, 1) := by decide +kernel
theorem dX5_mergesEntry_29 : decode cX5_mergesEntry 29 = .ok (.iload_n 1, 1) := by decide +kernel
theorem dX5_mergesEntry_30 : decode cX5_mergesEntry 30 = .ok (.iload_n 2, 1) := by decide +kernel
theorem dX5_mergesEntry_31 : decode cX5_mergesEntry 31 = .ok (.iload 5, 2) := by decide +kernel
theorem dX5_mergesEntry_33 : decode cX5_mergesEntry 33 = .ok (.iload 6, 2) := by decide +kernel
theorem dX5_mergesEntry_35 : decode cX5_mergesEntry 35 = .ok (.iload 4, 2) := by decide +kernel
theorem dX5_mergesEntry_37 : decode cX5_mergesEntry 37 = .ok (.invokevirtual 93, 3) := by decide +kernel
theorem dX5_mergesEntry_40 : decode cX5_mergesEntry 40 = .ok (.istore 7, 2) := by decide +kernel
theorem dX5_mergesEntry_42 : decode cX5_mergesEntry 42 = .ok (.iload 7, 2) := by decide +kernel
theorem dX5_mergesEntry_44 : decode cX5_mergesEntry 44 = .ok (.ifCond .ne 19, 3) := by decide +kernel
theorem dX5_mergesEntry_47 : decode cX5_mergesEntry 47 = .ok (.aload_n 0, 1) := by decide +kernel
theorem dX5_mergesEntry_48 : decode cX5_mergesEntry 48 = .ok (.getfield 13, 3) := by decide +kernel
theorem dX5_mergesEntry_51 : decode cX5_mergesEntry 51 = .ok (.iload_n 1, 1) := by decide +kernel
theorem dX5_mergesEntry_52 : decode cX5_mergesEntry 52 = .ok (.iload_n 3, 1) := by decide +kernel
theorem dX5_mergesEntry_53 : decode cX5_mergesEntry 53 = .ok (.iload 4, 2) := by decide +kernel
theorem dX5_mergesEntry_55 : decode cX5_mergesEntry 55 = .ok (.invokestatic 90, 3) := by decide +kernel
theorem dX5_mergesEntry_58 : decode cX5_mergesEntry 58 = .ok (.iconst 0, 1) := by decide +kernel
theorem dX5_mergesEntry_59 : decode cX5_mergesEntry 59 = .ok (.iastore, 1) := by decide +kernel
theorem dX5_mergesEntry_60 : decode cX5_mergesEntry 60 = .ok (.goto 34, 3) := by decide +kernel
theorem dX5_mergesEntry_63 : decode cX5_mergesEntry 63 = .ok (.iload 7, 2) := by decide +kernel
theorem dX5_mergesEntry_65 : decode cX5_mergesEntry 65 = .ok (.iload 5, 2) := by decide +kernel
theorem dX5_mergesEntry_67 : decode cX5_mergesEntry 67 = .ok (.if_icmp .eq 27, 3) := by decide +kernel
theorem dX5_mergesEntry_70 : decode cX5_mergesEntry 70 = .ok (.aload_n 0, 1) := by decide +kernel
theorem dX5_mergesEntry_71 : decode cX5_mergesEntry 71 = .ok (.getfield 13, 3) := by decide +kernel
theorem dX5_mergesEntry_74 : decode cX5_mergesEntry 74 = .ok (.iload_n 1, 1) := by decide +kernel
theorem dX5_mergesEntry_75 : decode cX5_mergesEntry 75 = .ok (.iload_n 3, 1) := by decide +kernel
theorem dX5_mergesEntry_76 : decode cX5_mergesEntry 76 = .ok (.iload 4, 2) := by decide +kernel
theorem dX5_mergesEntry_78 : decode cX5_mergesEntry 78 = .ok (.invokestatic 90, 3) := by decide +kernel
theorem dX5_mergesEntry_81 : decode cX5_mergesEntry 81 = .ok (.aload_n 0, 1) := by decide +kernel
theorem dX5_mergesEntry_82 : decode cX5_mergesEntry 82 = .ok (.getfield 13, 3) := by decide +kernel
theorem dX5_mergesEntry_85 : decode cX5_mergesEntry 85 = .ok (.iload_n 2, 1) := by decide +kernel
theorem dX5_mergesEntry_86 : decode cX5_mergesEntry 86 = .ok (.iload_n 3, 1) := by decide +kernel
theorem dX5_mergesEntry_87 : decode cX5_mergesEntry 87 = .ok (.iload 4, 2) := by decide +kernel
theorem dX5_mergesEntry_89 : decode cX5_mergesEntry 89 = .ok (.invokestatic 90, 3) := by decide +kernel
theorem dX5_mergesEntry_92 : decode cX5_mergesEntry 92 = .ok (.iaload, 1) := by decide +kernel
theorem dX5_mergesEntry_93 : decode cX5_mergesEntry 93 = .ok (.iastore, 1) := by decide +kernel
theorem dX5_mergesEntry_94 : decode cX5_mergesEntry 94 = .ok (.aload_n 0, 1) := by decide +kernel
theorem dX5_mergesEntry_95 : decode cX5_mergesEntry 95 = .ok (.getfield 13, 3) := by decide +kernel
theorem dX5_mergesEntry_98 : decode cX5_mergesEntry 98 = .ok (.iload_n 1, 1) := by decide +kernel
theorem dX5_mergesEntry_99 : decode cX5_mergesEntry 99 = .ok (.iload_n 3, 1) := by decide +kernel
theorem dX5_mergesEntry_100 : decode cX5_mergesEntry 100 = .ok (.iload 4, 2) := by decide +kernel
theorem dX5_mergesEntry_102 : decode cX5_mergesEntry 102 = .ok (.invokestatic 84, 3) := by decide +kernel
theorem dX5_mergesEntry_105 : decode cX5_mergesEntry 105 = .ok (.iload 7, 2) := by decide +kernel
theorem dX5_mergesEntry_107 : decode cX5_mergesEntry 107 = .ok (.iastore, 1) := by decide +kernel
theorem dX5_mergesEntry_108 : decode cX5_mergesEntry 108 = .ok (.return_, 1) := by decide +kernel
theorem dX5_raises_0 : decode cX5_raises 0 = .ok (.aload_n 0, 1) := by decide +kernel
theorem dX5_raises_1 : decode cX5_raises 1 = .ok (.getfield 13, 3) := by decide +kernel
theorem dX5_raises_4 : decode cX5_raises 4 = .ok (.iload_n 1, 1) := by decide +kernel
theorem dX5_raises_5 : decode cX5_raises 5 = .ok (.aload_n 0, 1) := by decide +kernel
theorem dX5_raises_6 : decode cX5_raises 6 = .ok (.getfield 13, 3) := by decide +kernel
theorem dX5_raises_9 : decode cX5_raises 9 = .ok (.iload_n 2, 1) := by decide +kernel
theorem dX5_raises_10 : decode cX5_raises 10 = .ok (.iaload, 1) := by decide +kernel
theorem dX5_raises_11 : decode cX5_raises 11 = .ok (.aload_n 0, 1) := by decide +kernel
theorem dX5_raises_12 : decode cX5_raises 12 = .ok (.getfield 13, 3) := by decide +kernel
theorem dX5_raises_15 : decode cX5_raises 15 = .ok (.iload_n 1, 1) := by decide +kernel
theorem dX5_raises_16 : decode cX5_raises 16 = .ok (.iaload, 1) := by decide +kernel
theorem dX5_raises_17 : decode cX5_raises 17 = .ok (.if_icmp .le 12, 3) := by decide +kernel
theorem dX5_raises_20 : decode cX5_raises 20 = .ok (.aload_n 0, 1) := by decide +kernel
theorem dX5_raises_21 : decode cX5_raises 21 = .ok (.getfield 13, 3) := by decide +kernel
theorem dX5_raises_24 : decode cX5_raises 24 = .ok (.iload_n 2, 1) := by decide +kernel
theorem dX5_raises_25 : decode cX5_raises 25 = .ok (.iaload, 1) := by decide +kernel
theorem dX5_raises_26 : decode cX5_raises 26 = .ok (.goto 9, 3) := by decide +kernel
theorem dX5_raises_29 : decode cX5_raises 29 = .ok (.aload_n 0, 1) := by decide +kernel
theorem dX5_raises_30 : decode cX5_raises 30 = .ok (.getfield 13, 3) := by decide +kernel
theorem dX5_raises_33 : decode cX5_raises 33 = .ok (.iload_n 1, 1) := by decide +kernel
theorem dX5_raises_34 : decode cX5_raises 34 = .ok (.iaload, 1) := by decide +kernel
theorem dX5_raises_35 : decode cX5_raises 35 = .ok (.iastore, 1) := by decide +kernel
theorem dX5_raises_36 : decode cX5_raises 36 = .ok (.return_, 1) := by decide +kernel
theorem dX5_merges_0 : decode cX5_merges 0 = .ok (.iconst 0, 1) := by decide +kernel
theorem dX5_merges_1 : decode cX5_merges 1 = .ok (.istore_n 3, 1) := by decide +kernel
theorem dX5_merges_2 : decode cX5_merges 2 = .ok (.iload_n 3, 1) := by decide +kernel
theorem dX5_merges_3 : decode cX5_merges 3 = .ok (.iconst 4, 1) := by decide +kernel
theorem dX5_merges_4 : decode cX5_merges 4 = .ok (.if_icmp .ge 143, 3) := by decide +kernel
theorem dX5_merges_7 : decode cX5_merges 7 = .ok (.iconst 0, 1) := by decide +kernel
theorem dX5_merges_8 : decode cX5_merges 8 = .ok (.istore 4, 2) := by decide +kernel
theorem dX5_merges_10 : decode cX5_merges 10 = .ok (.iload 4, 2) := by decide +kernel
theorem dX5_merges_12 : decode cX5_merges 12 = .ok (.iconst 4, 1) := by decide +kernel
theorem dX5_merges_13 : decode cX5_merges 13 = .ok (.if_icmp .ge 45, 3) := by decide +kernel
theorem dX5_merges_16 : decode cX5_merges 16 = .ok (.aload_n 0, 1) := by decide +kernel
theorem dX5_merges_17 : decode cX5_merges 17 = .ok (.iload_n 1, 1) := by decide +kernel
theorem dX5_merges_18 : decode cX5_merges 18 = .ok (.iload 4, 2) := by decide +kernel
theorem dX5_merges_20 : decode cX5_merges 20 = .ok (.iload_n 3, 1) := by decide +kernel
theorem dX5_merges_21 : decode cX5_merges 21 = .ok (.invokestatic 36, 3) := by decide +kernel
theorem dX5_merges_24 : decode cX5_merges 24 = .ok (.iload_n 2, 1) := by decide +kernel
theorem dX5_merges_25 : decode cX5_merges 25 = .ok (.iload 4, 2) := by decide +kernel
theorem dX5_merges_27 : decode cX5_merges 27 = .ok (.iload_n 3, 1) := by decide +kernel
theorem dX5_merges_28 : decode cX5_merges 28 = .ok (.invokestatic 36, 3) := by decide +kernel
theorem dX5_merges_31 : decode cX5_merges 31 = .ok (.invokevirtual 97, 3) := by decide +kernel
theorem dX5_merges_34 : decode cX5_merges 34 = .ok (.aload_n 0, 1) := by decide +kernel
theorem dX5_merges_35 : decode cX5_merges 35 = .ok (.iload_n 1, 1) := by decide +kernel
theorem dX5_merges_36 : decode cX5_merges 36 = .ok (.iload 4, 2) := by decide +kernel
theorem dX5_merges_38 : decode cX5_merges 38 = .ok (.iload_n 3, 1) := by decide +kernel
theorem dX5_merges_39 : decode cX5_merges 39 = .ok (.invokestatic 40, 3) := by decide +kernel
theorem dX5_merges_42 : decode cX5_merges 42 = .ok (.iload_n 2, 1) := by decide +kernel
theorem dX5_merges_43 : decode cX5_merges 43 = .ok (.iload 4, 2) := by decide +kernel
theorem dX5_merges_45 : decode cX5_merges 45 = .ok (.iload_n 3, 1) := by decide +kernel
theorem dX5_merges_46 : decode cX5_merges 46 = .ok (.invokestatic 40, 3) := by decide +kernel
theorem dX5_merges_49 : decode cX5_merges 49 = .ok (.invokevirtual 97, 3) := by decide +kernel
theorem dX5_merges_52 : decode cX5_merges 52 = .ok (.iinc 4 1, 3) := by decide +kernel
theorem dX5_merges_55 : decode cX5_merges 55 = .ok (.goto (-45), 3) := by decide +kernel
theorem dX5_merges_58 : decode cX5_merges 58 = .ok (.iconst 0, 1) := by decide +kernel
theorem dX5_merges_59 : decode cX5_merges 59 = .ok (.istore 4, 2) := by decide +kernel
theorem dX5_merges_61 : decode cX5_merges 61 = .ok (.iload 4, 2) := by decide +kernel
theorem dX5_merges_63 : decode cX5_merges 63 = .ok (.bipush 16, 2) := by decide +kernel
theorem dX5_merges_65 : decode cX5_merges 65 = .ok (.if_icmp .ge 52, 3) := by decide +kernel
theorem dX5_merges_68 : decode cX5_merges 68 = .ok (.aload_n 0, 1) := by decide +kernel
theorem dX5_merges_69 : decode cX5_merges 69 = .ok (.getfield 13, 3) := by decide +kernel
theorem dX5_merges_72 : decode cX5_merges 72 = .ok (.iload_n 1, 1) := by decide +kernel
theorem dX5_merges_73 : decode cX5_merges 73 = .ok (.iload 4, 2) := by decide +kernel
theorem dX5_merges_75 : decode cX5_merges 75 = .ok (.iload_n 3, 1) := by decide +kernel
theorem dX5_merges_76 : decode cX5_merges 76 = .ok (.invokestatic 75, 3) := by decide +kernel
theorem dX5_merges_79 : decode cX5_merges 79 = .ok (.aload_n 0, 1) := by decide +kernel
theorem dX5_merges_80 : decode cX5_merges 80 = .ok (.iload_n 1, 1) := by decide +kernel
theorem dX5_merges_81 : decode cX5_merges 81 = .ok (.iload_n 2, 1) := by decide +kernel
theorem dX5_merges_82 : decode cX5_merges 82 = .ok (.aload_n 0, 1) := by decide +kernel
theorem dX5_merges_83 : decode cX5_merges 83 = .ok (.getfield 13, 3) := by decide +kernel
theorem dX5_merges_86 : decode cX5_merges 86 = .ok (.iload_n 1, 1) := by decide +kernel
theorem dX5_merges_87 : decode cX5_merges 87 = .ok (.iload 4, 2) := by decide +kernel
theorem dX5_merges_89 : decode cX5_merges 89 = .ok (.iload_n 3, 1) := by decide +kernel
theorem dX5_merges_90 : decode cX5_merges 90 = .ok (.invokestatic 75, 3) := by decide +kernel
theorem dX5_merges_93 : decode cX5_merges 93 = .ok (.iaload, 1) := by decide +kernel
theorem dX5_merges_94 : decode cX5_merges 94 = .ok (.aload_n 0, 1) := by decide +kernel
theorem dX5_merges_95 : decode cX5_merges 95 = .ok (.getfield 13, 3) := by decide +kernel
theorem dX5_merges_98 : decode cX5_merges 98 = .ok (.iload_n 2, 1) := by decide +kernel
theorem dX5_merges_99 : decode cX5_merges 99 = .ok (.iload 4, 2) := by decide +kernel
theorem dX5_merges_101 : decode cX5_merges 101 = .ok (.iload_n 3, 1) := by decide +kernel
theorem dX5_merges_102 : decode cX5_merges 102 = .ok (.invokestatic 75, 3) := by decide +kernel
theorem dX5_merges_105 : decode cX5_merges 105 = .ok (.iaload, 1) := by decide +kernel
theorem dX5_merges_106 : decode cX5_merges 106 = .ok (.iload_n 3, 1) := by decide +kernel
theorem dX5_merges_107 : decode cX5_merges 107 = .ok (.invokevirtual 93, 3) := by decide +kernel
theorem dX5_merges_110 : decode cX5_merges 110 = .ok (.iastore, 1) := by decide +kernel
theorem dX5_merges_111 : decode cX5_merges 111 = .ok (.iinc 4 1, 3) := by decide +kernel
theorem dX5_merges_114 : decode cX5_merges 114 = .ok (.goto (-53), 3) := by decide +kernel
theorem dX5_merges_117 : decode cX5_merges 117 = .ok (.iconst 0, 1) := by decide +kernel
theorem dX5_merges_118 : decode cX5_merges 118 = .ok (.istore 4, 2) := by decide +kernel
theorem dX5_merges_120 : decode cX5_merges 120 = .ok (.iload 4, 2) := by decide +kernel
theorem dX5_merges_122 : decode cX5_merges 122 = .ok (.iconst 4, 1) := by decide +kernel
theorem dX5_merges_123 : decode cX5_merges 123 = .ok (.if_icmp .ge 18, 3) := by decide +kernel
theorem dX5_merges_126 : decode cX5_merges 126 = .ok (.aload_n 0, 1) := by decide +kernel
theorem dX5_merges_127 : decode cX5_merges 127 = .ok (.iload_n 1, 1) := by decide +kernel
theorem dX5_merges_128 : decode cX5_merges 128 = .ok (.iload_n 2, 1) := by decide +kernel
theorem dX5_merges_129 : decode cX5_merges 129 = .ok (.iload 4, 2) := by decide +kernel
theorem dX5_merges_131 : decode cX5_merges 131 = .ok (.iload_n 3, 1) := by decide +kernel
theorem dX5_merges_132 : decode cX5_merges 132 = .ok (.invokevirtual 100, 3) := by decide +kernel
theorem dX5_merges_135 : decode cX5_merges 135 = .ok (.iinc 4 1, 3) := by decide +kernel
theorem dX5_merges_138 : decode cX5_merges 138 = .ok (.goto (-18), 3) := by decide +kernel
theorem dX5_merges_141 : decode cX5_merges 141 = .ok (.iinc 3 1, 3) := by decide +kernel
theorem dX5_merges_144 : decode cX5_merges 144 = .ok (.goto (-142), 3) := by decide +kernel
theorem dX5_merges_147 : decode cX5_merges 147 = .ok (.iconst 0, 1) := by decide +kernel
theorem dX5_merges_148 : decode cX5_merges 148 = .ok (.istore_n 3, 1) := by decide +kernel
theorem dX5_merges_149 : decode cX5_merges 149 = .ok (.iload_n 3, 1) := by decide +kernel
theorem dX5_merges_150 : decode cX5_merges 150 = .ok (.iconst 4, 1) := by decide +kernel
theorem dX5_merges_151 : decode cX5_merges 151 = .ok (.if_icmp .ge 23, 3) := by decide +kernel
theorem dX5_merges_154 : decode cX5_merges 154 = .ok (.aload_n 0, 1) := by decide +kernel
theorem dX5_merges_155 : decode cX5_merges 155 = .ok (.iload_n 1, 1) := by decide +kernel
theorem dX5_merges_156 : decode cX5_merges 156 = .ok (.iload_n 3, 1) := by decide +kernel
theorem dX5_merges_157 : decode cX5_merges 157 = .ok (.invokestatic 72, 3) := by decide +kernel
theorem dX5_merges_160 : decode cX5_merges 160 = .ok (.iload_n 2, 1) := by decide +kernel
theorem dX5_merges_161 : decode cX5_merges 161 = .ok (.iload_n 3, 1) := by decide +kernel
theorem dX5_merges_162 : decode cX5_merges 162 = .ok (.invokestatic 72, 3) := by decide +kernel
theorem dX5_merges_165 : decode cX5_merges 165 = .ok (.invokevirtual 97, 3) := by decide +kernel
theorem dX5_merges_168 : decode cX5_merges 168 = .ok (.iinc 3 1, 3) := by decide +kernel
theorem dX5_merges_171 : decode cX5_merges 171 = .ok (.goto (-22), 3) := by decide +kernel
theorem dX5_merges_174 : decode cX5_merges 174 = .ok (.return_, 1) := by decide +kernel
theorem dX5_copies_0 : decode cX5_copies 0 = .ok (.iconst 0, 1) := by decide +kernel
theorem dX5_copies_1 : decode cX5_copies 1 = .ok (.istore_n 3, 1) := by decide +kernel
theorem dX5_copies_2 : decode cX5_copies 2 = .ok (.iload_n 3, 1) := by decide +kernel
theorem dX5_copies_3 : decode cX5_copies 3 = .ok (.sipush 132, 3) := by decide +kernel
theorem dX5_copies_6 : decode cX5_copies 6 = .ok (.if_icmp .ge 31, 3) := by decide +kernel
theorem dX5_copies_9 : decode cX5_copies 9 = .ok (.aload_n 0, 1) := by decide +kernel
theorem dX5_copies_10 : decode cX5_copies 10 = .ok (.getfield 13, 3) := by decide +kernel
theorem dX5_copies_13 : decode cX5_copies 13 = .ok (.iload_n 1, 1) := by decide +kernel
theorem dX5_copies_14 : decode cX5_copies 14 = .ok (.invokestatic 64, 3) := by decide +kernel
theorem dX5_copies_17 : decode cX5_copies 17 = .ok (.iload_n 3, 1) := by decide +kernel
theorem dX5_copies_18 : decode cX5_copies 18 = .ok (.iadd, 1) := by decide +kernel
theorem dX5_copies_19 : decode cX5_copies 19 = .ok (.aload_n 0, 1) := by decide +kernel
theorem dX5_copies_20 : decode cX5_copies 20 = .ok (.getfield 13, 3) := by decide +kernel
theorem dX5_copies_23 : decode cX5_copies 23 = .ok (.iload_n 2, 1) := by decide +kernel
theorem dX5_copies_24 : decode cX5_copies 24 = .ok (.invokestatic 64, 3) := by decide +kernel
theorem dX5_copies_27 : decode cX5_copies 27 = .ok (.iload_n 3, 1) := by decide +kernel
theorem dX5_copies_28 : decode cX5_copies 28 = .ok (.iadd, 1) := by decide +kernel
theorem dX5_copies_29 : decode cX5_copies 29 = .ok (.iaload, 1) := by decide +kernel
theorem dX5_copies_30 : decode cX5_copies 30 = .ok (.iastore, 1) := by decide +kernel
theorem dX5_copies_31 : decode cX5_copies 31 = .ok (.iinc 3 1, 3) := by decide +kernel
theorem dX5_copies_34 : decode cX5_copies 34 = .ok (.goto (-32), 3) := by decide +kernel
theorem dX5_copies_37 : decode cX5_copies 37 = .ok (.return_, 1) := by decide +kernel
theorem dX5_areAlike_0 : decode cX5_areAlike 0 = .ok (.iconst 0, 1) := by decide +kernel
theorem dX5_areAlike_1 : decode cX5_areAlike 1 = .ok (.istore_n 3, 1) := by decide +kernel
theorem dX5_areAlike_2 : decode cX5_areAlike 2 = .ok (.iload_n 3, 1) := by decide +kernel
theorem dX5_areAlike_3 : decode cX5_areAlike 3 = .ok (.sipush 132, 3) := by decide +kernel
theorem dX5_areAlike_6 : decode cX5_areAlike 6 = .ok (.if_icmp .ge 36, 3) := by decide +kernel
theorem dX5_areAlike_9 : decode cX5_areAlike 9 = .ok (.aload_n 0, 1) := by decide +kernel
theorem dX5_areAlike_10 : decode cX5_areAlike 10 = .ok (.getfield 13, 3) := by decide +kernel
theorem dX5_areAlike_13 : decode cX5_areAlike 13 = .ok (.iload_n 1, 1) := by decide +kernel
theorem dX5_areAlike_14 : decode cX5_areAlike 14 = .ok (.invokestatic 64, 3) := by decide +kernel
theorem dX5_areAlike_17 : decode cX5_areAlike 17 = .ok (.iload_n 3, 1) := by decide +kernel
theorem dX5_areAlike_18 : decode cX5_areAlike 18 = .ok (.iadd, 1) := by decide +kernel
theorem dX5_areAlike_19 : decode cX5_areAlike 19 = .ok (.iaload, 1) := by decide +kernel
theorem dX5_areAlike_20 : decode cX5_areAlike 20 = .ok (.aload_n 0, 1) := by decide +kernel
theorem dX5_areAlike_21 : decode cX5_areAlike 21 = .ok (.getfield 13, 3) := by decide +kernel
theorem dX5_areAlike_24 : decode cX5_areAlike 24 = .ok (.iload_n 2, 1) := by decide +kernel
theorem dX5_areAlike_25 : decode cX5_areAlike 25 = .ok (.invokestatic 64, 3) := by decide +kernel
theorem dX5_areAlike_28 : decode cX5_areAlike 28 = .ok (.iload_n 3, 1) := by decide +kernel
theorem dX5_areAlike_29 : decode cX5_areAlike 29 = .ok (.iadd, 1) := by decide +kernel
theorem dX5_areAlike_30 : decode cX5_areAlike 30 = .ok (.iaload, 1) := by decide +kernel
theorem dX5_areAlike_31 : decode cX5_areAlike 31 = .ok (.if_icmp .eq 5, 3) := by decide +kernel
theorem dX5_areAlike_34 : decode cX5_areAlike 34 = .ok (.iconst 0, 1) := by decide +kernel
theorem dX5_areAlike_35 : decode cX5_areAlike 35 = .ok (.ireturn, 1) := by decide +kernel
theorem dX5_areAlike_36 : decode cX5_areAlike 36 = .ok (.iinc 3 1, 3) := by decide +kernel
theorem dX5_areAlike_39 : decode cX5_areAlike 39 = .ok (.goto (-37), 3) := by decide +kernel
theorem dX5_areAlike_42 : decode cX5_areAlike 42 = .ok (.iconst 1, 1) := by decide +kernel
theorem dX5_areAlike_43 : decode cX5_areAlike 43 = .ok (.ireturn, 1) := by decide +kernel
theorem dX5_isCovered_0 : decode cX5_isCovered 0 = .ok (.aload_n 0, 1) := by decide +kernel
theorem dX5_isCovered_1 : decode cX5_isCovered 1 = .ok (.bipush 10, 2) := by decide +kernel
theorem dX5_isCovered_3 : decode cX5_isCovered 3 = .ok (.iload_n 2, 1) := by decide +kernel
theorem dX5_isCovered_4 : decode cX5_isCovered 4 = .ok (.invokevirtual 104, 3) := by decide +kernel
theorem dX5_isCovered_7 : decode cX5_isCovered 7 = .ok (.aload_n 0, 1) := by decide +kernel
theorem dX5_isCovered_8 : decode cX5_isCovered 8 = .ok (.bipush 10, 2) := by decide +kernel
theorem dX5_isCovered_10 : decode cX5_isCovered 10 = .ok (.iload_n 1, 1) := by decide +kernel
theorem dX5_isCovered_11 : decode cX5_isCovered 11 = .ok (.invokevirtual 51, 3) := by decide +kernel
theorem dX5_isCovered_14 : decode cX5_isCovered 14 = .ok (.aload_n 0, 1) := by decide +kernel
theorem dX5_isCovered_15 : decode cX5_isCovered 15 = .ok (.bipush 10, 2) := by decide +kernel
theorem dX5_isCovered_17 : decode cX5_isCovered 17 = .ok (.iload_n 2, 1) := by decide +kernel
theorem dX5_isCovered_18 : decode cX5_isCovered 18 = .ok (.invokevirtual 107, 3) := by decide +kernel
theorem dX5_isCovered_21 : decode cX5_isCovered 21 = .ok (.ireturn, 1) := by decide +kernel
theorem dX5_mergesUp_0 : decode cX5_mergesUp 0 = .ok (.aload_n 0, 1) := by decide +kernel
theorem dX5_mergesUp_1 : decode cX5_mergesUp 1 = .ok (.bipush 10, 2) := by decide +kernel
theorem dX5_mergesUp_3 : decode cX5_mergesUp 3 = .ok (.iconst 0, 1) := by decide +kernel
theorem dX5_mergesUp_4 : decode cX5_mergesUp 4 = .ok (.invokevirtual 104, 3) := by decide +kernel
theorem dX5_mergesUp_7 : decode cX5_mergesUp 7 = .ok (.iconst 1, 1) := by decide +kernel
theorem dX5_mergesUp_8 : decode cX5_mergesUp 8 = .ok (.istore_n 1, 1) := by decide +kernel
theorem dX5_mergesUp_9 : decode cX5_mergesUp 9 = .ok (.iload_n 1, 1) := by decide +kernel
theorem dX5_mergesUp_10 : decode cX5_mergesUp 10 = .ok (.aload_n 0, 1) := by decide +kernel
theorem dX5_mergesUp_11 : decode cX5_mergesUp 11 = .ok (.getfield 13, 3) := by decide +kernel
theorem dX5_mergesUp_14 : decode cX5_mergesUp 14 = .ok (.iconst 0, 1) := by decide +kernel
theorem dX5_mergesUp_15 : decode cX5_mergesUp 15 = .ok (.iaload, 1) := by decide +kernel
theorem dX5_mergesUp_16 : decode cX5_mergesUp 16 = .ok (.if_icmp .ge 16, 3) := by decide +kernel
theorem dX5_mergesUp_19 : decode cX5_mergesUp 19 = .ok (.aload_n 0, 1) := by decide +kernel
theorem dX5_mergesUp_20 : decode cX5_mergesUp 20 = .ok (.bipush 10, 2) := by decide +kernel
theorem dX5_mergesUp_22 : decode cX5_mergesUp 22 = .ok (.iload_n 1, 1) := by decide +kernel
theorem dX5_mergesUp_23 : decode cX5_mergesUp 23 = .ok (.invokevirtual 51, 3) := by decide +kernel
theorem dX5_mergesUp_26 : decode cX5_mergesUp 26 = .ok (.iinc 1 1, 3) := by decide +kernel
theorem dX5_mergesUp_29 : decode cX5_mergesUp 29 = .ok (.goto (-20), 3) := by decide +kernel
theorem dX5_mergesUp_32 : decode cX5_mergesUp 32 = .ok (.return_, 1) := by decide +kernel
theorem dX5_mergesDown_0 : decode cX5_mergesDown 0 = .ok (.aload_n 0, 1) := by decide +kernel
theorem dX5_mergesDown_1 : decode cX5_mergesDown 1 = .ok (.bipush 11, 2) := by decide +kernel
theorem dX5_mergesDown_3 : decode cX5_mergesDown 3 = .ok (.aload_n 0, 1) := by decide +kernel
theorem dX5_mergesDown_4 : decode cX5_mergesDown 4 = .ok (.getfield 13, 3) := by decide +kernel
theorem dX5_mergesDown_7 : decode cX5_mergesDown 7 = .ok (.iconst 0, 1) := by decide +kernel
theorem dX5_mergesDown_8 : decode cX5_mergesDown 8 = .ok (.iaload, 1) := by decide +kernel
theorem dX5_mergesDown_9 : decode cX5_mergesDown 9 = .ok (.iconst 1, 1) := by decide +kernel
theorem dX5_mergesDown_10 : decode cX5_mergesDown 10 = .ok (.isub, 1) := by decide +kernel
theorem dX5_mergesDown_11 : decode cX5_mergesDown 11 = .ok (.invokevirtual 104, 3) := by decide +kernel
theorem dX5_mergesDown_14 : decode cX5_mergesDown 14 = .ok (.aload_n 0, 1) := by decide +kernel
theorem dX5_mergesDown_15 : decode cX5_mergesDown 15 = .ok (.getfield 13, 3) := by decide +kernel
theorem dX5_mergesDown_18 : decode cX5_mergesDown 18 = .ok (.iconst 0, 1) := by decide +kernel
theorem dX5_mergesDown_19 : decode cX5_mergesDown 19 = .ok (.iaload, 1) := by decide +kernel
theorem dX5_mergesDown_20 : decode cX5_mergesDown 20 = .ok (.iconst 2, 1) := by decide +kernel
theorem dX5_mergesDown_21 : decode cX5_mergesDown 21 = .ok (.isub, 1) := by decide +kernel
theorem dX5_mergesDown_22 : decode cX5_mergesDown 22 = .ok (.istore_n 1, 1) := by decide +kernel
theorem dX5_mergesDown_23 : decode cX5_mergesDown 23 = .ok (.iload_n 1, 1) := by decide +kernel
theorem dX5_mergesDown_24 : decode cX5_mergesDown 24 = .ok (.ifCond .lt 16, 3) := by decide +kernel
theorem dX5_mergesDown_27 : decode cX5_mergesDown 27 = .ok (.aload_n 0, 1) := by decide +kernel
theorem dX5_mergesDown_28 : decode cX5_mergesDown 28 = .ok (.bipush 11, 2) := by decide +kernel
theorem dX5_mergesDown_30 : decode cX5_mergesDown 30 = .ok (.iload_n 1, 1) := by decide +kernel
theorem dX5_mergesDown_31 : decode cX5_mergesDown 31 = .ok (.invokevirtual 51, 3) := by decide +kernel
theorem dX5_mergesDown_34 : decode cX5_mergesDown 34 = .ok (.iinc 1 (-1), 3) := by decide +kernel
theorem dX5_mergesDown_37 : decode cX5_mergesDown 37 = .ok (.goto (-14), 3) := by decide +kernel
theorem dX5_mergesDown_40 : decode cX5_mergesDown 40 = .ok (.return_, 1) := by decide +kernel
theorem dX5_sends_0 : decode cX5_sends 0 = .ok (.aload_n 0, 1) := by decide +kernel
theorem dX5_sends_1 : decode cX5_sends 1 = .ok (.getfield 13, 3) := by decide +kernel
theorem dX5_sends_4 : decode cX5_sends 4 = .ok (.iconst 4, 1) := by decide +kernel
theorem dX5_sends_5 : decode cX5_sends 5 = .ok (.aload_n 0, 1) := by decide +kernel
theorem dX5_sends_6 : decode cX5_sends 6 = .ok (.getfield 13, 3) := by decide +kernel
theorem dX5_sends_9 : decode cX5_sends 9 = .ok (.iconst 3, 1) := by decide +kernel
theorem dX5_sends_10 : decode cX5_sends 10 = .ok (.iaload, 1) := by decide +kernel
theorem dX5_sends_11 : decode cX5_sends 11 = .ok (.iadd, 1) := by decide +kernel
theorem dX5_sends_12 : decode cX5_sends 12 = .ok (.iload_n 1, 1) := by decide +kernel
theorem dX5_sends_13 : decode cX5_sends 13 = .ok (.iastore, 1) := by decide +kernel
theorem dX5_sends_14 : decode cX5_sends 14 = .ok (.aload_n 0, 1) := by decide +kernel
theorem dX5_sends_15 : decode cX5_sends 15 = .ok (.iconst 4, 1) := by decide +kernel
theorem dX5_sends_16 : decode cX5_sends 16 = .ok (.aload_n 0, 1) := by decide +kernel
theorem dX5_sends_17 : decode cX5_sends 17 = .ok (.getfield 13, 3) := by decide +kernel
theorem dX5_sends_20 : decode cX5_sends 20 = .ok (.iconst 3, 1) := by decide +kernel
theorem dX5_sends_21 : decode cX5_sends 21 = .ok (.iaload, 1) := by decide +kernel
theorem dX5_sends_22 : decode cX5_sends 22 = .ok (.iadd, 1) := by decide +kernel
theorem dX5_sends_23 : decode cX5_sends 23 = .ok (.iload_n 1, 1) := by decide +kernel
theorem dX5_sends_24 : decode cX5_sends 24 = .ok (.invokevirtual 104, 3) := by decide +kernel
theorem dX5_sends_27 : decode cX5_sends 27 = .ok (.aload_n 0, 1) := by decide +kernel
theorem dX5_sends_28 : decode cX5_sends 28 = .ok (.getfield 13, 3) := by decide +kernel
theorem dX5_sends_31 : decode cX5_sends 31 = .ok (.iconst 3, 1) := by decide +kernel
theorem dX5_sends_32 : decode cX5_sends 32 = .ok (.dup2, 1) := by decide +kernel
theorem dX5_sends_33 : decode cX5_sends 33 = .ok (.iaload, 1) := by decide +kernel
theorem dX5_sends_34 : decode cX5_sends 34 = .ok (.iconst 1, 1) := by decide +kernel
theorem dX5_sends_35 : decode cX5_sends 35 = .ok (.iadd, 1) := by decide +kernel
theorem dX5_sends_36 : decode cX5_sends 36 = .ok (.iastore, 1) := by decide +kernel
theorem dX5_sends_37 : decode cX5_sends 37 = .ok (.return_, 1) := by decide +kernel
theorem dX5_mergesNow_0 : decode cX5_mergesNow 0 = .ok (.aload_n 0, 1) := by decide +kernel
theorem dX5_mergesNow_1 : decode cX5_mergesNow 1 = .ok (.iload_n 2, 1) := by decide +kernel
theorem dX5_mergesNow_2 : decode cX5_mergesNow 2 = .ok (.iload_n 1, 1) := by decide +kernel
theorem dX5_mergesNow_3 : decode cX5_mergesNow 3 = .ok (.invokevirtual 111, 3) := by decide +kernel
theorem dX5_mergesNow_6 : decode cX5_mergesNow 6 = .ok (.ifCond .ne 7, 3) := by decide +kernel
theorem dX5_mergesNow_9 : decode cX5_mergesNow 9 = .ok (.iconst 1, 1) := by decide +kernel
theorem dX5_mergesNow_10 : decode cX5_mergesNow 10 = .ok (.goto 4, 3) := by decide +kernel
theorem dX5_mergesNow_13 : decode cX5_mergesNow 13 = .ok (.iconst 0, 1) := by decide +kernel
theorem dX5_mergesNow_14 : decode cX5_mergesNow 14 = .ok (.istore_n 3, 1) := by decide +kernel
theorem dX5_mergesNow_15 : decode cX5_mergesNow 15 = .ok (.aload_n 0, 1) := by decide +kernel
theorem dX5_mergesNow_16 : decode cX5_mergesNow 16 = .ok (.iload_n 1, 1) := by decide +kernel
theorem dX5_mergesNow_17 : decode cX5_mergesNow 17 = .ok (.iload_n 2, 1) := by decide +kernel
theorem dX5_mergesNow_18 : decode cX5_mergesNow 18 = .ok (.invokevirtual 51, 3) := by decide +kernel
theorem dX5_mergesNow_21 : decode cX5_mergesNow 21 = .ok (.iload_n 3, 1) := by decide +kernel
theorem dX5_mergesNow_22 : decode cX5_mergesNow 22 = .ok (.ireturn, 1) := by decide +kernel
theorem dX5_remembers_0 : decode cX5_remembers 0 = .ok (.aload_n 0, 1) := by decide +kernel
theorem dX5_remembers_1 : decode cX5_remembers 1 = .ok (.getfield 114, 3) := by decide +kernel
theorem dX5_remembers_4 : decode cX5_remembers 4 = .ok (.bipush 10, 2) := by decide +kernel
theorem dX5_remembers_6 : decode cX5_remembers 6 = .ok (.if_icmp .ne 46, 3) := by decide +kernel
theorem dX5_remembers_9 : decode cX5_remembers 9 = .ok (.sipush 1330, 3) := by decide +kernel
theorem dX5_remembers_12 : decode cX5_remembers 12 = .ok (.istore_n 1, 1) := by decide +kernel
theorem dX5_remembers_13 : decode cX5_remembers 13 = .ok (.iload_n 1, 1) := by decide +kernel
theorem dX5_remembers_14 : decode cX5_remembers 14 = .ok (.sipush 13300, 3) := by decide +kernel
theorem dX5_remembers_17 : decode cX5_remembers 17 = .ok (.if_icmp .ge 25, 3) := by decide +kernel
theorem dX5_remembers_20 : decode cX5_remembers 20 = .ok (.aload_n 0, 1) := by decide +kernel
theorem dX5_remembers_21 : decode cX5_remembers 21 = .ok (.getfield 19, 3) := by decide +kernel
theorem dX5_remembers_24 : decode cX5_remembers 24 = .ok (.iload_n 1, 1) := by decide +kernel
theorem dX5_remembers_25 : decode cX5_remembers 25 = .ok (.sipush 1330, 3) := by decide +kernel
theorem dX5_remembers_28 : decode cX5_remembers 28 = .ok (.isub, 1) := by decide +kernel
theorem dX5_remembers_29 : decode cX5_remembers 29 = .ok (.aload_n 0, 1) := by decide +kernel
theorem dX5_remembers_30 : decode cX5_remembers 30 = .ok (.getfield 19, 3) := by decide +kernel
theorem dX5_remembers_33 : decode cX5_remembers 33 = .ok (.iload_n 1, 1) := by decide +kernel
theorem dX5_remembers_34 : decode cX5_remembers 34 = .ok (.iaload, 1) := by decide +kernel
theorem dX5_remembers_35 : decode cX5_remembers 35 = .ok (.iastore, 1) := by decide +kernel
theorem dX5_remembers_36 : decode cX5_remembers 36 = .ok (.iinc 1 1, 3) := by decide +kernel
theorem dX5_remembers_39 : decode cX5_remembers 39 = .ok (.goto (-26), 3) := by decide +kernel
theorem dX5_remembers_42 : decode cX5_remembers 42 = .ok (.aload_n 0, 1) := by decide +kernel
theorem dX5_remembers_43 : decode cX5_remembers 43 = .ok (.dup, 1) := by decide +kernel
theorem dX5_remembers_44 : decode cX5_remembers 44 = .ok (.getfield 114, 3) := by decide +kernel
theorem dX5_remembers_47 : decode cX5_remembers 47 = .ok (.iconst 1, 1) := by decide +kernel
theorem dX5_remembers_48 : decode cX5_remembers 48 = .ok (.isub, 1) := by decide +kernel
theorem dX5_remembers_49 : decode cX5_remembers 49 = .ok (.putfield 114, 3) := by decide +kernel
theorem dX5_remembers_52 : decode cX5_remembers 52 = .ok (.iconst 0, 1) := by decide +kernel
theorem dX5_remembers_53 : decode cX5_remembers 53 = .ok (.istore_n 1, 1) := by decide +kernel
theorem dX5_remembers_54 : decode cX5_remembers 54 = .ok (.iload_n 1, 1) := by decide +kernel
theorem dX5_remembers_55 : decode cX5_remembers 55 = .ok (.sipush 1330, 3) := by decide +kernel
theorem dX5_remembers_58 : decode cX5_remembers 58 = .ok (.if_icmp .ge 30, 3) := by decide +kernel
theorem dX5_remembers_61 : decode cX5_remembers 61 = .ok (.aload_n 0, 1) := by decide +kernel
theorem dX5_remembers_62 : decode cX5_remembers 62 = .ok (.getfield 19, 3) := by decide +kernel
theorem dX5_remembers_65 : decode cX5_remembers 65 = .ok (.aload_n 0, 1) := by decide +kernel
theorem dX5_remembers_66 : decode cX5_remembers 66 = .ok (.getfield 114, 3) := by decide +kernel
theorem dX5_remembers_69 : decode cX5_remembers 69 = .ok (.sipush 1330, 3) := by decide +kernel
theorem dX5_remembers_72 : decode cX5_remembers 72 = .ok (.imul, 1) := by decide +kernel
theorem dX5_remembers_73 : decode cX5_remembers 73 = .ok (.iload_n 1, 1) := by decide +kernel
theorem dX5_remembers_74 : decode cX5_remembers 74 = .ok (.iadd, 1) := by decide +kernel
theorem dX5_remembers_75 : decode cX5_remembers 75 = .ok (.aload_n 0, 1) := by decide +kernel
theorem dX5_remembers_76 : decode cX5_remembers 76 = .ok (.getfield 13, 3) := by decide +kernel
theorem dX5_remembers_79 : decode cX5_remembers 79 = .ok (.iload_n 1, 1) := by decide +kernel
theorem dX5_remembers_80 : decode cX5_remembers 80 = .ok (.iaload, 1) := by decide +kernel
theorem dX5_remembers_81 : decode cX5_remembers 81 = .ok (.iastore, 1) := by decide +kernel
theorem dX5_remembers_82 : decode cX5_remembers 82 = .ok (.iinc 1 1, 3) := by decide +kernel
theorem dX5_remembers_85 : decode cX5_remembers 85 = .ok (.goto (-31), 3) := by decide +kernel
theorem dX5_remembers_88 : decode cX5_remembers 88 = .ok (.aload_n 0, 1) := by decide +kernel
theorem dX5_remembers_89 : decode cX5_remembers 89 = .ok (.dup, 1) := by decide +kernel
theorem dX5_remembers_90 : decode cX5_remembers 90 = .ok (.getfield 114, 3) := by decide +kernel
theorem dX5_remembers_93 : decode cX5_remembers 93 = .ok (.iconst 1, 1) := by decide +kernel
theorem dX5_remembers_94 : decode cX5_remembers 94 = .ok (.iadd, 1) := by decide +kernel
theorem dX5_remembers_95 : decode cX5_remembers 95 = .ok (.putfield 114, 3) := by decide +kernel
theorem dX5_remembers_98 : decode cX5_remembers 98 = .ok (.return_, 1) := by decide +kernel
theorem dX5_isLetter_0 : decode cX5_isLetter 0 = .ok (.iload_n 0, 1) := by decide +kernel
theorem dX5_isLetter_1 : decode cX5_isLetter 1 = .ok (.bipush 97, 2) := by decide +kernel
theorem dX5_isLetter_3 : decode cX5_isLetter 3 = .ok (.if_icmp .lt 13, 3) := by decide +kernel
theorem dX5_isLetter_6 : decode cX5_isLetter 6 = .ok (.iload_n 0, 1) := by decide +kernel
theorem dX5_isLetter_7 : decode cX5_isLetter 7 = .ok (.bipush 122, 2) := by decide +kernel
theorem dX5_isLetter_9 : decode cX5_isLetter 9 = .ok (.if_icmp .gt 7, 3) := by decide +kernel
theorem dX5_isLetter_12 : decode cX5_isLetter 12 = .ok (.iconst 1, 1) := by decide +kernel
theorem dX5_isLetter_13 : decode cX5_isLetter 13 = .ok (.goto 4, 3) := by decide +kernel
theorem dX5_isLetter_16 : decode cX5_isLetter 16 = .ok (.iconst 0, 1) := by decide +kernel
theorem dX5_isLetter_17 : decode cX5_isLetter 17 = .ok (.ireturn, 1) := by decide +kernel
theorem dX5_isDigit_0 : decode cX5_isDigit 0 = .ok (.iload_n 0, 1) := by decide +kernel
theorem dX5_isDigit_1 : decode cX5_isDigit 1 = .ok (.bipush 48, 2) := by decide +kernel
theorem dX5_isDigit_3 : decode cX5_isDigit 3 = .ok (.if_icmp .lt 13, 3) := by decide +kernel
theorem dX5_isDigit_6 : decode cX5_isDigit 6 = .ok (.iload_n 0, 1) := by decide +kernel
theorem dX5_isDigit_7 : decode cX5_isDigit 7 = .ok (.bipush 57, 2) := by decide +kernel
theorem dX5_isDigit_9 : decode cX5_isDigit 9 = .ok (.if_icmp .gt 7, 3) := by decide +kernel
theorem dX5_isDigit_12 : decode cX5_isDigit 12 = .ok (.iconst 1, 1) := by decide +kernel
theorem dX5_isDigit_13 : decode cX5_isDigit 13 = .ok (.goto 4, 3) := by decide +kernel
theorem dX5_isDigit_16 : decode cX5_isDigit 16 = .ok (.iconst 0, 1) := by decide +kernel
theorem dX5_isDigit_17 : decode cX5_isDigit 17 = .ok (.ireturn, 1) := by decide +kernel
theorem dX5_next_0 : decode cX5_next 0 = .ok (.aload_n 0, 1) := by decide +kernel
theorem dX5_next_1 : decode cX5_next 1 = .ok (.getfield 117, 3) := by decide +kernel
theorem dX5_next_4 : decode cX5_next 4 = .ok (.iconst 1, 1) := by decide +kernel
theorem dX5_next_5 : decode cX5_next 5 = .ok (.if_icmp .eq 11, 3) := by decide +kernel
theorem dX5_next_8 : decode cX5_next 8 = .ok (.aload_n 0, 1) := by decide +kernel
theorem dX5_next_9 : decode cX5_next 9 = .ok (.getfield 117, 3) := by decide +kernel
theorem dX5_next_12 : decode cX5_next 12 = .ok (.iconst 2, 1) := by decide +kernel
theorem dX5_next_13 : decode cX5_next 13 = .ok (.if_icmp .ne 7, 3) := by decide +kernel
theorem dX5_next_16 : decode cX5_next 16 = .ok (.iconst 1, 1) := by decide +kernel
theorem dX5_next_17 : decode cX5_next 17 = .ok (.goto 4, 3) := by decide +kernel
theorem dX5_next_20 : decode cX5_next 20 = .ok (.iconst 0, 1) := by decide +kernel
theorem dX5_next_21 : decode cX5_next 21 = .ok (.istore_n 1, 1) := by decide +kernel
theorem dX5_next_22 : decode cX5_next 22 = .ok (.aload_n 0, 1) := by decide +kernel
theorem dX5_next_23 : decode cX5_next 23 = .ok (.aload_n 0, 1) := by decide +kernel
theorem dX5_next_24 : decode cX5_next 24 = .ok (.getfield 120, 3) := by decide +kernel
theorem dX5_next_27 : decode cX5_next 27 = .ok (.putfield 123, 3) := by decide +kernel
theorem dX5_next_30 : decode cX5_next 30 = .ok (.aload_n 0, 1) := by decide +kernel
theorem dX5_next_31 : decode cX5_next 31 = .ok (.getfield 123, 3) := by decide +kernel
theorem dX5_next_34 : decode cX5_next 34 = .ok (.aload_n 0, 1) := by decide +kernel
theorem dX5_next_35 : decode cX5_next 35 = .ok (.getfield 126, 3) := by decide +kernel
theorem dX5_next_38 : decode cX5_next 38 = .ok (.if_icmp .ge 44, 3) := by decide +kernel
theorem dX5_next_41 : decode cX5_next 41 = .ok (.aload_n 0, 1) := by decide +kernel
theorem dX5_next_42 : decode cX5_next 42 = .ok (.getfield 25, 3) := by decide +kernel
theorem dX5_next_45 : decode cX5_next 45 = .ok (.aload_n 0, 1) := by decide +kernel
theorem dX5_next_46 : decode cX5_next 46 = .ok (.getfield 123, 3) := by decide +kernel
theorem dX5_next_49 : decode cX5_next 49 = .ok (.baload, 1) := by decide +kernel
theorem dX5_next_50 : decode cX5_next 50 = .ok (.bipush 32, 2) := by decide +kernel
theorem dX5_next_52 : decode cX5_next 52 = .ok (.if_icmp .eq 17, 3) := by decide +kernel
theorem dX5_next_55 : decode cX5_next 55 = .ok (.aload_n 0, 1) := by decide +kernel
theorem dX5_next_56 : decode cX5_next 56 = .ok (.getfield 25, 3) := by decide +kernel
theorem dX5_next_59 : decode cX5_next 59 = .ok (.aload_n 0, 1) := by decide +kernel
theorem dX5_next_60 : decode cX5_next 60 = .ok (.getfield 123, 3) := by decide +kernel
theorem dX5_next_63 : decode cX5_next 63 = .ok (.baload, 1) := by decide +kernel
theorem dX5_next_64 : decode cX5_next 64 = .ok (.bipush 10, 2) := by decide +kernel
theorem dX5_next_66 : decode cX5_next 66 = .ok (.if_icmp .ne 16, 3) := by decide +kernel
theorem dX5_next_69 : decode cX5_next 69 = .ok (.aload_n 0, 1) := by decide +kernel
theorem dX5_next_70 : decode cX5_next 70 = .ok (.dup, 1) := by decide +kernel
theorem dX5_next_71 : decode cX5_next 71 = .ok (.getfield 123, 3) := by decide +kernel
theorem dX5_next_74 : decode cX5_next 74 = .ok (.iconst 1, 1) := by decide +kernel
theorem dX5_next_75 : decode cX5_next 75 = .ok (.iadd, 1) := by decide +kernel
theorem dX5_next_76 : decode cX5_next 76 = .ok (.putfield 123, 3) := by decide +kernel
theorem dX5_next_79 : decode cX5_next 79 = .ok (.goto (-49), 3) := by decide +kernel
theorem dX5_next_82 : decode cX5_next 82 = .ok (.iload_n 1, 1) := by decide +kernel
theorem dX5_next_83 : decode cX5_next 83 = .ok (.ifCond .eq 18, 3) := by decide +kernel
theorem dX5_next_86 : decode cX5_next 86 = .ok (.aload_n 0, 1) := by decide +kernel
theorem dX5_next_87 : decode cX5_next 87 = .ok (.getfield 123, 3) := by decide +kernel
theorem dX5_next_90 : decode cX5_next 90 = .ok (.aload_n 0, 1) := by decide +kernel
theorem dX5_next_91 : decode cX5_next 91 = .ok (.getfield 120, 3) := by decide +kernel
theorem dX5_next_94 : decode cX5_next 94 = .ok (.if_icmp .ne 7, 3) := by decide +kernel
theorem dX5_next_97 : decode cX5_next 97 = .ok (.iconst 1, 1) := by decide +kernel
theorem dX5_next_98 : decode cX5_next 98 = .ok (.goto 4, 3) := by decide +kernel
theorem dX5_next_101 : decode cX5_next 101 = .ok (.iconst 0, 1) := by decide +kernel
theorem dX5_next_102 : decode cX5_next 102 = .ok (.istore_n 2, 1) := by decide +kernel
theorem dX5_next_103 : decode cX5_next 103 = .ok (.aload_n 0, 1) := by decide +kernel
theorem dX5_next_104 : decode cX5_next 104 = .ok (.aload_n 0, 1) := by decide +kernel
theorem dX5_next_105 : decode cX5_next 105 = .ok (.getfield 123, 3) := by decide +kernel
theorem dX5_next_108 : decode cX5_next 108 = .ok (.putfield 120, 3) := by decide +kernel
theorem dX5_next_111 : decode cX5_next 111 = .ok (.aload_n 0, 1) := by decide +kernel
theorem dX5_next_112 : decode cX5_next 112 = .ok (.getfield 123, 3) := by decide +kernel
theorem dX5_next_115 : decode cX5_next 115 = .ok (.aload_n 0, 1) := by decide +kernel
theorem dX5_next_116 : decode cX5_next 116 = .ok (.getfield 126, 3) := by decide +kernel
theorem dX5_next_119 : decode cX5_next 119 = .ok (.if_icmp .ne 11, 3) := by decide +kernel
theorem dX5_next_122 : decode cX5_next 122 = .ok (.aload_n 0, 1) := by decide +kernel
theorem dX5_next_123 : decode cX5_next 123 = .ok (.iconst 0, 1) := by decide +kernel
theorem dX5_next_124 : decode cX5_next 124 = .ok (.putfield 117, 3) := by decide +kernel
theorem dX5_next_127 : decode cX5_next 127 = .ok (.goto 231, 3) := by decide +kernel
theorem dX5_next_130 : decode cX5_next 130 = .ok (.aload_n 0, 1) := by decide +kernel
theorem dX5_next_131 : decode cX5_next 131 = .ok (.getfield 25, 3) := by decide +kernel
theorem dX5_next_134 : decode cX5_next 134 = .ok (.aload_n 0, 1) := by decide +kernel
theorem dX5_next_135 : decode cX5_next 135 = .ok (.getfield 123, 3) := by decide +kernel
theorem dX5_next_138 : decode cX5_next 138 = .ok (.baload, 1) := by decide +kernel
theorem dX5_next_139 : decode cX5_next 139 = .ok (.invokestatic 129, 3) := by decide +kernel
theorem dX5_next_142 : decode cX5_next 142 = .ok (.ifCond .eq 58, 3) := by decide +kernel
theorem dX5_next_145 : decode cX5_next 145 = .ok (.aload_n 0, 1) := by decide +kernel
theorem dX5_next_146 : decode cX5_next 146 = .ok (.getfield 120, 3) := by decide +kernel
theorem dX5_next_149 : decode cX5_next 149 = .ok (.aload_n 0, 1) := by decide +kernel
theorem dX5_next_150 : decode cX5_next 150 = .ok (.getfield 126, 3) := by decide +kernel
theorem dX5_next_153 : decode cX5_next 153 = .ok (.if_icmp .ge 31, 3) := by decide +kernel
theorem dX5_next_156 : decode cX5_next 156 = .ok (.aload_n 0, 1) := by decide +kernel
theorem dX5_next_157 : decode cX5_next 157 = .ok (.getfield 25, 3) := by decide +kernel
theorem dX5_next_160 : decode cX5_next 160 = .ok (.aload_n 0, 1) := by decide +kernel
theorem dX5_next_161 : decode cX5_next 161 = .ok (.getfield 120, 3) := by decide +kernel
theorem dX5_next_164 : decode cX5_next 164 = .ok (.baload, 1) := by decide +kernel
theorem dX5_next_165 : decode cX5_next 165 = .ok (.invokestatic 129, 3) := by decide +kernel
theorem dX5_next_168 : decode cX5_next 168 = .ok (.ifCond .eq 16, 3) := by decide +kernel
theorem dX5_next_171 : decode cX5_next 171 = .ok (.aload_n 0, 1) := by decide +kernel
theorem dX5_next_172 : decode cX5_next 172 = .ok (.dup, 1) := by decide +kernel
theorem dX5_next_173 : decode cX5_next 173 = .ok (.getfield 120, 3) := by decide +kernel
theorem dX5_next_176 : decode cX5_next 176 = .ok (.iconst 1, 1) := by decide +kernel
theorem dX5_next_177 : decode cX5_next 177 = .ok (.iadd, 1) := by decide +kernel
theorem dX5_next_178 : decode cX5_next 178 = .ok (.putfield 120, 3) := by decide +kernel
theorem dX5_next_181 : decode cX5_next 181 = .ok (.goto (-36), 3) := by decide +kernel
theorem dX5_next_184 : decode cX5_next 184 = .ok (.aload_n 0, 1) := by decide +kernel
theorem dX5_next_185 : decode cX5_next 185 = .ok (.iload_n 2, 1) := by decide +kernel
theorem dX5_next_186 : decode cX5_next 186 = .ok (.ifCond .eq 7, 3) := by decide +kernel
theorem dX5_next_189 : decode cX5_next 189 = .ok (.iconst 4, 1) := by decide +kernel
theorem dX5_next_190 : decode cX5_next 190 = .ok (.goto 4, 3) := by decide +kernel
theorem dX5_next_193 : decode cX5_next 193 = .ok (.iconst 1, 1) := by decide +kernel
theorem dX5_next_194 : decode cX5_next 194 = .ok (.putfield 117, 3) := by decide +kernel
theorem dX5_next_197 : decode cX5_next 197 = .ok (.goto 161, 3) := by decide +kernel
theorem dX5_next_200 : decode cX5_next 200 = .ok (.aload_n 0, 1) := by decide +kernel
theorem dX5_next_201 : decode cX5_next 201 = .ok (.getfield 25, 3) := by decide +kernel
theorem dX5_next_204 : decode cX5_next 204 = .ok (.aload_n 0, 1) := by decide +kernel
theorem dX5_next_205 : decode cX5_next 205 = .ok (.getfield 123, 3) := by decide +kernel
theorem dX5_next_208 : decode cX5_next 208 = .ok (.baload, 1) := by decide +kernel
theorem dX5_next_209 : decode cX5_next 209 = .ok (.invokestatic 133, 3) := by decide +kernel
theorem dX5_next_212 : decode cX5_next 212 = .ok (.ifCond .eq 113, 3) := by decide +kernel
theorem dX5_next_215 : decode cX5_next 215 = .ok (.aload_n 0, 1) := by decide +kernel
theorem dX5_next_216 : decode cX5_next 216 = .ok (.iconst 0, 1) := by decide +kernel
theorem dX5_next_217 : decode cX5_next 217 = .ok (.putfield 136, 3) := by decide +kernel
theorem dX5_next_220 : decode cX5_next 220 = .ok (.aload_n 0, 1) := by decide +kernel
theorem dX5_next_221 : decode cX5_next 221 = .ok (.getfield 120, 3) := by decide +kernel
theorem dX5_next_224 : decode cX5_next 224 = .ok (.aload_n 0, 1) := by decide +kernel
theorem dX5_next_225 : decode cX5_next 225 = .ok (.getfield 126, 3) := by decide +kernel
theorem dX5_next_228 : decode cX5_next 228 = .ok (.if_icmp .ge 68, 3) := by decide +kernel
theorem dX5_next_231 : decode cX5_next 231 = .ok (.aload_n 0, 1) := by decide +kernel
theorem dX5_next_232 : decode cX5_next 232 = .ok (.getfield 25, 3) := by decide +kernel
theorem dX5_next_235 : decode cX5_next 235 = .ok (.aload_n 0, 1) := by decide +kernel
theorem dX5_next_236 : decode cX5_next 236 = .ok (.getfield 120, 3) := by decide +kernel
theorem dX5_next_239 : decode cX5_next 239 = .ok (.baload, 1) := by decide +kernel
theorem dX5_next_240 : decode cX5_next 240 = .ok (.invokestatic 133, 3) := by decide +kernel
theorem dX5_next_243 : decode cX5_next 243 = .ok (.ifCond .eq 53, 3) := by decide +kernel
theorem dX5_next_246 : decode cX5_next 246 = .ok (.aload_n 0, 1) := by decide +kernel
theorem dX5_next_247 : decode cX5_next 247 = .ok (.getfield 120, 3) := by decide +kernel
theorem dX5_next_250 : decode cX5_next 250 = .ok (.aload_n 0, 1) := by decide +kernel
theorem dX5_next_251 : decode cX5_next 251 = .ok (.getfield 123, 3) := by decide +kernel
theorem dX5_next_254 : decode cX5_next 254 = .ok (.isub, 1) := by decide +kernel
theorem dX5_next_255 : decode cX5_next 255 = .ok (.iconst 2, 1) := by decide +kernel
theorem dX5_next_256 : decode cX5_next 256 = .ok (.if_icmp .ge 27, 3) := by decide +kernel
theorem dX5_next_259 : decode cX5_next 259 = .ok (.aload_n 0, 1) := by decide +kernel
theorem dX5_next_260 : decode cX5_next 260 = .ok (.bipush 10, 2) := by decide +kernel
theorem dX5_next_262 : decode cX5_next 262 = .ok (.aload_n 0, 1) := by decide +kernel
theorem dX5_next_263 : decode cX5_next 263 = .ok (.getfield 136, 3) := by decide +kernel
theorem dX5_next_266 : decode cX5_next 266 = .ok (.imul, 1) := by decide +kernel
theorem dX5_next_267 : decode cX5_next 267 = .ok (.aload_n 0, 1) := by decide +kernel
theorem dX5_next_268 : decode cX5_next 268 = .ok (.getfield 25, 3) := by decide +kernel
theorem dX5_next_271 : decode cX5_next 271 = .ok (.aload_n 0, 1) := by decide +kernel
theorem dX5_next_272 : decode cX5_next 272 = .ok (.getfield 120, 3) := by decide +kernel
theorem dX5_next_275 : decode cX5_next 275 = .ok (.baload, 1) := by decide +kernel
theorem dX5_next_276 : decode cX5_next 276 = .ok (.iadd, 1) := by decide +kernel
theorem dX5_next_277 : decode cX5_next 277 = .ok (.bipush 48, 2) := by decide +kernel
theorem dX5_next_279 : decode cX5_next 279 = .ok (.isub, 1) := by decide +kernel
theorem dX5_next_280 : decode cX5_next 280 = .ok (.putfield 136, 3) := by decide +kernel
theorem dX5_next_283 : decode cX5_next 283 = .ok (.aload_n 0, 1) := by decide +kernel
theorem dX5_next_284 : decode cX5_next 284 = .ok (.dup, 1) := by decide +kernel
theorem dX5_next_285 : decode cX5_next 285 = .ok (.getfield 120, 3) := by decide +kernel
theorem dX5_next_288 : decode cX5_next 288 = .ok (.iconst 1, 1) := by decide +kernel
theorem dX5_next_289 : decode cX5_next 289 = .ok (.iadd, 1) := by decide +kernel
theorem dX5_next_290 : decode cX5_next 290 = .ok (.putfield 120, 3) := by decide +kernel
theorem dX5_next_293 : decode cX5_next 293 = .ok (.goto (-73), 3) := by decide +kernel
theorem dX5_next_296 : decode cX5_next 296 = .ok (.aload_n 0, 1) := by decide +kernel
theorem dX5_next_297 : decode cX5_next 297 = .ok (.iload_n 2, 1) := by decide +kernel
theorem dX5_next_298 : decode cX5_next 298 = .ok (.ifCond .ne 16, 3) := by decide +kernel
theorem dX5_next_301 : decode cX5_next 301 = .ok (.aload_n 0, 1) := by decide +kernel
theorem dX5_next_302 : decode cX5_next 302 = .ok (.getfield 120, 3) := by decide +kernel
theorem dX5_next_305 : decode cX5_next 305 = .ok (.aload_n 0, 1) := by decide +kernel
theorem dX5_next_306 : decode cX5_next 306 = .ok (.getfield 123, 3) := by decide +kernel
theorem dX5_next_309 : decode cX5_next 309 = .ok (.isub, 1) := by decide +kernel
theorem dX5_next_310 : decode cX5_next 310 = .ok (.iconst 2, 1) := by decide +kernel
theorem dX5_next_311 : decode cX5_next 311 = .ok (.if_icmp .le 7, 3) := by decide +kernel
theorem dX5_next_314 : decode cX5_next 314 = .ok (.iconst 4, 1) := by decide +kernel
theorem dX5_next_315 : decode cX5_next 315 = .ok (.goto 4, 3) := by decide +kernel
theorem dX5_next_318 : decode cX5_next 318 = .ok (.iconst 2, 1) := by decide +kernel
theorem dX5_next_319 : decode cX5_next 319 = .ok (.putfield 117, 3) := by decide +kernel
theorem dX5_next_322 : decode cX5_next 322 = .ok (.goto 36, 3) := by decide +kernel
theorem dX5_next_325 : decode cX5_next 325 = .ok (.aload_n 0, 1) := by decide +kernel
theorem dX5_next_326 : decode cX5_next 326 = .ok (.aload_n 0, 1) := by decide +kernel
theorem dX5_next_327 : decode cX5_next 327 = .ok (.getfield 123, 3) := by decide +kernel
theorem dX5_next_330 : decode cX5_next 330 = .ok (.iconst 1, 1) := by decide +kernel
theorem dX5_next_331 : decode cX5_next 331 = .ok (.iadd, 1) := by decide +kernel
theorem dX5_next_332 : decode cX5_next 332 = .ok (.putfield 120, 3) := by decide +kernel
theorem dX5_next_335 : decode cX5_next 335 = .ok (.aload_n 0, 1) := by decide +kernel
theorem dX5_next_336 : decode cX5_next 336 = .ok (.aload_n 0, 1) := by decide +kernel
theorem dX5_next_337 : decode cX5_next 337 = .ok (.getfield 25, 3) := by decide +kernel
theorem dX5_next_340 : decode cX5_next 340 = .ok (.aload_n 0, 1) := by decide +kernel
theorem dX5_next_341 : decode cX5_next 341 = .ok (.getfield 123, 3) := by decide +kernel
theorem dX5_next_344 : decode cX5_next 344 = .ok (.baload, 1) := by decide +kernel
theorem dX5_next_345 : decode cX5_next 345 = .ok (.bipush 59, 2) := by decide +kernel
theorem dX5_next_347 : decode cX5_next 347 = .ok (.if_icmp .ne 7, 3) := by decide +kernel
theorem dX5_next_350 : decode cX5_next 350 = .ok (.iconst 3, 1) := by decide +kernel
theorem dX5_next_351 : decode cX5_next 351 = .ok (.goto 4, 3) := by decide +kernel
theorem dX5_next_354 : decode cX5_next 354 = .ok (.iconst 4, 1) := by decide +kernel
theorem dX5_next_355 : decode cX5_next 355 = .ok (.putfield 117, 3) := by decide +kernel
theorem dX5_next_358 : decode cX5_next 358 = .ok (.return_, 1) := by decide +kernel
theorem dX5_errs_0 : decode cX5_errs 0 = .ok (.aload_n 0, 1) := by decide +kernel
theorem dX5_errs_1 : decode cX5_errs 1 = .ok (.getfield 139, 3) := by decide +kernel
theorem dX5_errs_4 : decode cX5_errs 4 = .ok (.ifCond .ne 16, 3) := by decide +kernel
theorem dX5_errs_7 : decode cX5_errs 7 = .ok (.aload_n 0, 1) := by decide +kernel
theorem dX5_errs_8 : decode cX5_errs 8 = .ok (.iload_n 1, 1) := by decide +kernel
theorem dX5_errs_9 : decode cX5_errs 9 = .ok (.putfield 139, 3) := by decide +kernel
