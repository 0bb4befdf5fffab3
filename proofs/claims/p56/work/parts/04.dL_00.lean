/-! what each instruction decodes to, as printed -/
theorem dL_next_0 : decode cL_next 0 = .ok (.aload_n 0, 1) := by decide +kernel
theorem dL_next_1 : decode cL_next 1 = .ok (.iconst 0, 1) := by decide +kernel
theorem dL_next_2 : decode cL_next 2 = .ok (.aload_n 0, 1) := by decide +kernel
theorem dL_next_3 : decode cL_next 3 = .ok (.iconst 0, 1) := by decide +kernel
theorem dL_next_4 : decode cL_next 4 = .ok (.iaload, 1) := by decide +kernel
theorem dL_next_5 : decode cL_next 5 = .ok (.ldc 7, 2) := by decide +kernel
theorem dL_next_7 : decode cL_next 7 = .ok (.imul, 1) := by decide +kernel
theorem dL_next_8 : decode cL_next 8 = .ok (.sipush 12345, 3) := by decide +kernel
theorem dL_next_11 : decode cL_next 11 = .ok (.iadd, 1) := by decide +kernel
theorem dL_next_12 : decode cL_next 12 = .ok (.iastore, 1) := by decide +kernel
theorem dL_next_13 : decode cL_next 13 = .ok (.aload_n 0, 1) := by decide +kernel
theorem dL_next_14 : decode cL_next 14 = .ok (.iconst 0, 1) := by decide +kernel
theorem dL_next_15 : decode cL_next 15 = .ok (.dup2, 1) := by decide +kernel
theorem dL_next_16 : decode cL_next 16 = .ok (.iaload, 1) := by decide +kernel
theorem dL_next_17 : decode cL_next 17 = .ok (.aload_n 0, 1) := by decide +kernel
theorem dL_next_18 : decode cL_next 18 = .ok (.iconst 0, 1) := by decide +kernel
theorem dL_next_19 : decode cL_next 19 = .ok (.iaload, 1) := by decide +kernel
theorem dL_next_20 : decode cL_next 20 = .ok (.bipush 15, 2) := by decide +kernel
theorem dL_next_22 : decode cL_next 22 = .ok (.iushr, 1) := by decide +kernel
theorem dL_next_23 : decode cL_next 23 = .ok (.ixor, 1) := by decide +kernel
theorem dL_next_24 : decode cL_next 24 = .ok (.iastore, 1) := by decide +kernel
theorem dL_next_25 : decode cL_next 25 = .ok (.aload_n 0, 1) := by decide +kernel
theorem dL_next_26 : decode cL_next 26 = .ok (.iconst 0, 1) := by decide +kernel
theorem dL_next_27 : decode cL_next 27 = .ok (.iaload, 1) := by decide +kernel
theorem dL_next_28 : decode cL_next 28 = .ok (.bipush 9, 2) := by decide +kernel
theorem dL_next_30 : decode cL_next 30 = .ok (.iushr, 1) := by decide +kernel
theorem dL_next_31 : decode cL_next 31 = .ok (.ireturn, 1) := by decide +kernel
theorem dL_type_0 : decode cL_type 0 = .ok (.iconst 0, 1) := by decide +kernel
theorem dL_type_1 : decode cL_type 1 = .ok (.istore_n 2, 1) := by decide +kernel
theorem dL_type_2 : decode cL_type 2 = .ok (.iconst 5, 1) := by decide +kernel
theorem dL_type_3 : decode cL_type 3 = .ok (.newarray .int, 2) := by decide +kernel
theorem dL_type_5 : decode cL_type 5 = .ok (.astore_n 3, 1) := by decide +kernel
theorem dL_type_6 : decode cL_type 6 = .ok (.iconst 0, 1) := by decide +kernel
theorem dL_type_7 : decode cL_type 7 = .ok (.istore 4, 2) := by decide +kernel
theorem dL_type_9 : decode cL_type 9 = .ok (.iload 4, 2) := by decide +kernel
theorem dL_type_11 : decode cL_type 11 = .ok (.aload_n 1, 1) := by decide +kernel
theorem dL_type_12 : decode cL_type 12 = .ok (.invokevirtual 8, 3) := by decide +kernel
theorem dL_type_15 : decode cL_type 15 = .ok (.if_icmp .ge 87, 3) := by decide +kernel
theorem dL_type_18 : decode cL_type 18 = .ok (.iconst 0, 1) := by decide +kernel
theorem dL_type_19 : decode cL_type 19 = .ok (.istore 5, 2) := by decide +kernel
theorem dL_type_21 : decode cL_type 21 = .ok (.iload 5, 2) := by decide +kernel
theorem dL_type_23 : decode cL_type 23 = .ok (.bipush 20, 2) := by decide +kernel
theorem dL_type_25 : decode cL_type 25 = .ok (.if_icmp .ge 51, 3) := by decide +kernel
theorem dL_type_28 : decode cL_type 28 = .ok (.aload_n 3, 1) := by decide +kernel
theorem dL_type_29 : decode cL_type 29 = .ok (.iload 5, 2) := by decide +kernel
theorem dL_type_31 : decode cL_type 31 = .ok (.iconst 4, 1) := by decide +kernel
theorem dL_type_32 : decode cL_type 32 = .ok (.idiv, 1) := by decide +kernel
theorem dL_type_33 : decode cL_type 33 = .ok (.aload_n 3, 1) := by decide +kernel
theorem dL_type_34 : decode cL_type 34 = .ok (.iload 5, 2) := by decide +kernel
theorem dL_type_36 : decode cL_type 36 = .ok (.iconst 4, 1) := by decide +kernel
theorem dL_type_37 : decode cL_type 37 = .ok (.idiv, 1) := by decide +kernel
theorem dL_type_38 : decode cL_type 38 = .ok (.iaload, 1) := by decide +kernel
theorem dL_type_39 : decode cL_type 39 = .ok (.bipush 8, 2) := by decide +kernel
theorem dL_type_41 : decode cL_type 41 = .ok (.ishl, 1) := by decide +kernel
theorem dL_type_42 : decode cL_type 42 = .ok (.iload 4, 2) := by decide +kernel
theorem dL_type_44 : decode cL_type 44 = .ok (.iload 5, 2) := by decide +kernel
theorem dL_type_46 : decode cL_type 46 = .ok (.iadd, 1) := by decide +kernel
theorem dL_type_47 : decode cL_type 47 = .ok (.aload_n 1, 1) := by decide +kernel
theorem dL_type_48 : decode cL_type 48 = .ok (.invokevirtual 8, 3) := by decide +kernel
theorem dL_type_51 : decode cL_type 51 = .ok (.if_icmp .ge 15, 3) := by decide +kernel
theorem dL_type_54 : decode cL_type 54 = .ok (.aload_n 1, 1) := by decide +kernel
theorem dL_type_55 : decode cL_type 55 = .ok (.iload 4, 2) := by decide +kernel
theorem dL_type_57 : decode cL_type 57 = .ok (.iload 5, 2) := by decide +kernel
theorem dL_type_59 : decode cL_type 59 = .ok (.iadd, 1) := by decide +kernel
theorem dL_type_60 : decode cL_type 60 = .ok (.invokevirtual 14, 3) := by decide +kernel
theorem dL_type_63 : decode cL_type 63 = .ok (.goto 5, 3) := by decide +kernel
theorem dL_type_66 : decode cL_type 66 = .ok (.bipush 32, 2) := by decide +kernel
theorem dL_type_68 : decode cL_type 68 = .ok (.ior, 1) := by decide +kernel
theorem dL_type_69 : decode cL_type 69 = .ok (.iastore, 1) := by decide +kernel
theorem dL_type_70 : decode cL_type 70 = .ok (.iinc 5 1, 3) := by decide +kernel
theorem dL_type_73 : decode cL_type 73 = .ok (.goto (-52), 3) := by decide +kernel
theorem dL_type_76 : decode cL_type 76 = .ok (.aload_n 0, 1) := by decide +kernel
theorem dL_type_77 : decode cL_type 77 = .ok (.aload_n 3, 1) := by decide +kernel
theorem dL_type_78 : decode cL_type 78 = .ok (.iconst 0, 1) := by decide +kernel
theorem dL_type_79 : decode cL_type 79 = .ok (.iaload, 1) := by decide +kernel
theorem dL_type_80 : decode cL_type 80 = .ok (.aload_n 3, 1) := by decide +kernel
theorem dL_type_81 : decode cL_type 81 = .ok (.iconst 1, 1) := by decide +kernel
theorem dL_type_82 : decode cL_type 82 = .ok (.iaload, 1) := by decide +kernel
theorem dL_type_83 : decode cL_type 83 = .ok (.aload_n 3, 1) := by decide +kernel
theorem dL_type_84 : decode cL_type 84 = .ok (.iconst 2, 1) := by decide +kernel
theorem dL_type_85 : decode cL_type 85 = .ok (.iaload, 1) := by decide +kernel
theorem dL_type_86 : decode cL_type 86 = .ok (.aload_n 3, 1) := by decide +kernel
theorem dL_type_87 : decode cL_type 87 = .ok (.iconst 3, 1) := by decide +kernel
theorem dL_type_88 : decode cL_type 88 = .ok (.iaload, 1) := by decide +kernel
theorem dL_type_89 : decode cL_type 89 = .ok (.aload_n 3, 1) := by decide +kernel
theorem dL_type_90 : decode cL_type 90 = .ok (.iconst 4, 1) := by decide +kernel
theorem dL_type_91 : decode cL_type 91 = .ok (.iaload, 1) := by decide +kernel
theorem dL_type_92 : decode cL_type 92 = .ok (.invokevirtual 18, 3) := by decide +kernel
theorem dL_type_95 : decode cL_type 95 = .ok (.istore_n 2, 1) := by decide +kernel
theorem dL_type_96 : decode cL_type 96 = .ok (.iinc 4 20, 3) := by decide +kernel
theorem dL_type_99 : decode cL_type 99 = .ok (.goto (-90), 3) := by decide +kernel
theorem dL_type_102 : decode cL_type 102 = .ok (.aload_n 1, 1) := by decide +kernel
theorem dL_type_103 : decode cL_type 103 = .ok (.invokevirtual 8, 3) := by decide +kernel
theorem dL_type_106 : decode cL_type 106 = .ok (.ireturn, 1) := by decide +kernel
theorem dL_load_0 : decode cL_load 0 = .ok (.aload_n 0, 1) := by decide +kernel
theorem dL_load_1 : decode cL_load 1 = .ok (.aload_n 1, 1) := by decide +kernel
theorem dL_load_2 : decode cL_load 2 = .ok (.invokestatic 24, 3) := by decide +kernel
theorem dL_load_5 : decode cL_load 5 = .ok (.istore_n 2, 1) := by decide +kernel
theorem dL_load_6 : decode cL_load 6 = .ok (.aload_n 0, 1) := by decide +kernel
theorem dL_load_7 : decode cL_load 7 = .ok (.iload_n 2, 1) := by decide +kernel
theorem dL_load_8 : decode cL_load 8 = .ok (.invokevirtual 30, 3) := by decide +kernel
theorem dL_load_11 : decode cL_load 11 = .ok (.ireturn, 1) := by decide +kernel
theorem dL_load_12 : decode cL_load 12 = .ok (.astore_n 3, 1) := by decide +kernel
theorem dL_load_13 : decode cL_load 13 = .ok (.bipush (-2), 2) := by decide +kernel
theorem dL_load_15 : decode cL_load 15 = .ok (.ireturn, 1) := by decide +kernel
theorem dL_load_16 : decode cL_load 16 = .ok (.astore_n 3, 1) := by decide +kernel
theorem dL_load_17 : decode cL_load 17 = .ok (.iconst (-1), 1) := by decide +kernel
theorem dL_load_18 : decode cL_load 18 = .ok (.ireturn, 1) := by decide +kernel
theorem dL_undone_0 : decode cL_undone 0 = .ok (.aload_n 0, 1) := by decide +kernel
theorem dL_undone_1 : decode cL_undone 1 = .ok (.invokevirtual 38, 3) := by decide +kernel
theorem dL_undone_4 : decode cL_undone 4 = .ok (.ireturn, 1) := by decide +kernel
theorem dL_undone_5 : decode cL_undone 5 = .ok (.astore_n 1, 1) := by decide +kernel
theorem dL_undone_6 : decode cL_undone 6 = .ok (.iconst (-1), 1) := by decide +kernel
theorem dL_undone_7 : decode cL_undone 7 = .ok (.ireturn, 1) := by decide +kernel
theorem dL_counted_0 : decode cL_counted 0 = .ok (.aload_n 0, 1) := by decide +kernel
theorem dL_counted_1 : decode cL_counted 1 = .ok (.iload_n 1, 1) := by decide +kernel
theorem dL_counted_2 : decode cL_counted 2 = .ok (.iload_n 2, 1) := by decide +kernel
theorem dL_counted_3 : decode cL_counted 3 = .ok (.iload_n 3, 1) := by decide +kernel
theorem dL_counted_4 : decode cL_counted 4 = .ok (.invokevirtual 43, 3) := by decide +kernel
theorem dL_counted_7 : decode cL_counted 7 = .ok (.ireturn, 1) := by decide +kernel
theorem dL_counted_8 : decode cL_counted 8 = .ok (.astore 4, 2) := by decide +kernel
theorem dL_counted_10 : decode cL_counted 10 = .ok (.ldc 47, 2) := by decide +kernel
theorem dL_counted_12 : decode cL_counted 12 = .ok (.ireturn, 1) := by decide +kernel
theorem dL_counted_13 : decode cL_counted 13 = .ok (.astore 4, 2) := by decide +kernel
theorem dL_counted_15 : decode cL_counted 15 = .ok (.ldc 48, 2) := by decide +kernel
theorem dL_counted_17 : decode cL_counted 17 = .ok (.ireturn, 1) := by decide +kernel
theorem dL_discounted_0 : decode cL_discounted 0 = .ok (.aload_n 0, 1) := by decide +kernel
theorem dL_discounted_1 : decode cL_discounted 1 = .ok (.iload_n 1, 1) := by decide +kernel
theorem dL_discounted_2 : decode cL_discounted 2 = .ok (.iload_n 2, 1) := by decide +kernel
theorem dL_discounted_3 : decode cL_discounted 3 = .ok (.iload_n 3, 1) := by decide +kernel
theorem dL_discounted_4 : decode cL_discounted 4 = .ok (.invokevirtual 49, 3) := by decide +kernel
theorem dL_discounted_7 : decode cL_discounted 7 = .ok (.ireturn, 1) := by decide +kernel
theorem dL_discounted_8 : decode cL_discounted 8 = .ok (.astore 4, 2) := by decide +kernel
theorem dL_discounted_10 : decode cL_discounted 10 = .ok (.ldc 47, 2) := by decide +kernel
theorem dL_discounted_12 : decode cL_discounted 12 = .ok (.ireturn, 1) := by decide +kernel
theorem dL_discounted_13 : decode cL_discounted 13 = .ok (.astore 4, 2) := by decide +kernel
theorem dL_discounted_15 : decode cL_discounted 15 = .ok (.ldc 48, 2) := by decide +kernel
theorem dL_discounted_17 : decode cL_discounted 17 = .ok (.ireturn, 1) := by decide +kernel
theorem dL_added_0 : decode cL_added 0 = .ok (.aload_n 0, 1) := by decide +kernel
theorem dL_added_1 : decode cL_added 1 = .ok (.iload_n 1, 1) := by decide +kernel
theorem dL_added_2 : decode cL_added 2 = .ok (.iload_n 2, 1) := by decide +kernel
theorem dL_added_3 : decode cL_added 3 = .ok (.invokevirtual 52, 3) := by decide +kernel
theorem dL_added_6 : decode cL_added 6 = .ok (.ireturn, 1) := by decide +kernel
theorem dL_added_7 : decode cL_added 7 = .ok (.astore_n 3, 1) := by decide +kernel
theorem dL_added_8 : decode cL_added 8 = .ok (.bipush (-5), 2) := by decide +kernel
theorem dL_added_10 : decode cL_added 10 = .ok (.ireturn, 1) := by decide +kernel
theorem dL_removed_0 : decode cL_removed 0 = .ok (.aload_n 0, 1) := by decide +kernel
theorem dL_removed_1 : decode cL_removed 1 = .ok (.iload_n 1, 1) := by decide +kernel
theorem dL_removed_2 : decode cL_removed 2 = .ok (.iload_n 2, 1) := by decide +kernel
theorem dL_removed_3 : decode cL_removed 3 = .ok (.invokevirtual 56, 3) := by decide +kernel
theorem dL_removed_6 : decode cL_removed 6 = .ok (.ireturn, 1) := by decide +kernel
theorem dL_removed_7 : decode cL_removed 7 = .ok (.astore_n 3, 1) := by decide +kernel
theorem dL_removed_8 : decode cL_removed 8 = .ok (.bipush (-5), 2) := by decide +kernel
theorem dL_removed_10 : decode cL_removed 10 = .ok (.ireturn, 1) := by decide +kernel
theorem dL_removed_11 : decode cL_removed 11 = .ok (.astore_n 3, 1) := by decide +kernel
theorem dL_removed_12 : decode cL_removed 12 = .ok (.bipush (-3), 2) := by decide +kernel
theorem dL_removed_14 : decode cL_removed 14 = .ok (.ireturn, 1) := by decide +kernel
theorem dL_written_0 : decode cL_written 0 = .ok (.aload_n 0, 1) := by decide +kernel
theorem dL_written_1 : decode cL_written 1 = .ok (.iload_n 1, 1) := by decide +kernel
theorem dL_written_2 : decode cL_written 2 = .ok (.iload_n 2, 1) := by decide +kernel
theorem dL_written_3 : decode cL_written 3 = .ok (.iload_n 3, 1) := by decide +kernel
theorem dL_written_4 : decode cL_written 4 = .ok (.invokevirtual 59, 3) := by decide +kernel
theorem dL_written_7 : decode cL_written 7 = .ok (.ireturn, 1) := by decide +kernel
theorem dL_written_8 : decode cL_written 8 = .ok (.astore 4, 2) := by decide +kernel
theorem dL_written_10 : decode cL_written 10 = .ok (.bipush (-5), 2) := by decide +kernel
theorem dL_written_12 : decode cL_written 12 = .ok (.ireturn, 1) := by decide +kernel
theorem dL_written_13 : decode cL_written 13 = .ok (.astore 4, 2) := by decide +kernel
theorem dL_written_15 : decode cL_written 15 = .ok (.bipush (-2), 2) := by decide +kernel
theorem dL_written_17 : decode cL_written 17 = .ok (.ireturn, 1) := by decide +kernel
theorem dL_merged_0 : decode cL_merged 0 = .ok (.aload_n 0, 1) := by decide +kernel
theorem dL_merged_1 : decode cL_merged 1 = .ok (.iload_n 1, 1) := by decide +kernel
theorem dL_merged_2 : decode cL_merged 2 = .ok (.iload_n 2, 1) := by decide +kernel
theorem dL_merged_3 : decode cL_merged 3 = .ok (.invokevirtual 62, 3) := by decide +kernel
theorem dL_merged_6 : decode cL_merged 6 = .ok (.ifCond .eq 7, 3) := by decide +kernel
theorem dL_merged_9 : decode cL_merged 9 = .ok (.iconst 1, 1) := by decide +kernel
theorem dL_merged_10 : decode cL_merged 10 = .ok (.goto 4, 3) := by decide +kernel
theorem dL_merged_13 : decode cL_merged 13 = .ok (.iconst 0, 1) := by decide +kernel
theorem dL_merged_14 : decode cL_merged 14 = .ok (.ireturn, 1) := by decide +kernel
theorem dL_merged_15 : decode cL_merged 15 = .ok (.astore_n 3, 1) := by decide +kernel
theorem dL_merged_16 : decode cL_merged 16 = .ok (.bipush (-5), 2) := by decide +kernel
theorem dL_merged_18 : decode cL_merged 18 = .ok (.ireturn, 1) := by decide +kernel
theorem dL_sent_0 : decode cL_sent 0 = .ok (.aload_n 0, 1) := by decide +kernel
theorem dL_sent_1 : decode cL_sent 1 = .ok (.iload_n 1, 1) := by decide +kernel
theorem dL_sent_2 : decode cL_sent 2 = .ok (.invokevirtual 66, 3) := by decide +kernel
theorem dL_sent_5 : decode cL_sent 5 = .ok (.ireturn, 1) := by decide +kernel
theorem dL_sent_6 : decode cL_sent 6 = .ok (.astore_n 2, 1) := by decide +kernel
theorem dL_sent_7 : decode cL_sent 7 = .ok (.bipush (-5), 2) := by decide +kernel
theorem dL_sent_9 : decode cL_sent 9 = .ok (.ireturn, 1) := by decide +kernel
theorem dL_sent_10 : decode cL_sent 10 = .ok (.astore_n 2, 1) := by decide +kernel
theorem dL_sent_11 : decode cL_sent 11 = .ok (.bipush (-3), 2) := by decide +kernel
theorem dL_sent_13 : decode cL_sent 13 = .ok (.ireturn, 1) := by decide +kernel
theorem dL_delivered_0 : decode cL_delivered 0 = .ok (.aload_n 0, 1) := by decide +kernel
theorem dL_delivered_1 : decode cL_delivered 1 = .ok (.iload_n 1, 1) := by decide +kernel
theorem dL_delivered_2 : decode cL_delivered 2 = .ok (.iload_n 2, 1) := by decide +kernel
theorem dL_delivered_3 : decode cL_delivered 3 = .ok (.invokevirtual 69, 3) := by decide +kernel
theorem dL_delivered_6 : decode cL_delivered 6 = .ok (.ifCond .eq 7, 3) := by decide +kernel
theorem dL_delivered_9 : decode cL_delivered 9 = .ok (.iconst 1, 1) := by decide +kernel
theorem dL_delivered_10 : decode cL_delivered 10 = .ok (.goto 4, 3) := by decide +kernel
theorem dL_delivered_13 : decode cL_delivered 13 = .ok (.iconst 0, 1) := by decide +kernel
theorem dL_delivered_14 : decode cL_delivered 14 = .ok (.ireturn, 1) := by decide +kernel
theorem dL_delivered_15 : decode cL_delivered 15 = .ok (.astore_n 3, 1) := by decide +kernel
theorem dL_delivered_16 : decode cL_delivered 16 = .ok (.bipush (-5), 2) := by decide +kernel
theorem dL_delivered_18 : decode cL_delivered 18 = .ok (.ireturn, 1) := by decide +kernel
theorem dL_dropped_0 : decode cL_dropped 0 = .ok (.aload_n 0, 1) := by decide +kernel
theorem dL_dropped_1 : decode cL_dropped 1 = .ok (.iload_n 1, 1) := by decide +kernel
theorem dL_dropped_2 : decode cL_dropped 2 = .ok (.invokevirtual 72, 3) := by decide +kernel
theorem dL_dropped_5 : decode cL_dropped 5 = .ok (.ireturn, 1) := by decide +kernel
theorem dL_dropped_6 : decode cL_dropped 6 = .ok (.astore_n 2, 1) := by decide +kernel
theorem dL_dropped_7 : decode cL_dropped 7 = .ok (.bipush (-5), 2) := by decide +kernel
theorem dL_dropped_9 : decode cL_dropped 9 = .ok (.ireturn, 1) := by decide +kernel
theorem dL_tagAt_0 : decode cL_tagAt 0 = .ok (.aload_n 0, 1) := by decide +kernel
theorem dL_tagAt_1 : decode cL_tagAt 1 = .ok (.iload_n 1, 1) := by decide +kernel
theorem dL_tagAt_2 : decode cL_tagAt 2 = .ok (.iload_n 2, 1) := by decide +kernel
theorem dL_tagAt_3 : decode cL_tagAt 3 = .ok (.invokevirtual 75, 3) := by decide +kernel
theorem dL_tagAt_6 : decode cL_tagAt 6 = .ok (.ireturn, 1) := by decide +kernel
theorem dL_tagAt_7 : decode cL_tagAt 7 = .ok (.astore_n 3, 1) := by decide +kernel
theorem dL_tagAt_8 : decode cL_tagAt 8 = .ok (.bipush (-5), 2) := by decide +kernel
theorem dL_tagAt_10 : decode cL_tagAt 10 = .ok (.ireturn, 1) := by decide +kernel
theorem dL_notes_0 : decode cL_notes 0 = .ok (.new 78, 3) := by decide +kernel
theorem dL_notes_3 : decode cL_notes 3 = .ok (.dup, 1) := by decide +kernel
theorem dL_notes_4 : decode cL_notes 4 = .ok (.ldc 80, 2) := by decide +kernel
theorem dL_notes_6 : decode cL_notes 6 = .ok (.invokespecial 82, 3) := by decide +kernel
theorem dL_notes_9 : decode cL_notes 9 = .ok (.iload_n 0, 1) := by decide +kernel
theorem dL_notes_10 : decode cL_notes 10 = .ok (.invokevirtual 85, 3) := by decide +kernel
theorem dL_notes_13 : decode cL_notes 13 = .ok (.bipush 32, 2) := by decide +kernel
theorem dL_notes_15 : decode cL_notes 15 = .ok (.invokevirtual 88, 3) := by decide +kernel
theorem dL_notes_18 : decode cL_notes 18 = .ok (.iload_n 1, 1) := by decide +kernel
theorem dL_notes_19 : decode cL_notes 19 = .ok (.invokevirtual 85, 3) := by decide +kernel
theorem dL_notes_22 : decode cL_notes 22 = .ok (.bipush 32, 2) := by decide +kernel
theorem dL_notes_24 : decode cL_notes 24 = .ok (.invokevirtual 88, 3) := by decide +kernel
theorem dL_notes_27 : decode cL_notes 27 = .ok (.iload_n 2, 1) := by decide +kernel
theorem dL_notes_28 : decode cL_notes 28 = .ok (.invokevirtual 85, 3) := by decide +kernel
theorem dL_notes_31 : decode cL_notes 31 = .ok (.astore 4, 2) := by decide +kernel
theorem dL_notes_33 : decode cL_notes 33 = .ok (.aload_n 3, 1) := by decide +kernel
theorem dL_notes_34 : decode cL_notes 34 = .ok (.invokestatic 91, 3) := by decide +kernel
theorem dL_notes_37 : decode cL_notes 37 = .ok (.bipush 12, 2) := by decide +kernel
theorem dL_notes_39 : decode cL_notes 39 = .ok (.irem, 1) := by decide +kernel
theorem dL_notes_40 : decode cL_notes 40 = .ok (.istore 5, 2) := by decide +kernel
theorem dL_notes_42 : decode cL_notes 42 = .ok (.iload 5, 2) := by decide +kernel
theorem dL_notes_44 : decode cL_notes 44 = .ok (.ifCond .le 288, 3) := by decide +kernel
theorem dL_notes_47 : decode cL_notes 47 = .ok (.aload_n 3, 1) := by decide +kernel
theorem dL_notes_48 : decode cL_notes 48 = .ok (.invokestatic 91, 3) := by decide +kernel
theorem dL_notes_51 : decode cL_notes 51 = .ok (.iload_n 0, 1) := by decide +kernel
theorem dL_notes_52 : decode cL_notes 52 = .ok (.irem, 1) := by decide +kernel
theorem dL_notes_53 : decode cL_notes 53 = .ok (.istore 6, 2) := by decide +kernel
theorem dL_notes_55 : decode cL_notes 55 = .ok (.aload_n 3, 1) := by decide +kernel
theorem dL_notes_56 : decode cL_notes 56 = .ok (.invokestatic 91, 3) := by decide +kernel
theorem dL_notes_59 : decode cL_notes 59 = .ok (.iconst 4, 1) := by decide +kernel
theorem dL_notes_60 : decode cL_notes 60 = .ok (.irem, 1) := by decide +kernel
theorem dL_notes_61 : decode cL_notes 61 = .ok (.tableswitch 234 0 2 #[27, 119, 204], 27) := by decide +kernel
theorem dL_notes_88 : decode cL_notes 88 = .ok (.aload 4, 2) := by decide +kernel
theorem dL_notes_90 : decode cL_notes 90 = .ok (.iload_n 1, 1) := by decide +kernel
theorem dL_notes_91 : decode cL_notes 91 = .ok (.ifCond .ne 31, 3) := by decide +kernel
theorem dL_notes_94 : decode cL_notes 94 = .ok (.new 78, 3) := by decide +kernel
theorem dL_notes_97 : decode cL_notes 97 = .ok (.dup, 1) := by decide +kernel
theorem dL_notes_98 : decode cL_notes 98 = .ok (.invokespecial 95, 3) := by decide +kernel
theorem dL_notes_101 : decode cL_notes 101 = .ok (.ldc 96, 2) := by decide +kernel
theorem dL_notes_103 : decode cL_notes 103 = .ok (.invokevirtual 98, 3) := by decide +kernel
theorem dL_notes_106 : decode cL_notes 106 = .ok (.iload 6, 2) := by decide +kernel
theorem dL_notes_108 : decode cL_notes 108 = .ok (.invokevirtual 85, 3) := by decide +kernel
theorem dL_notes_111 : decode cL_notes 111 = .ok (.ldc 101, 2) := by decide +kernel
theorem dL_notes_113 : decode cL_notes 113 = .ok (.invokevirtual 98, 3) := by decide +kernel
theorem dL_notes_116 : decode cL_notes 116 = .ok (.invokevirtual 103, 3) := by decide +kernel
theorem dL_notes_119 : decode cL_notes 119 = .ok (.goto 54, 3) := by decide +kernel
theorem dL_notes_122 : decode cL_notes 122 = .ok (.new 78, 3) := by decide +kernel
theorem dL_notes_125 : decode cL_notes 125 = .ok (.dup, 1) := by decide +kernel
theorem dL_notes_126 : decode cL_notes 126 = .ok (.invokespecial 95, 3) := by decide +kernel
theorem dL_notes_129 : decode cL_notes 129 = .ok (.ldc 107, 2) := by decide +kernel
theorem dL_notes_131 : decode cL_notes 131 = .ok (.invokevirtual 98, 3) := by decide +kernel
theorem dL_notes_134 : decode cL_notes 134 = .ok (.iload 6, 2) := by decide +kernel
theorem dL_notes_136 : decode cL_notes 136 = .ok (.invokevirtual 85, 3) := by decide +kernel
theorem dL_notes_139 : decode cL_notes 139 = .ok (.ldc 109, 2) := by decide +kernel
theorem dL_notes_141 : decode cL_notes 141 = .ok (.invokevirtual 98, 3) := by decide +kernel
theorem dL_notes_144 : decode cL_notes 144 = .ok (.aload_n 3, 1) := by decide +kernel
theorem dL_notes_145 : decode cL_notes 145 = .ok (.invokestatic 91, 3) := by decide +kernel
theorem dL_notes_148 : decode cL_notes 148 = .ok (.iload_n 1, 1) := by decide +kernel
theorem dL_notes_149 : decode cL_notes 149 = .ok (.irem, 1) := by decide +kernel
theorem dL_notes_150 : decode cL_notes 150 = .ok (.invokevirtual 85, 3) := by decide +kernel
theorem dL_notes_153 : decode cL_notes 153 = .ok (.ldc 109, 2) := by decide +kernel
theorem dL_notes_155 : decode cL_notes 155 = .ok (.invokevirtual 98, 3) := by decide +kernel
theorem dL_notes_158 : decode cL_notes 158 = .ok (.iconst 1, 1) := by decide +kernel
theorem dL_notes_159 : decode cL_notes 159 = .ok (.aload_n 3, 1) := by decide +kernel
theorem dL_notes_160 : decode cL_notes 160 = .ok (.invokestatic 91, 3) := by decide +kernel
theorem dL_notes_163 : decode cL_notes 163 = .ok (.bipush 9, 2) := by decide +kernel
theorem dL_notes_165 : decode cL_notes 165 = .ok (.irem, 1) := by decide +kernel
theorem dL_notes_166 : decode cL_notes 166 = .ok (.iadd, 1) := by decide +kernel
theorem dL_notes_167 : decode cL_notes 167 = .ok (.invokevirtual 85, 3) := by decide +kernel
theorem dL_notes_170 : decode cL_notes 170 = .ok (.invokevirtual 103, 3) := by decide +kernel
theorem dL_notes_173 : decode cL_notes 173 = .ok (.invokevirtual 98, 3) := by decide +kernel
theorem dL_notes_176 : decode cL_notes 176 = .ok (.pop, 1) := by decide +kernel
theorem dL_notes_177 : decode cL_notes 177 = .ok (.goto 149, 3) := by decide +kernel
theorem dL_notes_180 : decode cL_notes 180 = .ok (.aload 4, 2) := by decide +kernel
theorem dL_notes_182 : decode cL_notes 182 = .ok (.iload_n 2, 1) := by decide +kernel
theorem dL_notes_183 : decode cL_notes 183 = .ok (.ifCond .ne 26, 3) := by decide +kernel
theorem dL_notes_186 : decode cL_notes 186 = .ok (.new 78, 3) := by decide +kernel
theorem dL_notes_189 : decode cL_notes 189 = .ok (.dup, 1) := by decide +kernel
theorem dL_notes_190 : decode cL_notes 190 = .ok (.invokespecial 95, 3) := by decide +kernel
theorem dL_notes_193 : decode cL_notes 193 = .ok (.ldc 111, 2) := by decide +kernel
theorem dL_notes_195 : decode cL_notes 195 = .ok (.invokevirtual 98, 3) := by decide +kernel
theorem dL_notes_198 : decode cL_notes 198 = .ok (.iload 6, 2) := by decide +kernel
theorem dL_notes_200 : decode cL_notes 200 = .ok (.invokevirtual 85, 3) := by decide +kernel
theorem dL_notes_203 : decode cL_notes 203 = .ok (.invokevirtual 103, 3) := by decide +kernel
theorem dL_notes_206 : decode cL_notes 206 = .ok (.goto 52, 3) := by decide +kernel
theorem dL_notes_209 : decode cL_notes 209 = .ok (.new 78, 3) := by decide +kernel
theorem dL_notes_212 : decode cL_notes 212 = .ok (.dup, 1) := by decide +kernel
theorem dL_notes_213 : decode cL_notes 213 = .ok (.invokespecial 95, 3) := by decide +kernel
theorem dL_notes_216 : decode cL_notes 216 = .ok (.ldc 113, 2) := by decide +kernel
theorem dL_notes_218 : decode cL_notes 218 = .ok (.invokevirtual 98, 3) := by decide +kernel
theorem dL_notes_221 : decode cL_notes 221 = .ok (.iload 6, 2) := by decide +kernel
theorem dL_notes_223 : decode cL_notes 223 = .ok (.invokevirtual 85, 3) := by decide +kernel
theorem dL_notes_226 : decode cL_notes 226 = .ok (.ldc 109, 2) := by decide +kernel
theorem dL_notes_228 : decode cL_notes 228 = .ok (.invokevirtual 98, 3) := by decide +kernel
theorem dL_notes_231 : decode cL_notes 231 = .ok (.aload_n 3, 1) := by decide +kernel
theorem dL_notes_232 : decode cL_notes 232 = .ok (.invokestatic 91, 3) := by decide +kernel
theorem dL_notes_235 : decode cL_notes 235 = .ok (.iload_n 2, 1) := by decide +kernel
theorem dL_notes_236 : decode cL_notes 236 = .ok (.irem, 1) := by decide +kernel
theorem dL_notes_237 : decode cL_notes 237 = .ok (.invokevirtual 85, 3) := by decide +kernel
theorem dL_notes_240 : decode cL_notes 240 = .ok (.ldc 109, 2) := by decide +kernel
theorem dL_notes_242 : decode cL_notes 242 = .ok (.invokevirtual 98, 3) := by decide +kernel
theorem dL_notes_245 : decode cL_notes 245 = .ok (.aload_n 3, 1) := by decide +kernel
theorem dL_notes_246 : decode cL_notes 246 = .ok (.invokestatic 91, 3) := by decide +kernel
theorem dL_notes_249 : decode cL_notes 249 = .ok (.bipush 100, 2) := by decide +kernel
theorem dL_notes_251 : decode cL_notes 251 = .ok (.irem, 1) := by decide +kernel
theorem dL_notes_252 : decode cL_notes 252 = .ok (.invokevirtual 85, 3) := by decide +kernel
theorem dL_notes_255 : decode cL_notes 255 = .ok (.invokevirtual 103, 3) := by decide +kernel
theorem dL_notes_258 : decode cL_notes 258 = .ok (.invokevirtual 98, 3) := by decide +kernel
theorem dL_notes_261 : decode cL_notes 261 = .ok (.pop, 1) := by decide +kernel
theorem dL_notes_262 : decode cL_notes 262 = .ok (.goto 64, 3) := by decide +kernel
theorem dL_notes_265 : decode cL_notes 265 = .ok (.aload 4, 2) := by decide +kernel
theorem dL_notes_267 : decode cL_notes 267 = .ok (.ldc 96, 2) := by decide +kernel
