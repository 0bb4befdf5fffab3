/-! what each instruction decodes to, as printed -/
theorem dX5_completeShare_42 : decode cX5_completeShare 42 = .ok (.iload_n 2, 1) := by decide +kernel
theorem dX5_completeShare_43 : decode cX5_completeShare 43 = .ok (.invokevirtual 111, 3) := by decide +kernel
theorem dX5_completeShare_46 : decode cX5_completeShare 46 = .ok (.ifCond .eq 7, 3) := by decide +kernel
theorem dX5_completeShare_49 : decode cX5_completeShare 49 = .ok (.iconst 1, 1) := by decide +kernel
theorem dX5_completeShare_50 : decode cX5_completeShare 50 = .ok (.goto 4, 3) := by decide +kernel
theorem dX5_completeShare_53 : decode cX5_completeShare 53 = .ok (.iconst 0, 1) := by decide +kernel
theorem dX5_completeShare_54 : decode cX5_completeShare 54 = .ok (.istore_n 3, 1) := by decide +kernel
theorem dX5_completeShare_55 : decode cX5_completeShare 55 = .ok (.iinc 4 1, 3) := by decide +kernel
theorem dX5_completeShare_58 : decode cX5_completeShare 58 = .ok (.goto (-34), 3) := by decide +kernel
theorem dX5_completeShare_61 : decode cX5_completeShare 61 = .ok (.iload_n 1, 1) := by decide +kernel
theorem dX5_completeShare_62 : decode cX5_completeShare 62 = .ok (.iload_n 3, 1) := by decide +kernel
theorem dX5_completeShare_63 : decode cX5_completeShare 63 = .ok (.ifCond .eq 7, 3) := by decide +kernel
theorem dX5_completeShare_66 : decode cX5_completeShare 66 = .ok (.iconst 1, 1) := by decide +kernel
theorem dX5_completeShare_67 : decode cX5_completeShare 67 = .ok (.goto 4, 3) := by decide +kernel
theorem dX5_completeShare_70 : decode cX5_completeShare 70 = .ok (.iconst 0, 1) := by decide +kernel
theorem dX5_completeShare_71 : decode cX5_completeShare 71 = .ok (.iadd, 1) := by decide +kernel
theorem dX5_completeShare_72 : decode cX5_completeShare 72 = .ok (.istore_n 1, 1) := by decide +kernel
theorem dX5_completeShare_73 : decode cX5_completeShare 73 = .ok (.iinc 2 1, 3) := by decide +kernel
theorem dX5_completeShare_76 : decode cX5_completeShare 76 = .ok (.goto (-67), 3) := by decide +kernel
theorem dX5_completeShare_79 : decode cX5_completeShare 79 = .ok (.iload_n 1, 1) := by decide +kernel
theorem dX5_completeShare_80 : decode cX5_completeShare 80 = .ok (.i2f, 1) := by decide +kernel
theorem dX5_completeShare_81 : decode cX5_completeShare 81 = .ok (.aload_n 0, 1) := by decide +kernel
theorem dX5_completeShare_82 : decode cX5_completeShare 82 = .ok (.getfield 13, 3) := by decide +kernel
theorem dX5_completeShare_85 : decode cX5_completeShare 85 = .ok (.iconst 0, 1) := by decide +kernel
theorem dX5_completeShare_86 : decode cX5_completeShare 86 = .ok (.iaload, 1) := by decide +kernel
theorem dX5_completeShare_87 : decode cX5_completeShare 87 = .ok (.i2f, 1) := by decide +kernel
theorem dX5_completeShare_88 : decode cX5_completeShare 88 = .ok (.fdiv, 1) := by decide +kernel
theorem dX5_completeShare_89 : decode cX5_completeShare 89 = .ok (.freturn, 1) := by decide +kernel
theorem dX5_messageCount_0 : decode cX5_messageCount 0 = .ok (.aload_n 0, 1) := by decide +kernel
theorem dX5_messageCount_1 : decode cX5_messageCount 1 = .ok (.aload_n 0, 1) := by decide +kernel
theorem dX5_messageCount_2 : decode cX5_messageCount 2 = .ok (.getfield 13, 3) := by decide +kernel
theorem dX5_messageCount_5 : decode cX5_messageCount 5 = .ok (.iconst 3, 1) := by decide +kernel
theorem dX5_messageCount_6 : decode cX5_messageCount 6 = .ok (.iaload, 1) := by decide +kernel
theorem dX5_messageCount_7 : decode cX5_messageCount 7 = .ok (.invokevirtual 198, 3) := by decide +kernel
theorem dX5_messageCount_10 : decode cX5_messageCount 10 = .ok (.ireturn, 1) := by decide +kernel
theorem dX5_senderOf_0 : decode cX5_senderOf 0 = .ok (.aload_n 0, 1) := by decide +kernel
theorem dX5_senderOf_1 : decode cX5_senderOf 1 = .ok (.iload_n 1, 1) := by decide +kernel
theorem dX5_senderOf_2 : decode cX5_senderOf 2 = .ok (.invokevirtual 257, 3) := by decide +kernel
theorem dX5_senderOf_5 : decode cX5_senderOf 5 = .ok (.ifCond .eq 18, 3) := by decide +kernel
theorem dX5_senderOf_8 : decode cX5_senderOf 8 = .ok (.aload_n 0, 1) := by decide +kernel
theorem dX5_senderOf_9 : decode cX5_senderOf 9 = .ok (.aload_n 0, 1) := by decide +kernel
theorem dX5_senderOf_10 : decode cX5_senderOf 10 = .ok (.getfield 13, 3) := by decide +kernel
theorem dX5_senderOf_13 : decode cX5_senderOf 13 = .ok (.iconst 4, 1) := by decide +kernel
theorem dX5_senderOf_14 : decode cX5_senderOf 14 = .ok (.iload_n 1, 1) := by decide +kernel
theorem dX5_senderOf_15 : decode cX5_senderOf 15 = .ok (.iadd, 1) := by decide +kernel
theorem dX5_senderOf_16 : decode cX5_senderOf 16 = .ok (.iaload, 1) := by decide +kernel
theorem dX5_senderOf_17 : decode cX5_senderOf 17 = .ok (.invokevirtual 198, 3) := by decide +kernel
theorem dX5_senderOf_20 : decode cX5_senderOf 20 = .ok (.goto 8, 3) := by decide +kernel
theorem dX5_senderOf_23 : decode cX5_senderOf 23 = .ok (.aload_n 0, 1) := by decide +kernel
theorem dX5_senderOf_24 : decode cX5_senderOf 24 = .ok (.iconst 1, 1) := by decide +kernel
theorem dX5_senderOf_25 : decode cX5_senderOf 25 = .ok (.invokevirtual 192, 3) := by decide +kernel
theorem dX5_senderOf_28 : decode cX5_senderOf 28 = .ok (.ireturn, 1) := by decide +kernel
theorem dX5_isNews_0 : decode cX5_isNews 0 = .ok (.aload_n 0, 1) := by decide +kernel
theorem dX5_isNews_1 : decode cX5_isNews 1 = .ok (.iload_n 1, 1) := by decide +kernel
theorem dX5_isNews_2 : decode cX5_isNews 2 = .ok (.invokevirtual 257, 3) := by decide +kernel
theorem dX5_isNews_5 : decode cX5_isNews 5 = .ok (.ifCond .eq 34, 3) := by decide +kernel
theorem dX5_isNews_8 : decode cX5_isNews 8 = .ok (.aload_n 0, 1) := by decide +kernel
theorem dX5_isNews_9 : decode cX5_isNews 9 = .ok (.iload_n 2, 1) := by decide +kernel
theorem dX5_isNews_10 : decode cX5_isNews 10 = .ok (.invokevirtual 210, 3) := by decide +kernel
theorem dX5_isNews_13 : decode cX5_isNews 13 = .ok (.ifCond .eq 26, 3) := by decide +kernel
theorem dX5_isNews_16 : decode cX5_isNews 16 = .ok (.aload_n 0, 1) := by decide +kernel
theorem dX5_isNews_17 : decode cX5_isNews 17 = .ok (.aload_n 0, 1) := by decide +kernel
theorem dX5_isNews_18 : decode cX5_isNews 18 = .ok (.iconst 4, 1) := by decide +kernel
theorem dX5_isNews_19 : decode cX5_isNews 19 = .ok (.iload_n 1, 1) := by decide +kernel
theorem dX5_isNews_20 : decode cX5_isNews 20 = .ok (.iadd, 1) := by decide +kernel
theorem dX5_isNews_21 : decode cX5_isNews 21 = .ok (.iload_n 2, 1) := by decide +kernel
theorem dX5_isNews_22 : decode cX5_isNews 22 = .ok (.invokevirtual 111, 3) := by decide +kernel
theorem dX5_isNews_25 : decode cX5_isNews 25 = .ok (.ifCond .ne 7, 3) := by decide +kernel
theorem dX5_isNews_28 : decode cX5_isNews 28 = .ok (.iconst 1, 1) := by decide +kernel
theorem dX5_isNews_29 : decode cX5_isNews 29 = .ok (.goto 4, 3) := by decide +kernel
theorem dX5_isNews_32 : decode cX5_isNews 32 = .ok (.iconst 0, 1) := by decide +kernel
theorem dX5_isNews_33 : decode cX5_isNews 33 = .ok (.invokevirtual 216, 3) := by decide +kernel
theorem dX5_isNews_36 : decode cX5_isNews 36 = .ok (.goto 7, 3) := by decide +kernel
theorem dX5_isNews_39 : decode cX5_isNews 39 = .ok (.aload_n 0, 1) := by decide +kernel
theorem dX5_isNews_40 : decode cX5_isNews 40 = .ok (.invokevirtual 220, 3) := by decide +kernel
theorem dX5_isNews_43 : decode cX5_isNews 43 = .ok (.ireturn, 1) := by decide +kernel
theorem dX5_counts_0 : decode cX5_counts 0 = .ok (.aload_n 0, 1) := by decide +kernel
theorem dX5_counts_1 : decode cX5_counts 1 = .ok (.iload_n 1, 1) := by decide +kernel
theorem dX5_counts_2 : decode cX5_counts 2 = .ok (.invokevirtual 210, 3) := by decide +kernel
theorem dX5_counts_5 : decode cX5_counts 5 = .ok (.ifCond .eq 11, 3) := by decide +kernel
theorem dX5_counts_8 : decode cX5_counts 8 = .ok (.aload_n 0, 1) := by decide +kernel
theorem dX5_counts_9 : decode cX5_counts 9 = .ok (.iload_n 2, 1) := by decide +kernel
theorem dX5_counts_10 : decode cX5_counts 10 = .ok (.invokevirtual 224, 3) := by decide +kernel
theorem dX5_counts_13 : decode cX5_counts 13 = .ok (.ifCond .ne 9, 3) := by decide +kernel
theorem dX5_counts_16 : decode cX5_counts 16 = .ok (.aload_n 0, 1) := by decide +kernel
theorem dX5_counts_17 : decode cX5_counts 17 = .ok (.iconst 1, 1) := by decide +kernel
theorem dX5_counts_18 : decode cX5_counts 18 = .ok (.invokevirtual 192, 3) := by decide +kernel
theorem dX5_counts_21 : decode cX5_counts 21 = .ok (.ireturn, 1) := by decide +kernel
theorem dX5_counts_22 : decode cX5_counts 22 = .ok (.iload_n 3, 1) := by decide +kernel
theorem dX5_counts_23 : decode cX5_counts 23 = .ok (.iconst 1, 1) := by decide +kernel
theorem dX5_counts_24 : decode cX5_counts 24 = .ok (.bipush 99, 2) := by decide +kernel
theorem dX5_counts_26 : decode cX5_counts 26 = .ok (.invokestatic 68, 3) := by decide +kernel
theorem dX5_counts_29 : decode cX5_counts 29 = .ok (.ifCond .ne 9, 3) := by decide +kernel
theorem dX5_counts_32 : decode cX5_counts 32 = .ok (.aload_n 0, 1) := by decide +kernel
theorem dX5_counts_33 : decode cX5_counts 33 = .ok (.iconst 2, 1) := by decide +kernel
theorem dX5_counts_34 : decode cX5_counts 34 = .ok (.invokevirtual 192, 3) := by decide +kernel
theorem dX5_counts_37 : decode cX5_counts 37 = .ok (.ireturn, 1) := by decide +kernel
theorem dX5_counts_38 : decode cX5_counts 38 = .ok (.aload_n 0, 1) := by decide +kernel
theorem dX5_counts_39 : decode cX5_counts 39 = .ok (.invokevirtual 260, 3) := by decide +kernel
theorem dX5_counts_42 : decode cX5_counts 42 = .ok (.aload_n 0, 1) := by decide +kernel
theorem dX5_counts_43 : decode cX5_counts 43 = .ok (.getfield 13, 3) := by decide +kernel
theorem dX5_counts_46 : decode cX5_counts 46 = .ok (.iload 4, 2) := by decide +kernel
theorem dX5_counts_48 : decode cX5_counts 48 = .ok (.ifCond .le 12, 3) := by decide +kernel
theorem dX5_counts_51 : decode cX5_counts 51 = .ok (.iload_n 1, 1) := by decide +kernel
theorem dX5_counts_52 : decode cX5_counts 52 = .ok (.iload_n 2, 1) := by decide +kernel
theorem dX5_counts_53 : decode cX5_counts 53 = .ok (.iload_n 1, 1) := by decide +kernel
theorem dX5_counts_54 : decode cX5_counts 54 = .ok (.invokestatic 36, 3) := by decide +kernel
theorem dX5_counts_57 : decode cX5_counts 57 = .ok (.goto 9, 3) := by decide +kernel
theorem dX5_counts_60 : decode cX5_counts 60 = .ok (.iload_n 1, 1) := by decide +kernel
theorem dX5_counts_61 : decode cX5_counts 61 = .ok (.iload_n 2, 1) := by decide +kernel
theorem dX5_counts_62 : decode cX5_counts 62 = .ok (.iload_n 1, 1) := by decide +kernel
theorem dX5_counts_63 : decode cX5_counts 63 = .ok (.invokestatic 40, 3) := by decide +kernel
theorem dX5_counts_66 : decode cX5_counts 66 = .ok (.dup2, 1) := by decide +kernel
theorem dX5_counts_67 : decode cX5_counts 67 = .ok (.iaload, 1) := by decide +kernel
theorem dX5_counts_68 : decode cX5_counts 68 = .ok (.iload_n 3, 1) := by decide +kernel
theorem dX5_counts_69 : decode cX5_counts 69 = .ok (.iadd, 1) := by decide +kernel
theorem dX5_counts_70 : decode cX5_counts 70 = .ok (.iastore, 1) := by decide +kernel
theorem dX5_counts_71 : decode cX5_counts 71 = .ok (.aload_n 0, 1) := by decide +kernel
theorem dX5_counts_72 : decode cX5_counts 72 = .ok (.aload_n 0, 1) := by decide +kernel
theorem dX5_counts_73 : decode cX5_counts 73 = .ok (.iload_n 1, 1) := by decide +kernel
theorem dX5_counts_74 : decode cX5_counts 74 = .ok (.iload_n 2, 1) := by decide +kernel
theorem dX5_counts_75 : decode cX5_counts 75 = .ok (.invokevirtual 227, 3) := by decide +kernel
theorem dX5_counts_78 : decode cX5_counts 78 = .ok (.invokevirtual 198, 3) := by decide +kernel
theorem dX5_counts_81 : decode cX5_counts 81 = .ok (.ireturn, 1) := by decide +kernel
theorem dX5_increment_0 : decode cX5_increment 0 = .ok (.aload_n 0, 1) := by decide +kernel
theorem dX5_increment_1 : decode cX5_increment 1 = .ok (.iload_n 1, 1) := by decide +kernel
theorem dX5_increment_2 : decode cX5_increment 2 = .ok (.iload_n 2, 1) := by decide +kernel
theorem dX5_increment_3 : decode cX5_increment 3 = .ok (.iload_n 3, 1) := by decide +kernel
theorem dX5_increment_4 : decode cX5_increment 4 = .ok (.iconst 1, 1) := by decide +kernel
theorem dX5_increment_5 : decode cX5_increment 5 = .ok (.invokevirtual 263, 3) := by decide +kernel
theorem dX5_increment_8 : decode cX5_increment 8 = .ok (.ireturn, 1) := by decide +kernel
theorem dX5_decrement_0 : decode cX5_decrement 0 = .ok (.aload_n 0, 1) := by decide +kernel
theorem dX5_decrement_1 : decode cX5_decrement 1 = .ok (.iload_n 1, 1) := by decide +kernel
theorem dX5_decrement_2 : decode cX5_decrement 2 = .ok (.iload_n 2, 1) := by decide +kernel
theorem dX5_decrement_3 : decode cX5_decrement 3 = .ok (.iload_n 3, 1) := by decide +kernel
theorem dX5_decrement_4 : decode cX5_decrement 4 = .ok (.iconst (-1), 1) := by decide +kernel
theorem dX5_decrement_5 : decode cX5_decrement 5 = .ok (.invokevirtual 263, 3) := by decide +kernel
theorem dX5_decrement_8 : decode cX5_decrement 8 = .ok (.ireturn, 1) := by decide +kernel
theorem dX5_addTag_0 : decode cX5_addTag 0 = .ok (.aload_n 0, 1) := by decide +kernel
theorem dX5_addTag_1 : decode cX5_addTag 1 = .ok (.iload_n 1, 1) := by decide +kernel
theorem dX5_addTag_2 : decode cX5_addTag 2 = .ok (.invokevirtual 210, 3) := by decide +kernel
theorem dX5_addTag_5 : decode cX5_addTag 5 = .ok (.ifCond .eq 10, 3) := by decide +kernel
theorem dX5_addTag_8 : decode cX5_addTag 8 = .ok (.iload_n 2, 1) := by decide +kernel
theorem dX5_addTag_9 : decode cX5_addTag 9 = .ok (.invokestatic 230, 3) := by decide +kernel
theorem dX5_addTag_12 : decode cX5_addTag 12 = .ok (.ifCond .ne 9, 3) := by decide +kernel
theorem dX5_addTag_15 : decode cX5_addTag 15 = .ok (.aload_n 0, 1) := by decide +kernel
theorem dX5_addTag_16 : decode cX5_addTag 16 = .ok (.iconst 1, 1) := by decide +kernel
theorem dX5_addTag_17 : decode cX5_addTag 17 = .ok (.invokevirtual 192, 3) := by decide +kernel
theorem dX5_addTag_20 : decode cX5_addTag 20 = .ok (.ireturn, 1) := by decide +kernel
theorem dX5_addTag_21 : decode cX5_addTag 21 = .ok (.aload_n 0, 1) := by decide +kernel
theorem dX5_addTag_22 : decode cX5_addTag 22 = .ok (.invokevirtual 260, 3) := by decide +kernel
theorem dX5_addTag_25 : decode cX5_addTag 25 = .ok (.aload_n 0, 1) := by decide +kernel
theorem dX5_addTag_26 : decode cX5_addTag 26 = .ok (.aload_n 0, 1) := by decide +kernel
theorem dX5_addTag_27 : decode cX5_addTag 27 = .ok (.iload_n 1, 1) := by decide +kernel
theorem dX5_addTag_28 : decode cX5_addTag 28 = .ok (.iload_n 2, 1) := by decide +kernel
theorem dX5_addTag_29 : decode cX5_addTag 29 = .ok (.invokevirtual 43, 3) := by decide +kernel
theorem dX5_addTag_32 : decode cX5_addTag 32 = .ok (.invokevirtual 198, 3) := by decide +kernel
theorem dX5_addTag_35 : decode cX5_addTag 35 = .ok (.ireturn, 1) := by decide +kernel
theorem dX5_removeTag_0 : decode cX5_removeTag 0 = .ok (.aload_n 0, 1) := by decide +kernel
theorem dX5_removeTag_1 : decode cX5_removeTag 1 = .ok (.iload_n 1, 1) := by decide +kernel
theorem dX5_removeTag_2 : decode cX5_removeTag 2 = .ok (.invokevirtual 210, 3) := by decide +kernel
theorem dX5_removeTag_5 : decode cX5_removeTag 5 = .ok (.ifCond .eq 10, 3) := by decide +kernel
theorem dX5_removeTag_8 : decode cX5_removeTag 8 = .ok (.iload_n 2, 1) := by decide +kernel
theorem dX5_removeTag_9 : decode cX5_removeTag 9 = .ok (.invokestatic 230, 3) := by decide +kernel
theorem dX5_removeTag_12 : decode cX5_removeTag 12 = .ok (.ifCond .ne 9, 3) := by decide +kernel
theorem dX5_removeTag_15 : decode cX5_removeTag 15 = .ok (.aload_n 0, 1) := by decide +kernel
theorem dX5_removeTag_16 : decode cX5_removeTag 16 = .ok (.iconst 1, 1) := by decide +kernel
theorem dX5_removeTag_17 : decode cX5_removeTag 17 = .ok (.invokevirtual 192, 3) := by decide +kernel
theorem dX5_removeTag_20 : decode cX5_removeTag 20 = .ok (.ireturn, 1) := by decide +kernel
theorem dX5_removeTag_21 : decode cX5_removeTag 21 = .ok (.aload_n 0, 1) := by decide +kernel
theorem dX5_removeTag_22 : decode cX5_removeTag 22 = .ok (.iload_n 1, 1) := by decide +kernel
theorem dX5_removeTag_23 : decode cX5_removeTag 23 = .ok (.iload_n 2, 1) := by decide +kernel
theorem dX5_removeTag_24 : decode cX5_removeTag 24 = .ok (.invokevirtual 78, 3) := by decide +kernel
theorem dX5_removeTag_27 : decode cX5_removeTag 27 = .ok (.ifCond .ne 9, 3) := by decide +kernel
theorem dX5_removeTag_30 : decode cX5_removeTag 30 = .ok (.aload_n 0, 1) := by decide +kernel
theorem dX5_removeTag_31 : decode cX5_removeTag 31 = .ok (.iconst 2, 1) := by decide +kernel
theorem dX5_removeTag_32 : decode cX5_removeTag 32 = .ok (.invokevirtual 192, 3) := by decide +kernel
theorem dX5_removeTag_35 : decode cX5_removeTag 35 = .ok (.ireturn, 1) := by decide +kernel
theorem dX5_removeTag_36 : decode cX5_removeTag 36 = .ok (.aload_n 0, 1) := by decide +kernel
theorem dX5_removeTag_37 : decode cX5_removeTag 37 = .ok (.invokevirtual 260, 3) := by decide +kernel
theorem dX5_removeTag_40 : decode cX5_removeTag 40 = .ok (.aload_n 0, 1) := by decide +kernel
theorem dX5_removeTag_41 : decode cX5_removeTag 41 = .ok (.aload_n 0, 1) := by decide +kernel
theorem dX5_removeTag_42 : decode cX5_removeTag 42 = .ok (.iload_n 1, 1) := by decide +kernel
theorem dX5_removeTag_43 : decode cX5_removeTag 43 = .ok (.iload_n 2, 1) := by decide +kernel
theorem dX5_removeTag_44 : decode cX5_removeTag 44 = .ok (.invokevirtual 55, 3) := by decide +kernel
theorem dX5_removeTag_47 : decode cX5_removeTag 47 = .ok (.invokevirtual 198, 3) := by decide +kernel
theorem dX5_removeTag_50 : decode cX5_removeTag 50 = .ok (.ireturn, 1) := by decide +kernel
theorem dX5_write_0 : decode cX5_write 0 = .ok (.aload_n 0, 1) := by decide +kernel
theorem dX5_write_1 : decode cX5_write 1 = .ok (.iload_n 1, 1) := by decide +kernel
theorem dX5_write_2 : decode cX5_write 2 = .ok (.invokevirtual 210, 3) := by decide +kernel
theorem dX5_write_5 : decode cX5_write 5 = .ok (.ifCond .eq 11, 3) := by decide +kernel
theorem dX5_write_8 : decode cX5_write 8 = .ok (.aload_n 0, 1) := by decide +kernel
theorem dX5_write_9 : decode cX5_write 9 = .ok (.iload_n 2, 1) := by decide +kernel
theorem dX5_write_10 : decode cX5_write 10 = .ok (.invokevirtual 236, 3) := by decide +kernel
theorem dX5_write_13 : decode cX5_write 13 = .ok (.ifCond .ne 9, 3) := by decide +kernel
theorem dX5_write_16 : decode cX5_write 16 = .ok (.aload_n 0, 1) := by decide +kernel
theorem dX5_write_17 : decode cX5_write 17 = .ok (.iconst 1, 1) := by decide +kernel
theorem dX5_write_18 : decode cX5_write 18 = .ok (.invokevirtual 192, 3) := by decide +kernel
theorem dX5_write_21 : decode cX5_write 21 = .ok (.ireturn, 1) := by decide +kernel
theorem dX5_write_22 : decode cX5_write 22 = .ok (.iload_n 3, 1) := by decide +kernel
theorem dX5_write_23 : decode cX5_write 23 = .ok (.iconst 0, 1) := by decide +kernel
theorem dX5_write_24 : decode cX5_write 24 = .ok (.bipush 99, 2) := by decide +kernel
theorem dX5_write_26 : decode cX5_write 26 = .ok (.invokestatic 68, 3) := by decide +kernel
theorem dX5_write_29 : decode cX5_write 29 = .ok (.ifCond .ne 9, 3) := by decide +kernel
theorem dX5_write_32 : decode cX5_write 32 = .ok (.aload_n 0, 1) := by decide +kernel
theorem dX5_write_33 : decode cX5_write 33 = .ok (.iconst 2, 1) := by decide +kernel
theorem dX5_write_34 : decode cX5_write 34 = .ok (.invokevirtual 192, 3) := by decide +kernel
theorem dX5_write_37 : decode cX5_write 37 = .ok (.ireturn, 1) := by decide +kernel
theorem dX5_write_38 : decode cX5_write 38 = .ok (.aload_n 0, 1) := by decide +kernel
theorem dX5_write_39 : decode cX5_write 39 = .ok (.invokevirtual 260, 3) := by decide +kernel
theorem dX5_write_42 : decode cX5_write 42 = .ok (.aload_n 0, 1) := by decide +kernel
theorem dX5_write_43 : decode cX5_write 43 = .ok (.aload_n 0, 1) := by decide +kernel
theorem dX5_write_44 : decode cX5_write 44 = .ok (.iload_n 1, 1) := by decide +kernel
theorem dX5_write_45 : decode cX5_write 45 = .ok (.iload_n 2, 1) := by decide +kernel
theorem dX5_write_46 : decode cX5_write 46 = .ok (.iload_n 3, 1) := by decide +kernel
theorem dX5_write_47 : decode cX5_write 47 = .ok (.invokevirtual 58, 3) := by decide +kernel
theorem dX5_write_50 : decode cX5_write 50 = .ok (.invokevirtual 198, 3) := by decide +kernel
theorem dX5_write_53 : decode cX5_write 53 = .ok (.ireturn, 1) := by decide +kernel
theorem dX5_merge_0 : decode cX5_merge 0 = .ok (.aload_n 0, 1) := by decide +kernel
theorem dX5_merge_1 : decode cX5_merge 1 = .ok (.iload_n 1, 1) := by decide +kernel
theorem dX5_merge_2 : decode cX5_merge 2 = .ok (.iload_n 2, 1) := by decide +kernel
theorem dX5_merge_3 : decode cX5_merge 3 = .ok (.invokevirtual 213, 3) := by decide +kernel
theorem dX5_merge_6 : decode cX5_merge 6 = .ok (.ifCond .ne 8, 3) := by decide +kernel
theorem dX5_merge_9 : decode cX5_merge 9 = .ok (.aload_n 0, 1) := by decide +kernel
theorem dX5_merge_10 : decode cX5_merge 10 = .ok (.invokevirtual 220, 3) := by decide +kernel
theorem dX5_merge_13 : decode cX5_merge 13 = .ok (.ireturn, 1) := by decide +kernel
theorem dX5_merge_14 : decode cX5_merge 14 = .ok (.aload_n 0, 1) := by decide +kernel
theorem dX5_merge_15 : decode cX5_merge 15 = .ok (.invokevirtual 260, 3) := by decide +kernel
theorem dX5_merge_18 : decode cX5_merge 18 = .ok (.aload_n 0, 1) := by decide +kernel
theorem dX5_merge_19 : decode cX5_merge 19 = .ok (.aload_n 0, 1) := by decide +kernel
theorem dX5_merge_20 : decode cX5_merge 20 = .ok (.iload_n 1, 1) := by decide +kernel
theorem dX5_merge_21 : decode cX5_merge 21 = .ok (.iload_n 2, 1) := by decide +kernel
theorem dX5_merge_22 : decode cX5_merge 22 = .ok (.invokevirtual 267, 3) := by decide +kernel
theorem dX5_merge_25 : decode cX5_merge 25 = .ok (.invokevirtual 216, 3) := by decide +kernel
theorem dX5_merge_28 : decode cX5_merge 28 = .ok (.ireturn, 1) := by decide +kernel
theorem dX5_mergeAll_0 : decode cX5_mergeAll 0 = .ok (.aload_n 0, 1) := by decide +kernel
theorem dX5_mergeAll_1 : decode cX5_mergeAll 1 = .ok (.invokevirtual 260, 3) := by decide +kernel
theorem dX5_mergeAll_4 : decode cX5_mergeAll 4 = .ok (.aload_n 0, 1) := by decide +kernel
theorem dX5_mergeAll_5 : decode cX5_mergeAll 5 = .ok (.invokevirtual 251, 3) := by decide +kernel
theorem dX5_mergeAll_8 : decode cX5_mergeAll 8 = .ok (.iconst 0, 1) := by decide +kernel
theorem dX5_mergeAll_9 : decode cX5_mergeAll 9 = .ok (.istore_n 1, 1) := by decide +kernel
theorem dX5_mergeAll_10 : decode cX5_mergeAll 10 = .ok (.iconst 0, 1) := by decide +kernel
theorem dX5_mergeAll_11 : decode cX5_mergeAll 11 = .ok (.istore_n 2, 1) := by decide +kernel
theorem dX5_mergeAll_12 : decode cX5_mergeAll 12 = .ok (.iload_n 2, 1) := by decide +kernel
theorem dX5_mergeAll_13 : decode cX5_mergeAll 13 = .ok (.aload_n 0, 1) := by decide +kernel
theorem dX5_mergeAll_14 : decode cX5_mergeAll 14 = .ok (.getfield 13, 3) := by decide +kernel
theorem dX5_mergeAll_17 : decode cX5_mergeAll 17 = .ok (.iconst 0, 1) := by decide +kernel
theorem dX5_mergeAll_18 : decode cX5_mergeAll 18 = .ok (.iaload, 1) := by decide +kernel
theorem dX5_mergeAll_19 : decode cX5_mergeAll 19 = .ok (.if_icmp .ge 34, 3) := by decide +kernel
theorem dX5_mergeAll_22 : decode cX5_mergeAll 22 = .ok (.iload_n 1, 1) := by decide +kernel
theorem dX5_mergeAll_23 : decode cX5_mergeAll 23 = .ok (.aload_n 0, 1) := by decide +kernel
theorem dX5_mergeAll_24 : decode cX5_mergeAll 24 = .ok (.iload_n 2, 1) := by decide +kernel
theorem dX5_mergeAll_25 : decode cX5_mergeAll 25 = .ok (.bipush 10, 2) := by decide +kernel
theorem dX5_mergeAll_27 : decode cX5_mergeAll 27 = .ok (.invokevirtual 107, 3) := by decide +kernel
theorem dX5_mergeAll_30 : decode cX5_mergeAll 30 = .ok (.ifCond .eq 7, 3) := by decide +kernel
theorem dX5_mergeAll_33 : decode cX5_mergeAll 33 = .ok (.iconst 0, 1) := by decide +kernel
theorem dX5_mergeAll_34 : decode cX5_mergeAll 34 = .ok (.goto 4, 3) := by decide +kernel
theorem dX5_mergeAll_37 : decode cX5_mergeAll 37 = .ok (.iconst 1, 1) := by decide +kernel
theorem dX5_mergeAll_38 : decode cX5_mergeAll 38 = .ok (.iadd, 1) := by decide +kernel
theorem dX5_mergeAll_39 : decode cX5_mergeAll 39 = .ok (.istore_n 1, 1) := by decide +kernel
theorem dX5_mergeAll_40 : decode cX5_mergeAll 40 = .ok (.aload_n 0, 1) := by decide +kernel
theorem dX5_mergeAll_41 : decode cX5_mergeAll 41 = .ok (.iload_n 2, 1) := by decide +kernel
theorem dX5_mergeAll_42 : decode cX5_mergeAll 42 = .ok (.bipush 10, 2) := by decide +kernel
theorem dX5_mergeAll_44 : decode cX5_mergeAll 44 = .ok (.invokevirtual 104, 3) := by decide +kernel
theorem dX5_mergeAll_47 : decode cX5_mergeAll 47 = .ok (.iinc 2 1, 3) := by decide +kernel
theorem dX5_mergeAll_50 : decode cX5_mergeAll 50 = .ok (.goto (-38), 3) := by decide +kernel
theorem dX5_mergeAll_53 : decode cX5_mergeAll 53 = .ok (.aload_n 0, 1) := by decide +kernel
theorem dX5_mergeAll_54 : decode cX5_mergeAll 54 = .ok (.iload_n 1, 1) := by decide +kernel
theorem dX5_mergeAll_55 : decode cX5_mergeAll 55 = .ok (.invokevirtual 198, 3) := by decide +kernel
theorem dX5_mergeAll_58 : decode cX5_mergeAll 58 = .ok (.ireturn, 1) := by decide +kernel
theorem dX5_send_0 : decode cX5_send 0 = .ok (.aload_n 0, 1) := by decide +kernel
theorem dX5_send_1 : decode cX5_send 1 = .ok (.iload_n 1, 1) := by decide +kernel
theorem dX5_send_2 : decode cX5_send 2 = .ok (.invokevirtual 210, 3) := by decide +kernel
theorem dX5_send_5 : decode cX5_send 5 = .ok (.ifCond .ne 9, 3) := by decide +kernel
theorem dX5_send_8 : decode cX5_send 8 = .ok (.aload_n 0, 1) := by decide +kernel
theorem dX5_send_9 : decode cX5_send 9 = .ok (.iconst 1, 1) := by decide +kernel
theorem dX5_send_10 : decode cX5_send 10 = .ok (.invokevirtual 192, 3) := by decide +kernel
theorem dX5_send_13 : decode cX5_send 13 = .ok (.ireturn, 1) := by decide +kernel
theorem dX5_send_14 : decode cX5_send 14 = .ok (.aload_n 0, 1) := by decide +kernel
theorem dX5_send_15 : decode cX5_send 15 = .ok (.getfield 13, 3) := by decide +kernel
theorem dX5_send_18 : decode cX5_send 18 = .ok (.iconst 3, 1) := by decide +kernel
theorem dX5_send_19 : decode cX5_send 19 = .ok (.iaload, 1) := by decide +kernel
theorem dX5_send_20 : decode cX5_send 20 = .ok (.bipush 6, 2) := by decide +kernel
theorem dX5_send_22 : decode cX5_send 22 = .ok (.if_icmp .ne 9, 3) := by decide +kernel
theorem dX5_send_25 : decode cX5_send 25 = .ok (.aload_n 0, 1) := by decide +kernel
theorem dX5_send_26 : decode cX5_send 26 = .ok (.iconst 2, 1) := by decide +kernel
theorem dX5_send_27 : decode cX5_send 27 = .ok (.invokevirtual 192, 3) := by decide +kernel
theorem dX5_send_30 : decode cX5_send 30 = .ok (.ireturn, 1) := by decide +kernel
theorem dX5_send_31 : decode cX5_send 31 = .ok (.aload_n 0, 1) := by decide +kernel
theorem dX5_send_32 : decode cX5_send 32 = .ok (.invokevirtual 260, 3) := by decide +kernel
theorem dX5_send_35 : decode cX5_send 35 = .ok (.aload_n 0, 1) := by decide +kernel
theorem dX5_send_36 : decode cX5_send 36 = .ok (.iload_n 1, 1) := by decide +kernel
theorem dX5_send_37 : decode cX5_send 37 = .ok (.invokevirtual 47, 3) := by decide +kernel
theorem dX5_send_40 : decode cX5_send 40 = .ok (.aload_n 0, 1) := by decide +kernel
theorem dX5_send_41 : decode cX5_send 41 = .ok (.aload_n 0, 1) := by decide +kernel
theorem dX5_send_42 : decode cX5_send 42 = .ok (.getfield 13, 3) := by decide +kernel
theorem dX5_send_45 : decode cX5_send 45 = .ok (.iconst 3, 1) := by decide +kernel
theorem dX5_send_46 : decode cX5_send 46 = .ok (.iaload, 1) := by decide +kernel
theorem dX5_send_47 : decode cX5_send 47 = .ok (.iconst 1, 1) := by decide +kernel
theorem dX5_send_48 : decode cX5_send 48 = .ok (.isub, 1) := by decide +kernel
theorem dX5_send_49 : decode cX5_send 49 = .ok (.invokevirtual 198, 3) := by decide +kernel
theorem dX5_send_52 : decode cX5_send 52 = .ok (.ireturn, 1) := by decide +kernel
theorem dX5_deliver_0 : decode cX5_deliver 0 = .ok (.aload_n 0, 1) := by decide +kernel
theorem dX5_deliver_1 : decode cX5_deliver 1 = .ok (.iload_n 1, 1) := by decide +kernel
theorem dX5_deliver_2 : decode cX5_deliver 2 = .ok (.invokevirtual 257, 3) := by decide +kernel
theorem dX5_deliver_5 : decode cX5_deliver 5 = .ok (.ifCond .eq 11, 3) := by decide +kernel
theorem dX5_deliver_8 : decode cX5_deliver 8 = .ok (.aload_n 0, 1) := by decide +kernel
theorem dX5_deliver_9 : decode cX5_deliver 9 = .ok (.iload_n 2, 1) := by decide +kernel
theorem dX5_deliver_10 : decode cX5_deliver 10 = .ok (.invokevirtual 210, 3) := by decide +kernel
theorem dX5_deliver_13 : decode cX5_deliver 13 = .ok (.ifCond .ne 8, 3) := by decide +kernel
theorem dX5_deliver_16 : decode cX5_deliver 16 = .ok (.aload_n 0, 1) := by decide +kernel
theorem dX5_deliver_17 : decode cX5_deliver 17 = .ok (.invokevirtual 220, 3) := by decide +kernel
theorem dX5_deliver_20 : decode cX5_deliver 20 = .ok (.ireturn, 1) := by decide +kernel
theorem dX5_deliver_21 : decode cX5_deliver 21 = .ok (.aload_n 0, 1) := by decide +kernel
theorem dX5_deliver_22 : decode cX5_deliver 22 = .ok (.invokevirtual 260, 3) := by decide +kernel
theorem dX5_deliver_25 : decode cX5_deliver 25 = .ok (.aload_n 0, 1) := by decide +kernel
theorem dX5_deliver_26 : decode cX5_deliver 26 = .ok (.aload_n 0, 1) := by decide +kernel
theorem dX5_deliver_27 : decode cX5_deliver 27 = .ok (.iload_n 2, 1) := by decide +kernel
theorem dX5_deliver_28 : decode cX5_deliver 28 = .ok (.iconst 4, 1) := by decide +kernel
theorem dX5_deliver_29 : decode cX5_deliver 29 = .ok (.iload_n 1, 1) := by decide +kernel
theorem dX5_deliver_30 : decode cX5_deliver 30 = .ok (.iadd, 1) := by decide +kernel
theorem dX5_deliver_31 : decode cX5_deliver 31 = .ok (.invokevirtual 267, 3) := by decide +kernel
theorem dX5_deliver_34 : decode cX5_deliver 34 = .ok (.invokevirtual 216, 3) := by decide +kernel
theorem dX5_deliver_37 : decode cX5_deliver 37 = .ok (.ireturn, 1) := by decide +kernel
theorem dX5_drop_0 : decode cX5_drop 0 = .ok (.aload_n 0, 1) := by decide +kernel
theorem dX5_drop_1 : decode cX5_drop 1 = .ok (.iload_n 1, 1) := by decide +kernel
theorem dX5_drop_2 : decode cX5_drop 2 = .ok (.invokevirtual 257, 3) := by decide +kernel
theorem dX5_drop_5 : decode cX5_drop 5 = .ok (.ifCond .ne 9, 3) := by decide +kernel
theorem dX5_drop_8 : decode cX5_drop 8 = .ok (.aload_n 0, 1) := by decide +kernel
theorem dX5_drop_9 : decode cX5_drop 9 = .ok (.iconst 1, 1) := by decide +kernel
theorem dX5_drop_10 : decode cX5_drop 10 = .ok (.invokevirtual 192, 3) := by decide +kernel
theorem dX5_drop_13 : decode cX5_drop 13 = .ok (.ireturn, 1) := by decide +kernel
theorem dX5_drop_14 : decode cX5_drop 14 = .ok (.aload_n 0, 1) := by decide +kernel
theorem dX5_drop_15 : decode cX5_drop 15 = .ok (.invokevirtual 260, 3) := by decide +kernel
theorem dX5_drop_18 : decode cX5_drop 18 = .ok (.aload_n 0, 1) := by decide +kernel
theorem dX5_drop_19 : decode cX5_drop 19 = .ok (.getfield 13, 3) := by decide +kernel
theorem dX5_drop_22 : decode cX5_drop 22 = .ok (.iconst 3, 1) := by decide +kernel
theorem dX5_drop_23 : decode cX5_drop 23 = .ok (.dup2, 1) := by decide +kernel
theorem dX5_drop_24 : decode cX5_drop 24 = .ok (.iaload, 1) := by decide +kernel
theorem dX5_drop_25 : decode cX5_drop 25 = .ok (.iconst 1, 1) := by decide +kernel
theorem dX5_drop_26 : decode cX5_drop 26 = .ok (.isub, 1) := by decide +kernel
theorem dX5_drop_27 : decode cX5_drop 27 = .ok (.iastore, 1) := by decide +kernel
theorem dX5_drop_28 : decode cX5_drop 28 = .ok (.iload_n 1, 1) := by decide +kernel
theorem dX5_drop_29 : decode cX5_drop 29 = .ok (.istore_n 2, 1) := by decide +kernel
theorem dX5_drop_30 : decode cX5_drop 30 = .ok (.iload_n 2, 1) := by decide +kernel
theorem dX5_drop_31 : decode cX5_drop 31 = .ok (.aload_n 0, 1) := by decide +kernel
theorem dX5_drop_32 : decode cX5_drop 32 = .ok (.getfield 13, 3) := by decide +kernel
theorem dX5_drop_35 : decode cX5_drop 35 = .ok (.iconst 3, 1) := by decide +kernel
theorem dX5_drop_36 : decode cX5_drop 36 = .ok (.iaload, 1) := by decide +kernel
theorem dX5_drop_37 : decode cX5_drop 37 = .ok (.if_icmp .ge 39, 3) := by decide +kernel
theorem dX5_drop_40 : decode cX5_drop 40 = .ok (.aload_n 0, 1) := by decide +kernel
theorem dX5_drop_41 : decode cX5_drop 41 = .ok (.getfield 13, 3) := by decide +kernel
theorem dX5_drop_44 : decode cX5_drop 44 = .ok (.iconst 4, 1) := by decide +kernel
theorem dX5_drop_45 : decode cX5_drop 45 = .ok (.iload_n 2, 1) := by decide +kernel
theorem dX5_drop_46 : decode cX5_drop 46 = .ok (.iadd, 1) := by decide +kernel
theorem dX5_drop_47 : decode cX5_drop 47 = .ok (.aload_n 0, 1) := by decide +kernel
theorem dX5_drop_48 : decode cX5_drop 48 = .ok (.getfield 13, 3) := by decide +kernel
theorem dX5_drop_51 : decode cX5_drop 51 = .ok (.iconst 4, 1) := by decide +kernel
theorem dX5_drop_52 : decode cX5_drop 52 = .ok (.iload_n 2, 1) := by decide +kernel
theorem dX5_drop_53 : decode cX5_drop 53 = .ok (.iadd, 1) := by decide +kernel
theorem dX5_drop_54 : decode cX5_drop 54 = .ok (.iconst 1, 1) := by decide +kernel
theorem dX5_drop_55 : decode cX5_drop 55 = .ok (.iadd, 1) := by decide +kernel
theorem dX5_drop_56 : decode cX5_drop 56 = .ok (.iaload, 1) := by decide +kernel
theorem dX5_drop_57 : decode cX5_drop 57 = .ok (.iastore, 1) := by decide +kernel
theorem dX5_drop_58 : decode cX5_drop 58 = .ok (.aload_n 0, 1) := by decide +kernel
theorem dX5_drop_59 : decode cX5_drop 59 = .ok (.iconst 4, 1) := by decide +kernel
theorem dX5_drop_60 : decode cX5_drop 60 = .ok (.iload_n 2, 1) := by decide +kernel
theorem dX5_drop_61 : decode cX5_drop 61 = .ok (.iadd, 1) := by decide +kernel
theorem dX5_drop_62 : decode cX5_drop 62 = .ok (.iconst 4, 1) := by decide +kernel
theorem dX5_drop_63 : decode cX5_drop 63 = .ok (.iload_n 2, 1) := by decide +kernel
theorem dX5_drop_64 : decode cX5_drop 64 = .ok (.iadd, 1) := by decide +kernel
theorem dX5_drop_65 : decode cX5_drop 65 = .ok (.iconst 1, 1) := by decide +kernel
theorem dX5_drop_66 : decode cX5_drop 66 = .ok (.iadd, 1) := by decide +kernel
theorem dX5_drop_67 : decode cX5_drop 67 = .ok (.invokevirtual 104, 3) := by decide +kernel
theorem dX5_drop_70 : decode cX5_drop 70 = .ok (.iinc 2 1, 3) := by decide +kernel
theorem dX5_drop_73 : decode cX5_drop 73 = .ok (.goto (-43), 3) := by decide +kernel
theorem dX5_drop_76 : decode cX5_drop 76 = .ok (.aload_n 0, 1) := by decide +kernel
theorem dX5_drop_77 : decode cX5_drop 77 = .ok (.aload_n 0, 1) := by decide +kernel
theorem dX5_drop_78 : decode cX5_drop 78 = .ok (.getfield 13, 3) := by decide +kernel
theorem dX5_drop_81 : decode cX5_drop 81 = .ok (.iconst 3, 1) := by decide +kernel
theorem dX5_drop_82 : decode cX5_drop 82 = .ok (.iaload, 1) := by decide +kernel
theorem dX5_drop_83 : decode cX5_drop 83 = .ok (.invokevirtual 198, 3) := by decide +kernel
theorem dX5_drop_86 : decode cX5_drop 86 = .ok (.ireturn, 1) := by decide +kernel
theorem dX5_restore_0 : decode cX5_restore 0 = .ok (.iload_n 1, 1) := by decide +kernel
theorem dX5_restore_1 : decode cX5_restore 1 = .ok (.iconst 0, 1) := by decide +kernel
theorem dX5_restore_2 : decode cX5_restore 2 = .ok (.iconst 1, 1) := by decide +kernel
theorem dX5_restore_3 : decode cX5_restore 3 = .ok (.invokestatic 68, 3) := by decide +kernel
theorem dX5_restore_6 : decode cX5_restore 6 = .ok (.ifCond .ne 9, 3) := by decide +kernel
theorem dX5_restore_9 : decode cX5_restore 9 = .ok (.aload_n 0, 1) := by decide +kernel
theorem dX5_restore_10 : decode cX5_restore 10 = .ok (.iconst 1, 1) := by decide +kernel
theorem dX5_restore_11 : decode cX5_restore 11 = .ok (.invokevirtual 192, 3) := by decide +kernel
theorem dX5_restore_14 : decode cX5_restore 14 = .ok (.ireturn, 1) := by decide +kernel
theorem dX5_restore_15 : decode cX5_restore 15 = .ok (.aload_n 0, 1) := by decide +kernel
theorem dX5_restore_16 : decode cX5_restore 16 = .ok (.getfield 207, 3) := by decide +kernel
theorem dX5_restore_19 : decode cX5_restore 19 = .ok (.iload_n 1, 1) := by decide +kernel
theorem dX5_restore_20 : decode cX5_restore 20 = .ok (.ishr, 1) := by decide +kernel
theorem dX5_restore_21 : decode cX5_restore 21 = .ok (.iconst 1, 1) := by decide +kernel
theorem dX5_restore_22 : decode cX5_restore 22 = .ok (.iand, 1) := by decide +kernel
theorem dX5_restore_23 : decode cX5_restore 23 = .ok (.ifCond .ne 9, 3) := by decide +kernel
theorem dX5_restore_26 : decode cX5_restore 26 = .ok (.aload_n 0, 1) := by decide +kernel
theorem dX5_restore_27 : decode cX5_restore 27 = .ok (.iconst 2, 1) := by decide +kernel
theorem dX5_restore_28 : decode cX5_restore 28 = .ok (.invokevirtual 192, 3) := by decide +kernel
theorem dX5_restore_31 : decode cX5_restore 31 = .ok (.ireturn, 1) := by decide +kernel
theorem dX5_restore_32 : decode cX5_restore 32 = .ok (.aload_n 0, 1) := by decide +kernel
theorem dX5_restore_33 : decode cX5_restore 33 = .ok (.invokevirtual 260, 3) := by decide +kernel
theorem dX5_restore_36 : decode cX5_restore 36 = .ok (.iconst 0, 1) := by decide +kernel
theorem dX5_restore_37 : decode cX5_restore 37 = .ok (.istore_n 2, 1) := by decide +kernel
theorem dX5_restore_38 : decode cX5_restore 38 = .ok (.iload_n 2, 1) := by decide +kernel
theorem dX5_restore_39 : decode cX5_restore 39 = .ok (.sipush 1330, 3) := by decide +kernel
theorem dX5_restore_42 : decode cX5_restore 42 = .ok (.if_icmp .ge 27, 3) := by decide +kernel
theorem dX5_restore_45 : decode cX5_restore 45 = .ok (.aload_n 0, 1) := by decide +kernel
theorem dX5_restore_46 : decode cX5_restore 46 = .ok (.getfield 13, 3) := by decide +kernel
theorem dX5_restore_49 : decode cX5_restore 49 = .ok (.iload_n 2, 1) := by decide +kernel
theorem dX5_restore_50 : decode cX5_restore 50 = .ok (.aload_n 0, 1) := by decide +kernel
theorem dX5_restore_51 : decode cX5_restore 51 = .ok (.getfield 22, 3) := by decide +kernel
theorem dX5_restore_54 : decode cX5_restore 54 = .ok (.iload_n 1, 1) := by decide +kernel
theorem dX5_restore_55 : decode cX5_restore 55 = .ok (.sipush 1330, 3) := by decide +kernel
theorem dX5_restore_58 : decode cX5_restore 58 = .ok (.imul, 1) := by decide +kernel
theorem dX5_restore_59 : decode cX5_restore 59 = .ok (.iload_n 2, 1) := by decide +kernel
theorem dX5_restore_60 : decode cX5_restore 60 = .ok (.iadd, 1) := by decide +kernel
theorem dX5_restore_61 : decode cX5_restore 61 = .ok (.iaload, 1) := by decide +kernel
theorem dX5_restore_62 : decode cX5_restore 62 = .ok (.iastore, 1) := by decide +kernel
theorem dX5_restore_63 : decode cX5_restore 63 = .ok (.iinc 2 1, 3) := by decide +kernel
theorem dX5_restore_66 : decode cX5_restore 66 = .ok (.goto (-28), 3) := by decide +kernel
theorem dX5_restore_69 : decode cX5_restore 69 = .ok (.aload_n 0, 1) := by decide +kernel
theorem dX5_restore_70 : decode cX5_restore 70 = .ok (.aload_n 0, 1) := by decide +kernel
theorem dX5_restore_71 : decode cX5_restore 71 = .ok (.getfield 13, 3) := by decide +kernel
theorem dX5_restore_74 : decode cX5_restore 74 = .ok (.iconst 3, 1) := by decide +kernel
theorem dX5_restore_75 : decode cX5_restore 75 = .ok (.iaload, 1) := by decide +kernel
theorem dX5_restore_76 : decode cX5_restore 76 = .ok (.invokevirtual 198, 3) := by decide +kernel
theorem dX5_restore_79 : decode cX5_restore 79 = .ok (.ireturn, 1) := by decide +kernel
theorem dX5_undo_0 : decode cX5_undo 0 = .ok (.aload_n 0, 1) := by decide +kernel
theorem dX5_undo_1 : decode cX5_undo 1 = .ok (.getfield 114, 3) := by decide +kernel
theorem dX5_undo_4 : decode cX5_undo 4 = .ok (.ifCond .ne 9, 3) := by decide +kernel
theorem dX5_undo_7 : decode cX5_undo 7 = .ok (.aload_n 0, 1) := by decide +kernel
theorem dX5_undo_8 : decode cX5_undo 8 = .ok (.iconst 1, 1) := by decide +kernel
theorem dX5_undo_9 : decode cX5_undo 9 = .ok (.invokevirtual 192, 3) := by decide +kernel
theorem dX5_undo_12 : decode cX5_undo 12 = .ok (.ireturn, 1) := by decide +kernel
theorem dX5_undo_13 : decode cX5_undo 13 = .ok (.aload_n 0, 1) := by decide +kernel
theorem dX5_undo_14 : decode cX5_undo 14 = .ok (.dup, 1) := by decide +kernel
theorem dX5_undo_15 : decode cX5_undo 15 = .ok (.getfield 114, 3) := by decide +kernel
theorem dX5_undo_18 : decode cX5_undo 18 = .ok (.iconst 1, 1) := by decide +kernel
theorem dX5_undo_19 : decode cX5_undo 19 = .ok (.isub, 1) := by decide +kernel
theorem dX5_undo_20 : decode cX5_undo 20 = .ok (.putfield 114, 3) := by decide +kernel
theorem dX5_undo_23 : decode cX5_undo 23 = .ok (.iconst 0, 1) := by decide +kernel
theorem dX5_undo_24 : decode cX5_undo 24 = .ok (.istore_n 1, 1) := by decide +kernel
theorem dX5_undo_25 : decode cX5_undo 25 = .ok (.iload_n 1, 1) := by decide +kernel
theorem dX5_undo_26 : decode cX5_undo 26 = .ok (.sipush 1330, 3) := by decide +kernel
theorem dX5_undo_29 : decode cX5_undo 29 = .ok (.if_icmp .ge 30, 3) := by decide +kernel
theorem dX5_undo_32 : decode cX5_undo 32 = .ok (.aload_n 0, 1) := by decide +kernel
theorem dX5_undo_33 : decode cX5_undo 33 = .ok (.getfield 13, 3) := by decide +kernel
theorem dX5_undo_36 : decode cX5_undo 36 = .ok (.iload_n 1, 1) := by decide +kernel
theorem dX5_undo_37 : decode cX5_undo 37 = .ok (.aload_n 0, 1) := by decide +kernel
theorem dX5_undo_38 : decode cX5_undo 38 = .ok (.getfield 19, 3) := by decide +kernel
theorem dX5_undo_41 : decode cX5_undo 41 = .ok (.aload_n 0, 1) := by decide +kernel
theorem dX5_undo_42 : decode cX5_undo 42 = .ok (.getfield 114, 3) := by decide +kernel
theorem dX5_undo_45 : decode cX5_undo 45 = .ok (.sipush 1330, 3) := by decide +kernel
theorem dX5_undo_48 : decode cX5_undo 48 = .ok (.imul, 1) := by decide +kernel
theorem dX5_undo_49 : decode cX5_undo 49 = .ok (.iload_n 1, 1) := by decide +kernel
theorem dX5_undo_50 : decode cX5_undo 50 = .ok (.iadd, 1) := by decide +kernel
theorem dX5_undo_51 : decode cX5_undo 51 = .ok (.iaload, 1) := by decide +kernel
theorem dX5_undo_52 : decode cX5_undo 52 = .ok (.iastore, 1) := by decide +kernel
theorem dX5_undo_53 : decode cX5_undo 53 = .ok (.iinc 1 1, 3) := by decide +kernel
theorem dX5_undo_56 : decode cX5_undo 56 = .ok (.goto (-31), 3) := by decide +kernel
theorem dX5_undo_59 : decode cX5_undo 59 = .ok (.aload_n 0, 1) := by decide +kernel
theorem dX5_undo_60 : decode cX5_undo 60 = .ok (.aload_n 0, 1) := by decide +kernel
theorem dX5_undo_61 : decode cX5_undo 61 = .ok (.getfield 114, 3) := by decide +kernel
theorem dX5_undo_64 : decode cX5_undo 64 = .ok (.invokevirtual 198, 3) := by decide +kernel
theorem dX5_undo_67 : decode cX5_undo 67 = .ok (.ireturn, 1) := by decide +kernel
theorem dX5_save_0 : decode cX5_save 0 = .ok (.iload_n 1, 1) := by decide +kernel
theorem dX5_save_1 : decode cX5_save 1 = .ok (.iconst 0, 1) := by decide +kernel
theorem dX5_save_2 : decode cX5_save 2 = .ok (.iconst 1, 1) := by decide +kernel
theorem dX5_save_3 : decode cX5_save 3 = .ok (.invokestatic 68, 3) := by decide +kernel
theorem dX5_save_6 : decode cX5_save 6 = .ok (.ifCond .ne 9, 3) := by decide +kernel
theorem dX5_save_9 : decode cX5_save 9 = .ok (.aload_n 0, 1) := by decide +kernel
theorem dX5_save_10 : decode cX5_save 10 = .ok (.iconst 1, 1) := by decide +kernel
theorem dX5_save_11 : decode cX5_save 11 = .ok (.invokevirtual 192, 3) := by decide +kernel
theorem dX5_save_14 : decode cX5_save 14 = .ok (.ireturn, 1) := by decide +kernel
theorem dX5_save_15 : decode cX5_save 15 = .ok (.iconst 0, 1) := by decide +kernel
theorem dX5_save_16 : decode cX5_save 16 = .ok (.istore_n 2, 1) := by decide +kernel
theorem dX5_save_17 : decode cX5_save 17 = .ok (.iload_n 2, 1) := by decide +kernel
theorem dX5_save_18 : decode cX5_save 18 = .ok (.sipush 1330, 3) := by decide +kernel
theorem dX5_save_21 : decode cX5_save 21 = .ok (.if_icmp .ge 27, 3) := by decide +kernel
theorem dX5_save_24 : decode cX5_save 24 = .ok (.aload_n 0, 1) := by decide +kernel
theorem dX5_save_25 : decode cX5_save 25 = .ok (.getfield 22, 3) := by decide +kernel
theorem dX5_save_28 : decode cX5_save 28 = .ok (.iload_n 1, 1) := by decide +kernel
theorem dX5_save_29 : decode cX5_save 29 = .ok (.sipush 1330, 3) := by decide +kernel
theorem dX5_save_32 : decode cX5_save 32 = .ok (.imul, 1) := by decide +kernel
theorem dX5_save_33 : decode cX5_save 33 = .ok (.iload_n 2, 1) := by decide +kernel
theorem dX5_save_34 : decode cX5_save 34 = .ok (.iadd, 1) := by decide +kernel
theorem dX5_save_35 : decode cX5_save 35 = .ok (.aload_n 0, 1) := by decide +kernel
theorem dX5_save_36 : decode cX5_save 36 = .ok (.getfield 13, 3) := by decide +kernel
theorem dX5_save_39 : decode cX5_save 39 = .ok (.iload_n 2, 1) := by decide +kernel
theorem dX5_save_40 : decode cX5_save 40 = .ok (.iaload, 1) := by decide +kernel
theorem dX5_save_41 : decode cX5_save 41 = .ok (.iastore, 1) := by decide +kernel
theorem dX5_save_42 : decode cX5_save 42 = .ok (.iinc 2 1, 3) := by decide +kernel
theorem dX5_save_45 : decode cX5_save 45 = .ok (.goto (-28), 3) := by decide +kernel
theorem dX5_save_48 : decode cX5_save 48 = .ok (.aload_n 0, 1) := by decide +kernel
theorem dX5_save_49 : decode cX5_save 49 = .ok (.dup, 1) := by decide +kernel
theorem dX5_save_50 : decode cX5_save 50 = .ok (.getfield 207, 3) := by decide +kernel
theorem dX5_save_53 : decode cX5_save 53 = .ok (.iconst 1, 1) := by decide +kernel
theorem dX5_save_54 : decode cX5_save 54 = .ok (.iload_n 1, 1) := by decide +kernel
theorem dX5_save_55 : decode cX5_save 55 = .ok (.ishl, 1) := by decide +kernel
theorem dX5_save_56 : decode cX5_save 56 = .ok (.ior, 1) := by decide +kernel
theorem dX5_save_57 : decode cX5_save 57 = .ok (.putfield 207, 3) := by decide +kernel
theorem dX5_save_60 : decode cX5_save 60 = .ok (.aload_n 0, 1) := by decide +kernel
theorem dX5_save_61 : decode cX5_save 61 = .ok (.aload_n 0, 1) := by decide +kernel
theorem dX5_save_62 : decode cX5_save 62 = .ok (.getfield 13, 3) := by decide +kernel
theorem dX5_save_65 : decode cX5_save 65 = .ok (.iconst 3, 1) := by decide +kernel
theorem dX5_save_66 : decode cX5_save 66 = .ok (.iaload, 1) := by decide +kernel
theorem dX5_save_67 : decode cX5_save 67 = .ok (.invokevirtual 198, 3) := by decide +kernel
theorem dX5_save_70 : decode cX5_save 70 = .ok (.ireturn, 1) := by decide +kernel
theorem dX5_writes_0 : decode cX5_writes 0 = .ok (.aload_n 0, 1) := by decide +kernel
theorem dX5_writes_1 : decode cX5_writes 1 = .ok (.getfield 29, 3) := by decide +kernel
theorem dX5_writes_4 : decode cX5_writes 4 = .ok (.aload_n 0, 1) := by decide +kernel
theorem dX5_writes_5 : decode cX5_writes 5 = .ok (.getfield 270, 3) := by decide +kernel
theorem dX5_writes_8 : decode cX5_writes 8 = .ok (.iload_n 1, 1) := by decide +kernel
theorem dX5_writes_9 : decode cX5_writes 9 = .ok (.i2b, 1) := by decide +kernel
theorem dX5_writes_10 : decode cX5_writes 10 = .ok (.bastore, 1) := by decide +kernel
theorem dX5_writes_11 : decode cX5_writes 11 = .ok (.aload_n 0, 1) := by decide +kernel
theorem dX5_writes_12 : decode cX5_writes 12 = .ok (.dup, 1) := by decide +kernel
theorem dX5_writes_13 : decode cX5_writes 13 = .ok (.getfield 270, 3) := by decide +kernel
theorem dX5_writes_16 : decode cX5_writes 16 = .ok (.iconst 1, 1) := by decide +kernel
theorem dX5_writes_17 : decode cX5_writes 17 = .ok (.iadd, 1) := by decide +kernel
theorem dX5_writes_18 : decode cX5_writes 18 = .ok (.putfield 270, 3) := by decide +kernel
theorem dX5_writes_21 : decode cX5_writes 21 = .ok (.return_, 1) := by decide +kernel
theorem dX5_writeTags_0 : decode cX5_writeTags 0 = .ok (.aload_n 0, 1) := by decide +kernel
theorem dX5_writeTags_1 : decode cX5_writeTags 1 = .ok (.iload_n 1, 1) := by decide +kernel
theorem dX5_writeTags_2 : decode cX5_writeTags 2 = .ok (.invokevirtual 210, 3) := by decide +kernel
theorem dX5_writeTags_5 : decode cX5_writeTags 5 = .ok (.ifCond .ne 9, 3) := by decide +kernel
theorem dX5_writeTags_8 : decode cX5_writeTags 8 = .ok (.aload_n 0, 1) := by decide +kernel
theorem dX5_writeTags_9 : decode cX5_writeTags 9 = .ok (.iconst 1, 1) := by decide +kernel
theorem dX5_writeTags_10 : decode cX5_writeTags 10 = .ok (.invokevirtual 192, 3) := by decide +kernel
theorem dX5_writeTags_13 : decode cX5_writeTags 13 = .ok (.ireturn, 1) := by decide +kernel
theorem dX5_writeTags_14 : decode cX5_writeTags 14 = .ok (.aload_n 0, 1) := by decide +kernel
theorem dX5_writeTags_15 : decode cX5_writeTags 15 = .ok (.iconst 0, 1) := by decide +kernel
theorem dX5_writeTags_16 : decode cX5_writeTags 16 = .ok (.putfield 270, 3) := by decide +kernel
theorem dX5_writeTags_19 : decode cX5_writeTags 19 = .ok (.iconst 0, 1) := by decide +kernel
theorem dX5_writeTags_20 : decode cX5_writeTags 20 = .ok (.istore_n 2, 1) := by decide +kernel
theorem dX5_writeTags_21 : decode cX5_writeTags 21 = .ok (.iload_n 2, 1) := by decide +kernel
theorem dX5_writeTags_22 : decode cX5_writeTags 22 = .ok (.bipush 16, 2) := by decide +kernel
theorem dX5_writeTags_24 : decode cX5_writeTags 24 = .ok (.if_icmp .ge 39, 3) := by decide +kernel
theorem dX5_writeTags_27 : decode cX5_writeTags 27 = .ok (.aload_n 0, 1) := by decide +kernel
theorem dX5_writeTags_28 : decode cX5_writeTags 28 = .ok (.iload_n 1, 1) := by decide +kernel
theorem dX5_writeTags_29 : decode cX5_writeTags 29 = .ok (.iload_n 2, 1) := by decide +kernel
theorem dX5_writeTags_30 : decode cX5_writeTags 30 = .ok (.invokevirtual 78, 3) := by decide +kernel
theorem dX5_writeTags_33 : decode cX5_writeTags 33 = .ok (.istore_n 3, 1) := by decide +kernel
theorem dX5_writeTags_34 : decode cX5_writeTags 34 = .ok (.iload_n 3, 1) := by decide +kernel
theorem dX5_writeTags_35 : decode cX5_writeTags 35 = .ok (.ifCond .le 11, 3) := by decide +kernel
theorem dX5_writeTags_38 : decode cX5_writeTags 38 = .ok (.aload_n 0, 1) := by decide +kernel
theorem dX5_writeTags_39 : decode cX5_writeTags 39 = .ok (.bipush 97, 2) := by decide +kernel
theorem dX5_writeTags_41 : decode cX5_writeTags 41 = .ok (.iload_n 2, 1) := by decide +kernel
theorem dX5_writeTags_42 : decode cX5_writeTags 42 = .ok (.iadd, 1) := by decide +kernel
theorem dX5_writeTags_43 : decode cX5_writeTags 43 = .ok (.invokevirtual 273, 3) := by decide +kernel
theorem dX5_writeTags_46 : decode cX5_writeTags 46 = .ok (.iload_n 3, 1) := by decide +kernel
theorem dX5_writeTags_47 : decode cX5_writeTags 47 = .ok (.iconst 1, 1) := by decide +kernel
theorem dX5_writeTags_48 : decode cX5_writeTags 48 = .ok (.if_icmp .le 9, 3) := by decide +kernel
theorem dX5_writeTags_51 : decode cX5_writeTags 51 = .ok (.aload_n 0, 1) := by decide +kernel
theorem dX5_writeTags_52 : decode cX5_writeTags 52 = .ok (.bipush 33, 2) := by decide +kernel
theorem dX5_writeTags_54 : decode cX5_writeTags 54 = .ok (.invokevirtual 273, 3) := by decide +kernel
theorem dX5_writeTags_57 : decode cX5_writeTags 57 = .ok (.iinc 2 1, 3) := by decide +kernel
theorem dX5_writeTags_60 : decode cX5_writeTags 60 = .ok (.goto (-39), 3) := by decide +kernel
theorem dX5_writeTags_63 : decode cX5_writeTags 63 = .ok (.aload_n 0, 1) := by decide +kernel
theorem dX5_writeTags_64 : decode cX5_writeTags 64 = .ok (.aload_n 0, 1) := by decide +kernel
theorem dX5_writeTags_65 : decode cX5_writeTags 65 = .ok (.getfield 270, 3) := by decide +kernel
theorem dX5_writeTags_68 : decode cX5_writeTags 68 = .ok (.invokevirtual 198, 3) := by decide +kernel
theorem dX5_writeTags_71 : decode cX5_writeTags 71 = .ok (.ireturn, 1) := by decide +kernel
theorem dX5_writeRegister_0 : decode cX5_writeRegister 0 = .ok (.aload_n 0, 1) := by decide +kernel
theorem dX5_writeRegister_1 : decode cX5_writeRegister 1 = .ok (.iload_n 1, 1) := by decide +kernel
theorem dX5_writeRegister_2 : decode cX5_writeRegister 2 = .ok (.invokevirtual 210, 3) := by decide +kernel
theorem dX5_writeRegister_5 : decode cX5_writeRegister 5 = .ok (.ifCond .eq 11, 3) := by decide +kernel
theorem dX5_writeRegister_8 : decode cX5_writeRegister 8 = .ok (.aload_n 0, 1) := by decide +kernel
theorem dX5_writeRegister_9 : decode cX5_writeRegister 9 = .ok (.iload_n 2, 1) := by decide +kernel
theorem dX5_writeRegister_10 : decode cX5_writeRegister 10 = .ok (.invokevirtual 236, 3) := by decide +kernel
theorem dX5_writeRegister_13 : decode cX5_writeRegister 13 = .ok (.ifCond .ne 9, 3) := by decide +kernel
theorem dX5_writeRegister_16 : decode cX5_writeRegister 16 = .ok (.aload_n 0, 1) := by decide +kernel
theorem dX5_writeRegister_17 : decode cX5_writeRegister 17 = .ok (.iconst 1, 1) := by decide +kernel
theorem dX5_writeRegister_18 : decode cX5_writeRegister 18 = .ok (.invokevirtual 192, 3) := by decide +kernel
theorem dX5_writeRegister_21 : decode cX5_writeRegister 21 = .ok (.ireturn, 1) := by decide +kernel
theorem dX5_writeRegister_22 : decode cX5_writeRegister 22 = .ok (.aload_n 0, 1) := by decide +kernel
theorem dX5_writeRegister_23 : decode cX5_writeRegister 23 = .ok (.iconst 0, 1) := by decide +kernel
theorem dX5_writeRegister_24 : decode cX5_writeRegister 24 = .ok (.putfield 270, 3) := by decide +kernel
theorem dX5_writeRegister_27 : decode cX5_writeRegister 27 = .ok (.iconst 0, 1) := by decide +kernel
theorem dX5_writeRegister_28 : decode cX5_writeRegister 28 = .ok (.istore_n 3, 1) := by decide +kernel
theorem dX5_writeRegister_29 : decode cX5_writeRegister 29 = .ok (.iload_n 3, 1) := by decide +kernel
theorem dX5_writeRegister_30 : decode cX5_writeRegister 30 = .ok (.iconst 4, 1) := by decide +kernel
theorem dX5_writeRegister_31 : decode cX5_writeRegister 31 = .ok (.if_icmp .ge 74, 3) := by decide +kernel
theorem dX5_writeRegister_34 : decode cX5_writeRegister 34 = .ok (.aload_n 0, 1) := by decide +kernel
theorem dX5_writeRegister_35 : decode cX5_writeRegister 35 = .ok (.iload_n 1, 1) := by decide +kernel
theorem dX5_writeRegister_36 : decode cX5_writeRegister 36 = .ok (.iload_n 2, 1) := by decide +kernel
theorem dX5_writeRegister_37 : decode cX5_writeRegister 37 = .ok (.iload_n 3, 1) := by decide +kernel
theorem dX5_writeRegister_38 : decode cX5_writeRegister 38 = .ok (.invokevirtual 239, 3) := by decide +kernel
theorem dX5_writeRegister_41 : decode cX5_writeRegister 41 = .ok (.istore 4, 2) := by decide +kernel
theorem dX5_writeRegister_43 : decode cX5_writeRegister 43 = .ok (.iload 4, 2) := by decide +kernel
theorem dX5_writeRegister_45 : decode cX5_writeRegister 45 = .ok (.iconst (-1), 1) := by decide +kernel
theorem dX5_writeRegister_46 : decode cX5_writeRegister 46 = .ok (.if_icmp .eq 16, 3) := by decide +kernel
theorem dX5_writeRegister_49 : decode cX5_writeRegister 49 = .ok (.aload_n 0, 1) := by decide +kernel
theorem dX5_writeRegister_50 : decode cX5_writeRegister 50 = .ok (.getfield 270, 3) := by decide +kernel
theorem dX5_writeRegister_53 : decode cX5_writeRegister 53 = .ok (.ifCond .le 9, 3) := by decide +kernel
theorem dX5_writeRegister_56 : decode cX5_writeRegister 56 = .ok (.aload_n 0, 1) := by decide +kernel
theorem dX5_writeRegister_57 : decode cX5_writeRegister 57 = .ok (.bipush 124, 2) := by decide +kernel
theorem dX5_writeRegister_59 : decode cX5_writeRegister 59 = .ok (.invokevirtual 273, 3) := by decide +kernel
theorem dX5_writeRegister_62 : decode cX5_writeRegister 62 = .ok (.iload 4, 2) := by decide +kernel
theorem dX5_writeRegister_64 : decode cX5_writeRegister 64 = .ok (.bipush 9, 2) := by decide +kernel
theorem dX5_writeRegister_66 : decode cX5_writeRegister 66 = .ok (.if_icmp .le 15, 3) := by decide +kernel
theorem dX5_writeRegister_69 : decode cX5_writeRegister 69 = .ok (.aload_n 0, 1) := by decide +kernel
theorem dX5_writeRegister_70 : decode cX5_writeRegister 70 = .ok (.bipush 48, 2) := by decide +kernel
theorem dX5_writeRegister_72 : decode cX5_writeRegister 72 = .ok (.iload 4, 2) := by decide +kernel
theorem dX5_writeRegister_74 : decode cX5_writeRegister 74 = .ok (.bipush 10, 2) := by decide +kernel
theorem dX5_writeRegister_76 : decode cX5_writeRegister 76 = .ok (.idiv, 1) := by decide +kernel
theorem dX5_writeRegister_77 : decode cX5_writeRegister 77 = .ok (.iadd, 1) := by decide +kernel
theorem dX5_writeRegister_78 : decode cX5_writeRegister 78 = .ok (.invokevirtual 273, 3) := by decide +kernel
theorem dX5_writeRegister_81 : decode cX5_writeRegister 81 = .ok (.iload 4, 2) := by decide +kernel
theorem dX5_writeRegister_83 : decode cX5_writeRegister 83 = .ok (.iconst (-1), 1) := by decide +kernel
theorem dX5_writeRegister_84 : decode cX5_writeRegister 84 = .ok (.if_icmp .eq 15, 3) := by decide +kernel
theorem dX5_writeRegister_87 : decode cX5_writeRegister 87 = .ok (.aload_n 0, 1) := by decide +kernel
theorem dX5_writeRegister_88 : decode cX5_writeRegister 88 = .ok (.bipush 48, 2) := by decide +kernel
theorem dX5_writeRegister_90 : decode cX5_writeRegister 90 = .ok (.iload 4, 2) := by decide +kernel
theorem dX5_writeRegister_92 : decode cX5_writeRegister 92 = .ok (.bipush 10, 2) := by decide +kernel
theorem dX5_writeRegister_94 : decode cX5_writeRegister 94 = .ok (.irem, 1) := by decide +kernel
theorem dX5_writeRegister_95 : decode cX5_writeRegister 95 = .ok (.iadd, 1) := by decide +kernel
theorem dX5_writeRegister_96 : decode cX5_writeRegister 96 = .ok (.invokevirtual 273, 3) := by decide +kernel
theorem dX5_writeRegister_99 : decode cX5_writeRegister 99 = .ok (.iinc 3 1, 3) := by decide +kernel
theorem dX5_writeRegister_102 : decode cX5_writeRegister 102 = .ok (.goto (-73), 3) := by decide +kernel
theorem dX5_writeRegister_105 : decode cX5_writeRegister 105 = .ok (.aload_n 0, 1) := by decide +kernel
theorem dX5_writeRegister_106 : decode cX5_writeRegister 106 = .ok (.getfield 270, 3) := by decide +kernel
theorem dX5_writeRegister_109 : decode cX5_writeRegister 109 = .ok (.ifCond .ne 9, 3) := by decide +kernel
theorem dX5_writeRegister_112 : decode cX5_writeRegister 112 = .ok (.aload_n 0, 1) := by decide +kernel
theorem dX5_writeRegister_113 : decode cX5_writeRegister 113 = .ok (.bipush 45, 2) := by decide +kernel
theorem dX5_writeRegister_115 : decode cX5_writeRegister 115 = .ok (.invokevirtual 273, 3) := by decide +kernel
theorem dX5_writeRegister_118 : decode cX5_writeRegister 118 = .ok (.aload_n 0, 1) := by decide +kernel
theorem dX5_writeRegister_119 : decode cX5_writeRegister 119 = .ok (.aload_n 0, 1) := by decide +kernel
theorem dX5_writeRegister_120 : decode cX5_writeRegister 120 = .ok (.getfield 270, 3) := by decide +kernel
theorem dX5_writeRegister_123 : decode cX5_writeRegister 123 = .ok (.invokevirtual 198, 3) := by decide +kernel
theorem dX5_writeRegister_126 : decode cX5_writeRegister 126 = .ok (.ireturn, 1) := by decide +kernel
theorem dX5_outputByte_0 : decode cX5_outputByte 0 = .ok (.iload_n 1, 1) := by decide +kernel
theorem dX5_outputByte_1 : decode cX5_outputByte 1 = .ok (.iconst 0, 1) := by decide +kernel
theorem dX5_outputByte_2 : decode cX5_outputByte 2 = .ok (.aload_n 0, 1) := by decide +kernel
theorem dX5_outputByte_3 : decode cX5_outputByte 3 = .ok (.getfield 270, 3) := by decide +kernel
theorem dX5_outputByte_6 : decode cX5_outputByte 6 = .ok (.iconst 1, 1) := by decide +kernel
theorem dX5_outputByte_7 : decode cX5_outputByte 7 = .ok (.isub, 1) := by decide +kernel
theorem dX5_outputByte_8 : decode cX5_outputByte 8 = .ok (.invokestatic 68, 3) := by decide +kernel
theorem dX5_outputByte_11 : decode cX5_outputByte 11 = .ok (.ifCond .ne 9, 3) := by decide +kernel
theorem dX5_outputByte_14 : decode cX5_outputByte 14 = .ok (.aload_n 0, 1) := by decide +kernel
theorem dX5_outputByte_15 : decode cX5_outputByte 15 = .ok (.iconst 1, 1) := by decide +kernel
theorem dX5_outputByte_16 : decode cX5_outputByte 16 = .ok (.invokevirtual 192, 3) := by decide +kernel
theorem dX5_outputByte_19 : decode cX5_outputByte 19 = .ok (.ireturn, 1) := by decide +kernel
theorem dX5_outputByte_20 : decode cX5_outputByte 20 = .ok (.aload_n 0, 1) := by decide +kernel
theorem dX5_outputByte_21 : decode cX5_outputByte 21 = .ok (.aload_n 0, 1) := by decide +kernel
theorem dX5_outputByte_22 : decode cX5_outputByte 22 = .ok (.getfield 29, 3) := by decide +kernel
theorem dX5_outputByte_25 : decode cX5_outputByte 25 = .ok (.iload_n 1, 1) := by decide +kernel
theorem dX5_outputByte_26 : decode cX5_outputByte 26 = .ok (.baload, 1) := by decide +kernel
theorem dX5_outputByte_27 : decode cX5_outputByte 27 = .ok (.invokevirtual 198, 3) := by decide +kernel
theorem dX5_outputByte_30 : decode cX5_outputByte 30 = .ok (.ireturn, 1) := by decide +kernel
