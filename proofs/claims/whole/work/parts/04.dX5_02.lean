/-! what each instruction decodes to, as printed -/
theorem dX5_errs_12 : decode cX5_errs 12 = .ok (.aload_n 0, 1) := by decide +kernel
theorem dX5_errs_13 : decode cX5_errs 13 = .ok (.aload_n 0, 1) := by decide +kernel
theorem dX5_errs_14 : decode cX5_errs 14 = .ok (.getfield 123, 3) := by decide +kernel
theorem dX5_errs_17 : decode cX5_errs 17 = .ok (.putfield 142, 3) := by decide +kernel
theorem dX5_errs_20 : decode cX5_errs 20 = .ok (.return_, 1) := by decide +kernel
theorem dX5_isKey_0 : decode cX5_isKey 0 = .ok (.aload_n 0, 1) := by decide +kernel
theorem dX5_isKey_1 : decode cX5_isKey 1 = .ok (.getfield 117, 3) := by decide +kernel
theorem dX5_isKey_4 : decode cX5_isKey 4 = .ok (.iconst 1, 1) := by decide +kernel
theorem dX5_isKey_5 : decode cX5_isKey 5 = .ok (.if_icmp .ne 17, 3) := by decide +kernel
theorem dX5_isKey_8 : decode cX5_isKey 8 = .ok (.aload_n 0, 1) := by decide +kernel
theorem dX5_isKey_9 : decode cX5_isKey 9 = .ok (.getfield 120, 3) := by decide +kernel
theorem dX5_isKey_12 : decode cX5_isKey 12 = .ok (.aload_n 0, 1) := by decide +kernel
theorem dX5_isKey_13 : decode cX5_isKey 13 = .ok (.getfield 123, 3) := by decide +kernel
theorem dX5_isKey_16 : decode cX5_isKey 16 = .ok (.isub, 1) := by decide +kernel
theorem dX5_isKey_17 : decode cX5_isKey 17 = .ok (.bipush 8, 2) := by decide +kernel
theorem dX5_isKey_19 : decode cX5_isKey 19 = .ok (.if_icmp .le 5, 3) := by decide +kernel
theorem dX5_isKey_22 : decode cX5_isKey 22 = .ok (.iconst 0, 1) := by decide +kernel
theorem dX5_isKey_23 : decode cX5_isKey 23 = .ok (.ireturn, 1) := by decide +kernel
theorem dX5_isKey_24 : decode cX5_isKey 24 = .ok (.iconst 0, 1) := by decide +kernel
theorem dX5_isKey_25 : decode cX5_isKey 25 = .ok (.istore_n 2, 1) := by decide +kernel
theorem dX5_isKey_26 : decode cX5_isKey 26 = .ok (.iload_n 2, 1) := by decide +kernel
theorem dX5_isKey_27 : decode cX5_isKey 27 = .ok (.bipush 8, 2) := by decide +kernel
theorem dX5_isKey_29 : decode cX5_isKey 29 = .ok (.if_icmp .ge 55, 3) := by decide +kernel
theorem dX5_isKey_32 : decode cX5_isKey 32 = .ok (.iload_n 2, 1) := by decide +kernel
theorem dX5_isKey_33 : decode cX5_isKey 33 = .ok (.aload_n 0, 1) := by decide +kernel
theorem dX5_isKey_34 : decode cX5_isKey 34 = .ok (.getfield 120, 3) := by decide +kernel
theorem dX5_isKey_37 : decode cX5_isKey 37 = .ok (.aload_n 0, 1) := by decide +kernel
theorem dX5_isKey_38 : decode cX5_isKey 38 = .ok (.getfield 123, 3) := by decide +kernel
theorem dX5_isKey_41 : decode cX5_isKey 41 = .ok (.isub, 1) := by decide +kernel
theorem dX5_isKey_42 : decode cX5_isKey 42 = .ok (.if_icmp .ge 17, 3) := by decide +kernel
theorem dX5_isKey_45 : decode cX5_isKey 45 = .ok (.aload_n 0, 1) := by decide +kernel
theorem dX5_isKey_46 : decode cX5_isKey 46 = .ok (.getfield 25, 3) := by decide +kernel
theorem dX5_isKey_49 : decode cX5_isKey 49 = .ok (.aload_n 0, 1) := by decide +kernel
theorem dX5_isKey_50 : decode cX5_isKey 50 = .ok (.getfield 123, 3) := by decide +kernel
theorem dX5_isKey_53 : decode cX5_isKey 53 = .ok (.iload_n 2, 1) := by decide +kernel
theorem dX5_isKey_54 : decode cX5_isKey 54 = .ok (.iadd, 1) := by decide +kernel
theorem dX5_isKey_55 : decode cX5_isKey 55 = .ok (.baload, 1) := by decide +kernel
theorem dX5_isKey_56 : decode cX5_isKey 56 = .ok (.goto 4, 3) := by decide +kernel
theorem dX5_isKey_59 : decode cX5_isKey 59 = .ok (.iconst 0, 1) := by decide +kernel
theorem dX5_isKey_60 : decode cX5_isKey 60 = .ok (.istore_n 3, 1) := by decide +kernel
theorem dX5_isKey_61 : decode cX5_isKey 61 = .ok (.iload_n 3, 1) := by decide +kernel
theorem dX5_isKey_62 : decode cX5_isKey 62 = .ok (.aload_n 0, 1) := by decide +kernel
theorem dX5_isKey_63 : decode cX5_isKey 63 = .ok (.getfield 7, 3) := by decide +kernel
theorem dX5_isKey_66 : decode cX5_isKey 66 = .ok (.bipush 8, 2) := by decide +kernel
theorem dX5_isKey_68 : decode cX5_isKey 68 = .ok (.iload_n 1, 1) := by decide +kernel
theorem dX5_isKey_69 : decode cX5_isKey 69 = .ok (.imul, 1) := by decide +kernel
theorem dX5_isKey_70 : decode cX5_isKey 70 = .ok (.iload_n 2, 1) := by decide +kernel
theorem dX5_isKey_71 : decode cX5_isKey 71 = .ok (.iadd, 1) := by decide +kernel
theorem dX5_isKey_72 : decode cX5_isKey 72 = .ok (.iaload, 1) := by decide +kernel
theorem dX5_isKey_73 : decode cX5_isKey 73 = .ok (.if_icmp .eq 5, 3) := by decide +kernel
theorem dX5_isKey_76 : decode cX5_isKey 76 = .ok (.iconst 0, 1) := by decide +kernel
theorem dX5_isKey_77 : decode cX5_isKey 77 = .ok (.ireturn, 1) := by decide +kernel
theorem dX5_isKey_78 : decode cX5_isKey 78 = .ok (.iinc 2 1, 3) := by decide +kernel
theorem dX5_isKey_81 : decode cX5_isKey 81 = .ok (.goto (-55), 3) := by decide +kernel
theorem dX5_isKey_84 : decode cX5_isKey 84 = .ok (.iconst 1, 1) := by decide +kernel
theorem dX5_isKey_85 : decode cX5_isKey 85 = .ok (.ireturn, 1) := by decide +kernel
theorem dX5_goesOn_0 : decode cX5_goesOn 0 = .ok (.aload_n 0, 1) := by decide +kernel
theorem dX5_goesOn_1 : decode cX5_goesOn 1 = .ok (.getfield 139, 3) := by decide +kernel
theorem dX5_goesOn_4 : decode cX5_goesOn 4 = .ok (.ifCond .ne 7, 3) := by decide +kernel
theorem dX5_goesOn_7 : decode cX5_goesOn 7 = .ok (.aload_n 0, 1) := by decide +kernel
theorem dX5_goesOn_8 : decode cX5_goesOn 8 = .ok (.invokevirtual 145, 3) := by decide +kernel
theorem dX5_goesOn_11 : decode cX5_goesOn 11 = .ok (.return_, 1) := by decide +kernel
theorem dX5_takesNumber_0 : decode cX5_takesNumber 0 = .ok (.aload_n 0, 1) := by decide +kernel
theorem dX5_takesNumber_1 : decode cX5_takesNumber 1 = .ok (.getfield 139, 3) := by decide +kernel
theorem dX5_takesNumber_4 : decode cX5_takesNumber 4 = .ok (.ifCond .ne 16, 3) := by decide +kernel
theorem dX5_takesNumber_7 : decode cX5_takesNumber 7 = .ok (.aload_n 0, 1) := by decide +kernel
theorem dX5_takesNumber_8 : decode cX5_takesNumber 8 = .ok (.getfield 117, 3) := by decide +kernel
theorem dX5_takesNumber_11 : decode cX5_takesNumber 11 = .ok (.iconst 2, 1) := by decide +kernel
theorem dX5_takesNumber_12 : decode cX5_takesNumber 12 = .ok (.if_icmp .eq 8, 3) := by decide +kernel
theorem dX5_takesNumber_15 : decode cX5_takesNumber 15 = .ok (.aload_n 0, 1) := by decide +kernel
theorem dX5_takesNumber_16 : decode cX5_takesNumber 16 = .ok (.iconst 1, 1) := by decide +kernel
theorem dX5_takesNumber_17 : decode cX5_takesNumber 17 = .ok (.invokevirtual 148, 3) := by decide +kernel
theorem dX5_takesNumber_20 : decode cX5_takesNumber 20 = .ok (.aload_n 0, 1) := by decide +kernel
theorem dX5_takesNumber_21 : decode cX5_takesNumber 21 = .ok (.getfield 139, 3) := by decide +kernel
theorem dX5_takesNumber_24 : decode cX5_takesNumber 24 = .ok (.ifCond .ne 20, 3) := by decide +kernel
theorem dX5_takesNumber_27 : decode cX5_takesNumber 27 = .ok (.aload_n 0, 1) := by decide +kernel
theorem dX5_takesNumber_28 : decode cX5_takesNumber 28 = .ok (.getfield 136, 3) := by decide +kernel
theorem dX5_takesNumber_31 : decode cX5_takesNumber 31 = .ok (.iload_n 1, 1) := by decide +kernel
theorem dX5_takesNumber_32 : decode cX5_takesNumber 32 = .ok (.iload_n 2, 1) := by decide +kernel
theorem dX5_takesNumber_33 : decode cX5_takesNumber 33 = .ok (.invokestatic 68, 3) := by decide +kernel
theorem dX5_takesNumber_36 : decode cX5_takesNumber 36 = .ok (.ifCond .ne 8, 3) := by decide +kernel
theorem dX5_takesNumber_39 : decode cX5_takesNumber 39 = .ok (.aload_n 0, 1) := by decide +kernel
theorem dX5_takesNumber_40 : decode cX5_takesNumber 40 = .ok (.iconst 2, 1) := by decide +kernel
theorem dX5_takesNumber_41 : decode cX5_takesNumber 41 = .ok (.invokevirtual 148, 3) := by decide +kernel
theorem dX5_takesNumber_44 : decode cX5_takesNumber 44 = .ok (.aload_n 0, 1) := by decide +kernel
theorem dX5_takesNumber_45 : decode cX5_takesNumber 45 = .ok (.getfield 139, 3) := by decide +kernel
theorem dX5_takesNumber_48 : decode cX5_takesNumber 48 = .ok (.ifCond .ne 10, 3) := by decide +kernel
theorem dX5_takesNumber_51 : decode cX5_takesNumber 51 = .ok (.aload_n 0, 1) := by decide +kernel
theorem dX5_takesNumber_52 : decode cX5_takesNumber 52 = .ok (.getfield 136, 3) := by decide +kernel
theorem dX5_takesNumber_55 : decode cX5_takesNumber 55 = .ok (.goto 4, 3) := by decide +kernel
theorem dX5_takesNumber_58 : decode cX5_takesNumber 58 = .ok (.iload_n 1, 1) := by decide +kernel
theorem dX5_takesNumber_59 : decode cX5_takesNumber 59 = .ok (.istore_n 3, 1) := by decide +kernel
theorem dX5_takesNumber_60 : decode cX5_takesNumber 60 = .ok (.aload_n 0, 1) := by decide +kernel
theorem dX5_takesNumber_61 : decode cX5_takesNumber 61 = .ok (.invokevirtual 151, 3) := by decide +kernel
theorem dX5_takesNumber_64 : decode cX5_takesNumber 64 = .ok (.iload_n 3, 1) := by decide +kernel
theorem dX5_takesNumber_65 : decode cX5_takesNumber 65 = .ok (.ireturn, 1) := by decide +kernel
theorem dX5_takesReplica_0 : decode cX5_takesReplica 0 = .ok (.aload_n 0, 1) := by decide +kernel
theorem dX5_takesReplica_1 : decode cX5_takesReplica 1 = .ok (.iconst 0, 1) := by decide +kernel
theorem dX5_takesReplica_2 : decode cX5_takesReplica 2 = .ok (.aload_n 0, 1) := by decide +kernel
theorem dX5_takesReplica_3 : decode cX5_takesReplica 3 = .ok (.getfield 13, 3) := by decide +kernel
theorem dX5_takesReplica_6 : decode cX5_takesReplica 6 = .ok (.iconst 0, 1) := by decide +kernel
theorem dX5_takesReplica_7 : decode cX5_takesReplica 7 = .ok (.iaload, 1) := by decide +kernel
theorem dX5_takesReplica_8 : decode cX5_takesReplica 8 = .ok (.iconst 1, 1) := by decide +kernel
theorem dX5_takesReplica_9 : decode cX5_takesReplica 9 = .ok (.isub, 1) := by decide +kernel
theorem dX5_takesReplica_10 : decode cX5_takesReplica 10 = .ok (.invokevirtual 154, 3) := by decide +kernel
theorem dX5_takesReplica_13 : decode cX5_takesReplica 13 = .ok (.ireturn, 1) := by decide +kernel
theorem dX5_tagHere_0 : decode cX5_tagHere 0 = .ok (.aload_n 0, 1) := by decide +kernel
theorem dX5_tagHere_1 : decode cX5_tagHere 1 = .ok (.getfield 139, 3) := by decide +kernel
theorem dX5_tagHere_4 : decode cX5_tagHere 4 = .ok (.ifCond .ne 43, 3) := by decide +kernel
theorem dX5_tagHere_7 : decode cX5_tagHere 7 = .ok (.aload_n 0, 1) := by decide +kernel
theorem dX5_tagHere_8 : decode cX5_tagHere 8 = .ok (.getfield 117, 3) := by decide +kernel
theorem dX5_tagHere_11 : decode cX5_tagHere 11 = .ok (.iconst 1, 1) := by decide +kernel
theorem dX5_tagHere_12 : decode cX5_tagHere 12 = .ok (.if_icmp .ne 30, 3) := by decide +kernel
theorem dX5_tagHere_15 : decode cX5_tagHere 15 = .ok (.aload_n 0, 1) := by decide +kernel
theorem dX5_tagHere_16 : decode cX5_tagHere 16 = .ok (.getfield 120, 3) := by decide +kernel
theorem dX5_tagHere_19 : decode cX5_tagHere 19 = .ok (.aload_n 0, 1) := by decide +kernel
theorem dX5_tagHere_20 : decode cX5_tagHere 20 = .ok (.getfield 123, 3) := by decide +kernel
theorem dX5_tagHere_23 : decode cX5_tagHere 23 = .ok (.isub, 1) := by decide +kernel
theorem dX5_tagHere_24 : decode cX5_tagHere 24 = .ok (.iconst 1, 1) := by decide +kernel
theorem dX5_tagHere_25 : decode cX5_tagHere 25 = .ok (.if_icmp .ne 17, 3) := by decide +kernel
theorem dX5_tagHere_28 : decode cX5_tagHere 28 = .ok (.aload_n 0, 1) := by decide +kernel
theorem dX5_tagHere_29 : decode cX5_tagHere 29 = .ok (.getfield 25, 3) := by decide +kernel
theorem dX5_tagHere_32 : decode cX5_tagHere 32 = .ok (.aload_n 0, 1) := by decide +kernel
theorem dX5_tagHere_33 : decode cX5_tagHere 33 = .ok (.getfield 123, 3) := by decide +kernel
theorem dX5_tagHere_36 : decode cX5_tagHere 36 = .ok (.baload, 1) := by decide +kernel
theorem dX5_tagHere_37 : decode cX5_tagHere 37 = .ok (.bipush 112, 2) := by decide +kernel
theorem dX5_tagHere_39 : decode cX5_tagHere 39 = .ok (.if_icmp .le 8, 3) := by decide +kernel
theorem dX5_tagHere_42 : decode cX5_tagHere 42 = .ok (.aload_n 0, 1) := by decide +kernel
theorem dX5_tagHere_43 : decode cX5_tagHere 43 = .ok (.iconst 1, 1) := by decide +kernel
theorem dX5_tagHere_44 : decode cX5_tagHere 44 = .ok (.invokevirtual 148, 3) := by decide +kernel
theorem dX5_tagHere_47 : decode cX5_tagHere 47 = .ok (.aload_n 0, 1) := by decide +kernel
theorem dX5_tagHere_48 : decode cX5_tagHere 48 = .ok (.getfield 139, 3) := by decide +kernel
theorem dX5_tagHere_51 : decode cX5_tagHere 51 = .ok (.ifCond .ne 18, 3) := by decide +kernel
theorem dX5_tagHere_54 : decode cX5_tagHere 54 = .ok (.aload_n 0, 1) := by decide +kernel
theorem dX5_tagHere_55 : decode cX5_tagHere 55 = .ok (.getfield 25, 3) := by decide +kernel
theorem dX5_tagHere_58 : decode cX5_tagHere 58 = .ok (.aload_n 0, 1) := by decide +kernel
theorem dX5_tagHere_59 : decode cX5_tagHere 59 = .ok (.getfield 123, 3) := by decide +kernel
theorem dX5_tagHere_62 : decode cX5_tagHere 62 = .ok (.baload, 1) := by decide +kernel
theorem dX5_tagHere_63 : decode cX5_tagHere 63 = .ok (.bipush 97, 2) := by decide +kernel
theorem dX5_tagHere_65 : decode cX5_tagHere 65 = .ok (.isub, 1) := by decide +kernel
theorem dX5_tagHere_66 : decode cX5_tagHere 66 = .ok (.goto 4, 3) := by decide +kernel
theorem dX5_tagHere_69 : decode cX5_tagHere 69 = .ok (.iconst 0, 1) := by decide +kernel
theorem dX5_tagHere_70 : decode cX5_tagHere 70 = .ok (.ireturn, 1) := by decide +kernel
theorem dX5_readsCount_0 : decode cX5_readsCount 0 = .ok (.aload_n 0, 1) := by decide +kernel
theorem dX5_readsCount_1 : decode cX5_readsCount 1 = .ok (.invokevirtual 145, 3) := by decide +kernel
theorem dX5_readsCount_4 : decode cX5_readsCount 4 = .ok (.aload_n 0, 1) := by decide +kernel
theorem dX5_readsCount_5 : decode cX5_readsCount 5 = .ok (.invokevirtual 157, 3) := by decide +kernel
theorem dX5_readsCount_8 : decode cX5_readsCount 8 = .ok (.istore_n 2, 1) := by decide +kernel
theorem dX5_readsCount_9 : decode cX5_readsCount 9 = .ok (.aload_n 0, 1) := by decide +kernel
theorem dX5_readsCount_10 : decode cX5_readsCount 10 = .ok (.iconst 0, 1) := by decide +kernel
theorem dX5_readsCount_11 : decode cX5_readsCount 11 = .ok (.aload_n 0, 1) := by decide +kernel
theorem dX5_readsCount_12 : decode cX5_readsCount 12 = .ok (.getfield 13, 3) := by decide +kernel
theorem dX5_readsCount_15 : decode cX5_readsCount 15 = .ok (.iconst 1, 1) := by decide +kernel
theorem dX5_readsCount_16 : decode cX5_readsCount 16 = .ok (.iaload, 1) := by decide +kernel
theorem dX5_readsCount_17 : decode cX5_readsCount 17 = .ok (.iconst 1, 1) := by decide +kernel
theorem dX5_readsCount_18 : decode cX5_readsCount 18 = .ok (.isub, 1) := by decide +kernel
theorem dX5_readsCount_19 : decode cX5_readsCount 19 = .ok (.invokevirtual 154, 3) := by decide +kernel
theorem dX5_readsCount_22 : decode cX5_readsCount 22 = .ok (.istore_n 3, 1) := by decide +kernel
theorem dX5_readsCount_23 : decode cX5_readsCount 23 = .ok (.aload_n 0, 1) := by decide +kernel
theorem dX5_readsCount_24 : decode cX5_readsCount 24 = .ok (.iconst 1, 1) := by decide +kernel
theorem dX5_readsCount_25 : decode cX5_readsCount 25 = .ok (.bipush 99, 2) := by decide +kernel
theorem dX5_readsCount_27 : decode cX5_readsCount 27 = .ok (.invokevirtual 154, 3) := by decide +kernel
theorem dX5_readsCount_30 : decode cX5_readsCount 30 = .ok (.istore 4, 2) := by decide +kernel
theorem dX5_readsCount_32 : decode cX5_readsCount 32 = .ok (.aload_n 0, 1) := by decide +kernel
theorem dX5_readsCount_33 : decode cX5_readsCount 33 = .ok (.getfield 139, 3) := by decide +kernel
theorem dX5_readsCount_36 : decode cX5_readsCount 36 = .ok (.ifCond .ne 32, 3) := by decide +kernel
theorem dX5_readsCount_39 : decode cX5_readsCount 39 = .ok (.aload_n 0, 1) := by decide +kernel
theorem dX5_readsCount_40 : decode cX5_readsCount 40 = .ok (.getfield 13, 3) := by decide +kernel
theorem dX5_readsCount_43 : decode cX5_readsCount 43 = .ok (.iload_n 1, 1) := by decide +kernel
theorem dX5_readsCount_44 : decode cX5_readsCount 44 = .ok (.ifCond .eq 12, 3) := by decide +kernel
theorem dX5_readsCount_47 : decode cX5_readsCount 47 = .ok (.iload_n 2, 1) := by decide +kernel
theorem dX5_readsCount_48 : decode cX5_readsCount 48 = .ok (.iload_n 3, 1) := by decide +kernel
theorem dX5_readsCount_49 : decode cX5_readsCount 49 = .ok (.iload_n 2, 1) := by decide +kernel
theorem dX5_readsCount_50 : decode cX5_readsCount 50 = .ok (.invokestatic 36, 3) := by decide +kernel
theorem dX5_readsCount_53 : decode cX5_readsCount 53 = .ok (.goto 9, 3) := by decide +kernel
theorem dX5_readsCount_56 : decode cX5_readsCount 56 = .ok (.iload_n 2, 1) := by decide +kernel
theorem dX5_readsCount_57 : decode cX5_readsCount 57 = .ok (.iload_n 3, 1) := by decide +kernel
theorem dX5_readsCount_58 : decode cX5_readsCount 58 = .ok (.iload_n 2, 1) := by decide +kernel
theorem dX5_readsCount_59 : decode cX5_readsCount 59 = .ok (.invokestatic 40, 3) := by decide +kernel
theorem dX5_readsCount_62 : decode cX5_readsCount 62 = .ok (.dup2, 1) := by decide +kernel
theorem dX5_readsCount_63 : decode cX5_readsCount 63 = .ok (.iaload, 1) := by decide +kernel
theorem dX5_readsCount_64 : decode cX5_readsCount 64 = .ok (.iload 4, 2) := by decide +kernel
theorem dX5_readsCount_66 : decode cX5_readsCount 66 = .ok (.iadd, 1) := by decide +kernel
theorem dX5_readsCount_67 : decode cX5_readsCount 67 = .ok (.iastore, 1) := by decide +kernel
theorem dX5_readsCount_68 : decode cX5_readsCount 68 = .ok (.return_, 1) := by decide +kernel
theorem dX5_readsTag_0 : decode cX5_readsTag 0 = .ok (.aload_n 0, 1) := by decide +kernel
theorem dX5_readsTag_1 : decode cX5_readsTag 1 = .ok (.invokevirtual 145, 3) := by decide +kernel
theorem dX5_readsTag_4 : decode cX5_readsTag 4 = .ok (.aload_n 0, 1) := by decide +kernel
theorem dX5_readsTag_5 : decode cX5_readsTag 5 = .ok (.invokevirtual 157, 3) := by decide +kernel
theorem dX5_readsTag_8 : decode cX5_readsTag 8 = .ok (.istore_n 2, 1) := by decide +kernel
theorem dX5_readsTag_9 : decode cX5_readsTag 9 = .ok (.aload_n 0, 1) := by decide +kernel
theorem dX5_readsTag_10 : decode cX5_readsTag 10 = .ok (.invokevirtual 161, 3) := by decide +kernel
theorem dX5_readsTag_13 : decode cX5_readsTag 13 = .ok (.istore_n 3, 1) := by decide +kernel
theorem dX5_readsTag_14 : decode cX5_readsTag 14 = .ok (.aload_n 0, 1) := by decide +kernel
theorem dX5_readsTag_15 : decode cX5_readsTag 15 = .ok (.getfield 139, 3) := by decide +kernel
theorem dX5_readsTag_18 : decode cX5_readsTag 18 = .ok (.ifCond .ne 21, 3) := by decide +kernel
theorem dX5_readsTag_21 : decode cX5_readsTag 21 = .ok (.iload_n 1, 1) := by decide +kernel
theorem dX5_readsTag_22 : decode cX5_readsTag 22 = .ok (.ifCond .ne 17, 3) := by decide +kernel
theorem dX5_readsTag_25 : decode cX5_readsTag 25 = .ok (.aload_n 0, 1) := by decide +kernel
theorem dX5_readsTag_26 : decode cX5_readsTag 26 = .ok (.iload_n 2, 1) := by decide +kernel
theorem dX5_readsTag_27 : decode cX5_readsTag 27 = .ok (.iload_n 3, 1) := by decide +kernel
theorem dX5_readsTag_28 : decode cX5_readsTag 28 = .ok (.invokevirtual 78, 3) := by decide +kernel
theorem dX5_readsTag_31 : decode cX5_readsTag 31 = .ok (.ifCond .ne 8, 3) := by decide +kernel
theorem dX5_readsTag_34 : decode cX5_readsTag 34 = .ok (.aload_n 0, 1) := by decide +kernel
theorem dX5_readsTag_35 : decode cX5_readsTag 35 = .ok (.iconst 3, 1) := by decide +kernel
theorem dX5_readsTag_36 : decode cX5_readsTag 36 = .ok (.invokevirtual 148, 3) := by decide +kernel
theorem dX5_readsTag_39 : decode cX5_readsTag 39 = .ok (.aload_n 0, 1) := by decide +kernel
theorem dX5_readsTag_40 : decode cX5_readsTag 40 = .ok (.getfield 139, 3) := by decide +kernel
theorem dX5_readsTag_43 : decode cX5_readsTag 43 = .ok (.ifCond .ne 28, 3) := by decide +kernel
theorem dX5_readsTag_46 : decode cX5_readsTag 46 = .ok (.iload_n 1, 1) := by decide +kernel
theorem dX5_readsTag_47 : decode cX5_readsTag 47 = .ok (.ifCond .eq 12, 3) := by decide +kernel
theorem dX5_readsTag_50 : decode cX5_readsTag 50 = .ok (.aload_n 0, 1) := by decide +kernel
theorem dX5_readsTag_51 : decode cX5_readsTag 51 = .ok (.iload_n 2, 1) := by decide +kernel
theorem dX5_readsTag_52 : decode cX5_readsTag 52 = .ok (.iload_n 3, 1) := by decide +kernel
theorem dX5_readsTag_53 : decode cX5_readsTag 53 = .ok (.invokevirtual 43, 3) := by decide +kernel
theorem dX5_readsTag_56 : decode cX5_readsTag 56 = .ok (.goto 9, 3) := by decide +kernel
theorem dX5_readsTag_59 : decode cX5_readsTag 59 = .ok (.aload_n 0, 1) := by decide +kernel
theorem dX5_readsTag_60 : decode cX5_readsTag 60 = .ok (.iload_n 2, 1) := by decide +kernel
theorem dX5_readsTag_61 : decode cX5_readsTag 61 = .ok (.iload_n 3, 1) := by decide +kernel
theorem dX5_readsTag_62 : decode cX5_readsTag 62 = .ok (.invokevirtual 55, 3) := by decide +kernel
theorem dX5_readsTag_65 : decode cX5_readsTag 65 = .ok (.istore 4, 2) := by decide +kernel
theorem dX5_readsTag_67 : decode cX5_readsTag 67 = .ok (.aload_n 0, 1) := by decide +kernel
theorem dX5_readsTag_68 : decode cX5_readsTag 68 = .ok (.invokevirtual 145, 3) := by decide +kernel
theorem dX5_readsTag_71 : decode cX5_readsTag 71 = .ok (.return_, 1) := by decide +kernel
theorem dX5_readsWrite_0 : decode cX5_readsWrite 0 = .ok (.aload_n 0, 1) := by decide +kernel
theorem dX5_readsWrite_1 : decode cX5_readsWrite 1 = .ok (.invokevirtual 145, 3) := by decide +kernel
theorem dX5_readsWrite_4 : decode cX5_readsWrite 4 = .ok (.aload_n 0, 1) := by decide +kernel
theorem dX5_readsWrite_5 : decode cX5_readsWrite 5 = .ok (.invokevirtual 157, 3) := by decide +kernel
theorem dX5_readsWrite_8 : decode cX5_readsWrite 8 = .ok (.istore_n 1, 1) := by decide +kernel
theorem dX5_readsWrite_9 : decode cX5_readsWrite 9 = .ok (.aload_n 0, 1) := by decide +kernel
theorem dX5_readsWrite_10 : decode cX5_readsWrite 10 = .ok (.iconst 0, 1) := by decide +kernel
theorem dX5_readsWrite_11 : decode cX5_readsWrite 11 = .ok (.aload_n 0, 1) := by decide +kernel
theorem dX5_readsWrite_12 : decode cX5_readsWrite 12 = .ok (.getfield 13, 3) := by decide +kernel
theorem dX5_readsWrite_15 : decode cX5_readsWrite 15 = .ok (.iconst 2, 1) := by decide +kernel
theorem dX5_readsWrite_16 : decode cX5_readsWrite 16 = .ok (.iaload, 1) := by decide +kernel
theorem dX5_readsWrite_17 : decode cX5_readsWrite 17 = .ok (.iconst 1, 1) := by decide +kernel
theorem dX5_readsWrite_18 : decode cX5_readsWrite 18 = .ok (.isub, 1) := by decide +kernel
theorem dX5_readsWrite_19 : decode cX5_readsWrite 19 = .ok (.invokevirtual 154, 3) := by decide +kernel
theorem dX5_readsWrite_22 : decode cX5_readsWrite 22 = .ok (.istore_n 2, 1) := by decide +kernel
theorem dX5_readsWrite_23 : decode cX5_readsWrite 23 = .ok (.aload_n 0, 1) := by decide +kernel
theorem dX5_readsWrite_24 : decode cX5_readsWrite 24 = .ok (.iconst 0, 1) := by decide +kernel
theorem dX5_readsWrite_25 : decode cX5_readsWrite 25 = .ok (.bipush 99, 2) := by decide +kernel
theorem dX5_readsWrite_27 : decode cX5_readsWrite 27 = .ok (.invokevirtual 154, 3) := by decide +kernel
theorem dX5_readsWrite_30 : decode cX5_readsWrite 30 = .ok (.istore_n 3, 1) := by decide +kernel
theorem dX5_readsWrite_31 : decode cX5_readsWrite 31 = .ok (.aload_n 0, 1) := by decide +kernel
theorem dX5_readsWrite_32 : decode cX5_readsWrite 32 = .ok (.getfield 139, 3) := by decide +kernel
theorem dX5_readsWrite_35 : decode cX5_readsWrite 35 = .ok (.ifCond .ne 12, 3) := by decide +kernel
theorem dX5_readsWrite_38 : decode cX5_readsWrite 38 = .ok (.aload_n 0, 1) := by decide +kernel
theorem dX5_readsWrite_39 : decode cX5_readsWrite 39 = .ok (.iload_n 1, 1) := by decide +kernel
theorem dX5_readsWrite_40 : decode cX5_readsWrite 40 = .ok (.iload_n 2, 1) := by decide +kernel
theorem dX5_readsWrite_41 : decode cX5_readsWrite 41 = .ok (.iload_n 3, 1) := by decide +kernel
theorem dX5_readsWrite_42 : decode cX5_readsWrite 42 = .ok (.invokevirtual 58, 3) := by decide +kernel
theorem dX5_readsWrite_45 : decode cX5_readsWrite 45 = .ok (.istore 4, 2) := by decide +kernel
theorem dX5_readsWrite_47 : decode cX5_readsWrite 47 = .ok (.return_, 1) := by decide +kernel
theorem dX5_readsMerge_0 : decode cX5_readsMerge 0 = .ok (.aload_n 0, 1) := by decide +kernel
theorem dX5_readsMerge_1 : decode cX5_readsMerge 1 = .ok (.invokevirtual 145, 3) := by decide +kernel
theorem dX5_readsMerge_4 : decode cX5_readsMerge 4 = .ok (.aload_n 0, 1) := by decide +kernel
theorem dX5_readsMerge_5 : decode cX5_readsMerge 5 = .ok (.invokevirtual 157, 3) := by decide +kernel
theorem dX5_readsMerge_8 : decode cX5_readsMerge 8 = .ok (.istore_n 1, 1) := by decide +kernel
theorem dX5_readsMerge_9 : decode cX5_readsMerge 9 = .ok (.aload_n 0, 1) := by decide +kernel
theorem dX5_readsMerge_10 : decode cX5_readsMerge 10 = .ok (.invokevirtual 157, 3) := by decide +kernel
theorem dX5_readsMerge_13 : decode cX5_readsMerge 13 = .ok (.istore_n 2, 1) := by decide +kernel
theorem dX5_readsMerge_14 : decode cX5_readsMerge 14 = .ok (.aload_n 0, 1) := by decide +kernel
theorem dX5_readsMerge_15 : decode cX5_readsMerge 15 = .ok (.getfield 139, 3) := by decide +kernel
theorem dX5_readsMerge_18 : decode cX5_readsMerge 18 = .ok (.ifCond .ne 9, 3) := by decide +kernel
theorem dX5_readsMerge_21 : decode cX5_readsMerge 21 = .ok (.aload_n 0, 1) := by decide +kernel
theorem dX5_readsMerge_22 : decode cX5_readsMerge 22 = .ok (.iload_n 1, 1) := by decide +kernel
theorem dX5_readsMerge_23 : decode cX5_readsMerge 23 = .ok (.iload_n 2, 1) := by decide +kernel
theorem dX5_readsMerge_24 : decode cX5_readsMerge 24 = .ok (.invokevirtual 51, 3) := by decide +kernel
theorem dX5_readsMerge_27 : decode cX5_readsMerge 27 = .ok (.return_, 1) := by decide +kernel
theorem dX5_readsSend_0 : decode cX5_readsSend 0 = .ok (.aload_n 0, 1) := by decide +kernel
theorem dX5_readsSend_1 : decode cX5_readsSend 1 = .ok (.getfield 13, 3) := by decide +kernel
theorem dX5_readsSend_4 : decode cX5_readsSend 4 = .ok (.iconst 3, 1) := by decide +kernel
theorem dX5_readsSend_5 : decode cX5_readsSend 5 = .ok (.iaload, 1) := by decide +kernel
theorem dX5_readsSend_6 : decode cX5_readsSend 6 = .ok (.bipush 6, 2) := by decide +kernel
theorem dX5_readsSend_8 : decode cX5_readsSend 8 = .ok (.if_icmp .ne 9, 3) := by decide +kernel
theorem dX5_readsSend_11 : decode cX5_readsSend 11 = .ok (.aload_n 0, 1) := by decide +kernel
theorem dX5_readsSend_12 : decode cX5_readsSend 12 = .ok (.iconst 4, 1) := by decide +kernel
theorem dX5_readsSend_13 : decode cX5_readsSend 13 = .ok (.invokevirtual 148, 3) := by decide +kernel
theorem dX5_readsSend_16 : decode cX5_readsSend 16 = .ok (.return_, 1) := by decide +kernel
theorem dX5_readsSend_17 : decode cX5_readsSend 17 = .ok (.aload_n 0, 1) := by decide +kernel
theorem dX5_readsSend_18 : decode cX5_readsSend 18 = .ok (.invokevirtual 145, 3) := by decide +kernel
theorem dX5_readsSend_21 : decode cX5_readsSend 21 = .ok (.aload_n 0, 1) := by decide +kernel
theorem dX5_readsSend_22 : decode cX5_readsSend 22 = .ok (.invokevirtual 157, 3) := by decide +kernel
theorem dX5_readsSend_25 : decode cX5_readsSend 25 = .ok (.istore_n 1, 1) := by decide +kernel
theorem dX5_readsSend_26 : decode cX5_readsSend 26 = .ok (.aload_n 0, 1) := by decide +kernel
theorem dX5_readsSend_27 : decode cX5_readsSend 27 = .ok (.getfield 139, 3) := by decide +kernel
theorem dX5_readsSend_30 : decode cX5_readsSend 30 = .ok (.ifCond .ne 8, 3) := by decide +kernel
theorem dX5_readsSend_33 : decode cX5_readsSend 33 = .ok (.aload_n 0, 1) := by decide +kernel
theorem dX5_readsSend_34 : decode cX5_readsSend 34 = .ok (.iload_n 1, 1) := by decide +kernel
theorem dX5_readsSend_35 : decode cX5_readsSend 35 = .ok (.invokevirtual 47, 3) := by decide +kernel
theorem dX5_readsSend_38 : decode cX5_readsSend 38 = .ok (.return_, 1) := by decide +kernel
theorem dX5_readsDeliver_0 : decode cX5_readsDeliver 0 = .ok (.aload_n 0, 1) := by decide +kernel
theorem dX5_readsDeliver_1 : decode cX5_readsDeliver 1 = .ok (.invokevirtual 145, 3) := by decide +kernel
theorem dX5_readsDeliver_4 : decode cX5_readsDeliver 4 = .ok (.aload_n 0, 1) := by decide +kernel
theorem dX5_readsDeliver_5 : decode cX5_readsDeliver 5 = .ok (.iconst 0, 1) := by decide +kernel
theorem dX5_readsDeliver_6 : decode cX5_readsDeliver 6 = .ok (.aload_n 0, 1) := by decide +kernel
theorem dX5_readsDeliver_7 : decode cX5_readsDeliver 7 = .ok (.getfield 13, 3) := by decide +kernel
theorem dX5_readsDeliver_10 : decode cX5_readsDeliver 10 = .ok (.iconst 3, 1) := by decide +kernel
theorem dX5_readsDeliver_11 : decode cX5_readsDeliver 11 = .ok (.iaload, 1) := by decide +kernel
theorem dX5_readsDeliver_12 : decode cX5_readsDeliver 12 = .ok (.iconst 1, 1) := by decide +kernel
theorem dX5_readsDeliver_13 : decode cX5_readsDeliver 13 = .ok (.isub, 1) := by decide +kernel
theorem dX5_readsDeliver_14 : decode cX5_readsDeliver 14 = .ok (.invokevirtual 154, 3) := by decide +kernel
theorem dX5_readsDeliver_17 : decode cX5_readsDeliver 17 = .ok (.istore_n 1, 1) := by decide +kernel
theorem dX5_readsDeliver_18 : decode cX5_readsDeliver 18 = .ok (.aload_n 0, 1) := by decide +kernel
theorem dX5_readsDeliver_19 : decode cX5_readsDeliver 19 = .ok (.invokevirtual 157, 3) := by decide +kernel
theorem dX5_readsDeliver_22 : decode cX5_readsDeliver 22 = .ok (.istore_n 2, 1) := by decide +kernel
theorem dX5_readsDeliver_23 : decode cX5_readsDeliver 23 = .ok (.aload_n 0, 1) := by decide +kernel
theorem dX5_readsDeliver_24 : decode cX5_readsDeliver 24 = .ok (.getfield 139, 3) := by decide +kernel
theorem dX5_readsDeliver_27 : decode cX5_readsDeliver 27 = .ok (.ifCond .ne 11, 3) := by decide +kernel
theorem dX5_readsDeliver_30 : decode cX5_readsDeliver 30 = .ok (.aload_n 0, 1) := by decide +kernel
theorem dX5_readsDeliver_31 : decode cX5_readsDeliver 31 = .ok (.iload_n 2, 1) := by decide +kernel
theorem dX5_readsDeliver_32 : decode cX5_readsDeliver 32 = .ok (.iconst 4, 1) := by decide +kernel
theorem dX5_readsDeliver_33 : decode cX5_readsDeliver 33 = .ok (.iload_n 1, 1) := by decide +kernel
theorem dX5_readsDeliver_34 : decode cX5_readsDeliver 34 = .ok (.iadd, 1) := by decide +kernel
theorem dX5_readsDeliver_35 : decode cX5_readsDeliver 35 = .ok (.invokevirtual 51, 3) := by decide +kernel
theorem dX5_readsDeliver_38 : decode cX5_readsDeliver 38 = .ok (.return_, 1) := by decide +kernel
theorem dX5_readsLine_0 : decode cX5_readsLine 0 = .ok (.aload_n 0, 1) := by decide +kernel
theorem dX5_readsLine_1 : decode cX5_readsLine 1 = .ok (.iconst 1, 1) := by decide +kernel
theorem dX5_readsLine_2 : decode cX5_readsLine 2 = .ok (.invokevirtual 164, 3) := by decide +kernel
theorem dX5_readsLine_5 : decode cX5_readsLine 5 = .ok (.ifCond .eq 11, 3) := by decide +kernel
theorem dX5_readsLine_8 : decode cX5_readsLine 8 = .ok (.aload_n 0, 1) := by decide +kernel
theorem dX5_readsLine_9 : decode cX5_readsLine 9 = .ok (.iconst 1, 1) := by decide +kernel
theorem dX5_readsLine_10 : decode cX5_readsLine 10 = .ok (.invokevirtual 167, 3) := by decide +kernel
theorem dX5_readsLine_13 : decode cX5_readsLine 13 = .ok (.goto 119, 3) := by decide +kernel
theorem dX5_readsLine_16 : decode cX5_readsLine 16 = .ok (.aload_n 0, 1) := by decide +kernel
theorem dX5_readsLine_17 : decode cX5_readsLine 17 = .ok (.iconst 2, 1) := by decide +kernel
theorem dX5_readsLine_18 : decode cX5_readsLine 18 = .ok (.invokevirtual 164, 3) := by decide +kernel
theorem dX5_readsLine_21 : decode cX5_readsLine 21 = .ok (.ifCond .eq 11, 3) := by decide +kernel
theorem dX5_readsLine_24 : decode cX5_readsLine 24 = .ok (.aload_n 0, 1) := by decide +kernel
theorem dX5_readsLine_25 : decode cX5_readsLine 25 = .ok (.iconst 0, 1) := by decide +kernel
theorem dX5_readsLine_26 : decode cX5_readsLine 26 = .ok (.invokevirtual 167, 3) := by decide +kernel
theorem dX5_readsLine_29 : decode cX5_readsLine 29 = .ok (.goto 103, 3) := by decide +kernel
theorem dX5_readsLine_32 : decode cX5_readsLine 32 = .ok (.aload_n 0, 1) := by decide +kernel
theorem dX5_readsLine_33 : decode cX5_readsLine 33 = .ok (.iconst 3, 1) := by decide +kernel
theorem dX5_readsLine_34 : decode cX5_readsLine 34 = .ok (.invokevirtual 164, 3) := by decide +kernel
theorem dX5_readsLine_37 : decode cX5_readsLine 37 = .ok (.ifCond .eq 11, 3) := by decide +kernel
theorem dX5_readsLine_40 : decode cX5_readsLine 40 = .ok (.aload_n 0, 1) := by decide +kernel
theorem dX5_readsLine_41 : decode cX5_readsLine 41 = .ok (.iconst 1, 1) := by decide +kernel
theorem dX5_readsLine_42 : decode cX5_readsLine 42 = .ok (.invokevirtual 171, 3) := by decide +kernel
theorem dX5_readsLine_45 : decode cX5_readsLine 45 = .ok (.goto 87, 3) := by decide +kernel
theorem dX5_readsLine_48 : decode cX5_readsLine 48 = .ok (.aload_n 0, 1) := by decide +kernel
theorem dX5_readsLine_49 : decode cX5_readsLine 49 = .ok (.iconst 4, 1) := by decide +kernel
theorem dX5_readsLine_50 : decode cX5_readsLine 50 = .ok (.invokevirtual 164, 3) := by decide +kernel
theorem dX5_readsLine_53 : decode cX5_readsLine 53 = .ok (.ifCond .eq 11, 3) := by decide +kernel
theorem dX5_readsLine_56 : decode cX5_readsLine 56 = .ok (.aload_n 0, 1) := by decide +kernel
theorem dX5_readsLine_57 : decode cX5_readsLine 57 = .ok (.iconst 0, 1) := by decide +kernel
theorem dX5_readsLine_58 : decode cX5_readsLine 58 = .ok (.invokevirtual 171, 3) := by decide +kernel
theorem dX5_readsLine_61 : decode cX5_readsLine 61 = .ok (.goto 71, 3) := by decide +kernel
theorem dX5_readsLine_64 : decode cX5_readsLine 64 = .ok (.aload_n 0, 1) := by decide +kernel
theorem dX5_readsLine_65 : decode cX5_readsLine 65 = .ok (.iconst 5, 1) := by decide +kernel
theorem dX5_readsLine_66 : decode cX5_readsLine 66 = .ok (.invokevirtual 164, 3) := by decide +kernel
theorem dX5_readsLine_69 : decode cX5_readsLine 69 = .ok (.ifCond .eq 10, 3) := by decide +kernel
theorem dX5_readsLine_72 : decode cX5_readsLine 72 = .ok (.aload_n 0, 1) := by decide +kernel
theorem dX5_readsLine_73 : decode cX5_readsLine 73 = .ok (.invokevirtual 174, 3) := by decide +kernel
theorem dX5_readsLine_76 : decode cX5_readsLine 76 = .ok (.goto 56, 3) := by decide +kernel
theorem dX5_readsLine_79 : decode cX5_readsLine 79 = .ok (.aload_n 0, 1) := by decide +kernel
theorem dX5_readsLine_80 : decode cX5_readsLine 80 = .ok (.bipush 6, 2) := by decide +kernel
theorem dX5_readsLine_82 : decode cX5_readsLine 82 = .ok (.invokevirtual 164, 3) := by decide +kernel
theorem dX5_readsLine_85 : decode cX5_readsLine 85 = .ok (.ifCond .eq 10, 3) := by decide +kernel
theorem dX5_readsLine_88 : decode cX5_readsLine 88 = .ok (.aload_n 0, 1) := by decide +kernel
theorem dX5_readsLine_89 : decode cX5_readsLine 89 = .ok (.invokevirtual 177, 3) := by decide +kernel
theorem dX5_readsLine_92 : decode cX5_readsLine 92 = .ok (.goto 40, 3) := by decide +kernel
theorem dX5_readsLine_95 : decode cX5_readsLine 95 = .ok (.aload_n 0, 1) := by decide +kernel
theorem dX5_readsLine_96 : decode cX5_readsLine 96 = .ok (.bipush 7, 2) := by decide +kernel
theorem dX5_readsLine_98 : decode cX5_readsLine 98 = .ok (.invokevirtual 164, 3) := by decide +kernel
theorem dX5_readsLine_101 : decode cX5_readsLine 101 = .ok (.ifCond .eq 10, 3) := by decide +kernel
theorem dX5_readsLine_104 : decode cX5_readsLine 104 = .ok (.aload_n 0, 1) := by decide +kernel
theorem dX5_readsLine_105 : decode cX5_readsLine 105 = .ok (.invokevirtual 180, 3) := by decide +kernel
theorem dX5_readsLine_108 : decode cX5_readsLine 108 = .ok (.goto 24, 3) := by decide +kernel
theorem dX5_readsLine_111 : decode cX5_readsLine 111 = .ok (.aload_n 0, 1) := by decide +kernel
theorem dX5_readsLine_112 : decode cX5_readsLine 112 = .ok (.bipush 8, 2) := by decide +kernel
theorem dX5_readsLine_114 : decode cX5_readsLine 114 = .ok (.invokevirtual 164, 3) := by decide +kernel
theorem dX5_readsLine_117 : decode cX5_readsLine 117 = .ok (.ifCond .eq 10, 3) := by decide +kernel
theorem dX5_readsLine_120 : decode cX5_readsLine 120 = .ok (.aload_n 0, 1) := by decide +kernel
theorem dX5_readsLine_121 : decode cX5_readsLine 121 = .ok (.invokevirtual 183, 3) := by decide +kernel
theorem dX5_readsLine_124 : decode cX5_readsLine 124 = .ok (.goto 8, 3) := by decide +kernel
theorem dX5_readsLine_127 : decode cX5_readsLine 127 = .ok (.aload_n 0, 1) := by decide +kernel
theorem dX5_readsLine_128 : decode cX5_readsLine 128 = .ok (.iconst 1, 1) := by decide +kernel
theorem dX5_readsLine_129 : decode cX5_readsLine 129 = .ok (.invokevirtual 148, 3) := by decide +kernel
theorem dX5_readsLine_132 : decode cX5_readsLine 132 = .ok (.return_, 1) := by decide +kernel
theorem dX5_readsText_0 : decode cX5_readsText 0 = .ok (.iconst 0, 1) := by decide +kernel
theorem dX5_readsText_1 : decode cX5_readsText 1 = .ok (.istore_n 2, 1) := by decide +kernel
theorem dX5_readsText_2 : decode cX5_readsText 2 = .ok (.iload_n 2, 1) := by decide +kernel
theorem dX5_readsText_3 : decode cX5_readsText 3 = .ok (.sipush 1330, 3) := by decide +kernel
theorem dX5_readsText_6 : decode cX5_readsText 6 = .ok (.if_icmp .ge 16, 3) := by decide +kernel
theorem dX5_readsText_9 : decode cX5_readsText 9 = .ok (.aload_n 0, 1) := by decide +kernel
theorem dX5_readsText_10 : decode cX5_readsText 10 = .ok (.getfield 13, 3) := by decide +kernel
theorem dX5_readsText_13 : decode cX5_readsText 13 = .ok (.iload_n 2, 1) := by decide +kernel
theorem dX5_readsText_14 : decode cX5_readsText 14 = .ok (.iconst 0, 1) := by decide +kernel
theorem dX5_readsText_15 : decode cX5_readsText 15 = .ok (.iastore, 1) := by decide +kernel
theorem dX5_readsText_16 : decode cX5_readsText 16 = .ok (.iinc 2 1, 3) := by decide +kernel
theorem dX5_readsText_19 : decode cX5_readsText 19 = .ok (.goto (-17), 3) := by decide +kernel
theorem dX5_readsText_22 : decode cX5_readsText 22 = .ok (.aload_n 0, 1) := by decide +kernel
theorem dX5_readsText_23 : decode cX5_readsText 23 = .ok (.iload_n 1, 1) := by decide +kernel
theorem dX5_readsText_24 : decode cX5_readsText 24 = .ok (.putfield 126, 3) := by decide +kernel
theorem dX5_readsText_27 : decode cX5_readsText 27 = .ok (.aload_n 0, 1) := by decide +kernel
theorem dX5_readsText_28 : decode cX5_readsText 28 = .ok (.iconst 0, 1) := by decide +kernel
theorem dX5_readsText_29 : decode cX5_readsText 29 = .ok (.putfield 139, 3) := by decide +kernel
theorem dX5_readsText_32 : decode cX5_readsText 32 = .ok (.aload_n 0, 1) := by decide +kernel
theorem dX5_readsText_33 : decode cX5_readsText 33 = .ok (.iconst 0, 1) := by decide +kernel
theorem dX5_readsText_34 : decode cX5_readsText 34 = .ok (.putfield 117, 3) := by decide +kernel
theorem dX5_readsText_37 : decode cX5_readsText 37 = .ok (.aload_n 0, 1) := by decide +kernel
theorem dX5_readsText_38 : decode cX5_readsText 38 = .ok (.iconst 0, 1) := by decide +kernel
theorem dX5_readsText_39 : decode cX5_readsText 39 = .ok (.putfield 120, 3) := by decide +kernel
theorem dX5_readsText_42 : decode cX5_readsText 42 = .ok (.aload_n 0, 1) := by decide +kernel
theorem dX5_readsText_43 : decode cX5_readsText 43 = .ok (.invokevirtual 145, 3) := by decide +kernel
theorem dX5_readsText_46 : decode cX5_readsText 46 = .ok (.aload_n 0, 1) := by decide +kernel
theorem dX5_readsText_47 : decode cX5_readsText 47 = .ok (.iconst 0, 1) := by decide +kernel
theorem dX5_readsText_48 : decode cX5_readsText 48 = .ok (.invokevirtual 164, 3) := by decide +kernel
theorem dX5_readsText_51 : decode cX5_readsText 51 = .ok (.ifCond .eq 10, 3) := by decide +kernel
theorem dX5_readsText_54 : decode cX5_readsText 54 = .ok (.aload_n 0, 1) := by decide +kernel
theorem dX5_readsText_55 : decode cX5_readsText 55 = .ok (.invokevirtual 145, 3) := by decide +kernel
theorem dX5_readsText_58 : decode cX5_readsText 58 = .ok (.goto 8, 3) := by decide +kernel
theorem dX5_readsText_61 : decode cX5_readsText 61 = .ok (.aload_n 0, 1) := by decide +kernel
theorem dX5_readsText_62 : decode cX5_readsText 62 = .ok (.iconst 1, 1) := by decide +kernel
theorem dX5_readsText_63 : decode cX5_readsText 63 = .ok (.invokevirtual 148, 3) := by decide +kernel
theorem dX5_readsText_66 : decode cX5_readsText 66 = .ok (.aload_n 0, 1) := by decide +kernel
theorem dX5_readsText_67 : decode cX5_readsText 67 = .ok (.getfield 13, 3) := by decide +kernel
theorem dX5_readsText_70 : decode cX5_readsText 70 = .ok (.iconst 0, 1) := by decide +kernel
theorem dX5_readsText_71 : decode cX5_readsText 71 = .ok (.aload_n 0, 1) := by decide +kernel
theorem dX5_readsText_72 : decode cX5_readsText 72 = .ok (.iconst 1, 1) := by decide +kernel
theorem dX5_readsText_73 : decode cX5_readsText 73 = .ok (.iconst 4, 1) := by decide +kernel
theorem dX5_readsText_74 : decode cX5_readsText 74 = .ok (.invokevirtual 154, 3) := by decide +kernel
theorem dX5_readsText_77 : decode cX5_readsText 77 = .ok (.iastore, 1) := by decide +kernel
theorem dX5_readsText_78 : decode cX5_readsText 78 = .ok (.aload_n 0, 1) := by decide +kernel
theorem dX5_readsText_79 : decode cX5_readsText 79 = .ok (.getfield 13, 3) := by decide +kernel
theorem dX5_readsText_82 : decode cX5_readsText 82 = .ok (.iconst 1, 1) := by decide +kernel
theorem dX5_readsText_83 : decode cX5_readsText 83 = .ok (.aload_n 0, 1) := by decide +kernel
theorem dX5_readsText_84 : decode cX5_readsText 84 = .ok (.iconst 0, 1) := by decide +kernel
theorem dX5_readsText_85 : decode cX5_readsText 85 = .ok (.iconst 4, 1) := by decide +kernel
theorem dX5_readsText_86 : decode cX5_readsText 86 = .ok (.invokevirtual 154, 3) := by decide +kernel
theorem dX5_readsText_89 : decode cX5_readsText 89 = .ok (.iastore, 1) := by decide +kernel
theorem dX5_readsText_90 : decode cX5_readsText 90 = .ok (.aload_n 0, 1) := by decide +kernel
theorem dX5_readsText_91 : decode cX5_readsText 91 = .ok (.getfield 13, 3) := by decide +kernel
theorem dX5_readsText_94 : decode cX5_readsText 94 = .ok (.iconst 2, 1) := by decide +kernel
theorem dX5_readsText_95 : decode cX5_readsText 95 = .ok (.aload_n 0, 1) := by decide +kernel
theorem dX5_readsText_96 : decode cX5_readsText 96 = .ok (.iconst 0, 1) := by decide +kernel
theorem dX5_readsText_97 : decode cX5_readsText 97 = .ok (.iconst 4, 1) := by decide +kernel
theorem dX5_readsText_98 : decode cX5_readsText 98 = .ok (.invokevirtual 154, 3) := by decide +kernel
theorem dX5_readsText_101 : decode cX5_readsText 101 = .ok (.iastore, 1) := by decide +kernel
theorem dX5_readsText_102 : decode cX5_readsText 102 = .ok (.aload_n 0, 1) := by decide +kernel
theorem dX5_readsText_103 : decode cX5_readsText 103 = .ok (.getfield 139, 3) := by decide +kernel
theorem dX5_readsText_106 : decode cX5_readsText 106 = .ok (.ifCond .ne 37, 3) := by decide +kernel
theorem dX5_readsText_109 : decode cX5_readsText 109 = .ok (.aload_n 0, 1) := by decide +kernel
theorem dX5_readsText_110 : decode cX5_readsText 110 = .ok (.getfield 117, 3) := by decide +kernel
theorem dX5_readsText_113 : decode cX5_readsText 113 = .ok (.ifCond .eq 30, 3) := by decide +kernel
theorem dX5_readsText_116 : decode cX5_readsText 116 = .ok (.aload_n 0, 1) := by decide +kernel
theorem dX5_readsText_117 : decode cX5_readsText 117 = .ok (.getfield 117, 3) := by decide +kernel
theorem dX5_readsText_120 : decode cX5_readsText 120 = .ok (.iconst 3, 1) := by decide +kernel
theorem dX5_readsText_121 : decode cX5_readsText 121 = .ok (.if_icmp .ne 14, 3) := by decide +kernel
theorem dX5_readsText_124 : decode cX5_readsText 124 = .ok (.aload_n 0, 1) := by decide +kernel
theorem dX5_readsText_125 : decode cX5_readsText 125 = .ok (.invokevirtual 145, 3) := by decide +kernel
theorem dX5_readsText_128 : decode cX5_readsText 128 = .ok (.aload_n 0, 1) := by decide +kernel
theorem dX5_readsText_129 : decode cX5_readsText 129 = .ok (.invokevirtual 186, 3) := by decide +kernel
theorem dX5_readsText_132 : decode cX5_readsText 132 = .ok (.goto (-30), 3) := by decide +kernel
theorem dX5_readsText_135 : decode cX5_readsText 135 = .ok (.aload_n 0, 1) := by decide +kernel
theorem dX5_readsText_136 : decode cX5_readsText 136 = .ok (.iconst 1, 1) := by decide +kernel
theorem dX5_readsText_137 : decode cX5_readsText 137 = .ok (.invokevirtual 148, 3) := by decide +kernel
theorem dX5_readsText_140 : decode cX5_readsText 140 = .ok (.goto (-38), 3) := by decide +kernel
theorem dX5_readsText_143 : decode cX5_readsText 143 = .ok (.return_, 1) := by decide +kernel
theorem dX5_feeds_0 : decode cX5_feeds 0 = .ok (.aload_n 0, 1) := by decide +kernel
theorem dX5_feeds_1 : decode cX5_feeds 1 = .ok (.getfield 25, 3) := by decide +kernel
theorem dX5_feeds_4 : decode cX5_feeds 4 = .ok (.aload_n 0, 1) := by decide +kernel
theorem dX5_feeds_5 : decode cX5_feeds 5 = .ok (.getfield 189, 3) := by decide +kernel
theorem dX5_feeds_8 : decode cX5_feeds 8 = .ok (.iload_n 1, 1) := by decide +kernel
theorem dX5_feeds_9 : decode cX5_feeds 9 = .ok (.bipush 24, 2) := by decide +kernel
theorem dX5_feeds_11 : decode cX5_feeds 11 = .ok (.ishr, 1) := by decide +kernel
theorem dX5_feeds_12 : decode cX5_feeds 12 = .ok (.i2b, 1) := by decide +kernel
theorem dX5_feeds_13 : decode cX5_feeds 13 = .ok (.bastore, 1) := by decide +kernel
theorem dX5_feeds_14 : decode cX5_feeds 14 = .ok (.aload_n 0, 1) := by decide +kernel
theorem dX5_feeds_15 : decode cX5_feeds 15 = .ok (.getfield 25, 3) := by decide +kernel
theorem dX5_feeds_18 : decode cX5_feeds 18 = .ok (.aload_n 0, 1) := by decide +kernel
theorem dX5_feeds_19 : decode cX5_feeds 19 = .ok (.getfield 189, 3) := by decide +kernel
theorem dX5_feeds_22 : decode cX5_feeds 22 = .ok (.iconst 1, 1) := by decide +kernel
theorem dX5_feeds_23 : decode cX5_feeds 23 = .ok (.iadd, 1) := by decide +kernel
theorem dX5_feeds_24 : decode cX5_feeds 24 = .ok (.iload_n 1, 1) := by decide +kernel
theorem dX5_feeds_25 : decode cX5_feeds 25 = .ok (.bipush 16, 2) := by decide +kernel
theorem dX5_feeds_27 : decode cX5_feeds 27 = .ok (.ishr, 1) := by decide +kernel
theorem dX5_feeds_28 : decode cX5_feeds 28 = .ok (.i2b, 1) := by decide +kernel
theorem dX5_feeds_29 : decode cX5_feeds 29 = .ok (.bastore, 1) := by decide +kernel
theorem dX5_feeds_30 : decode cX5_feeds 30 = .ok (.aload_n 0, 1) := by decide +kernel
theorem dX5_feeds_31 : decode cX5_feeds 31 = .ok (.getfield 25, 3) := by decide +kernel
theorem dX5_feeds_34 : decode cX5_feeds 34 = .ok (.aload_n 0, 1) := by decide +kernel
theorem dX5_feeds_35 : decode cX5_feeds 35 = .ok (.getfield 189, 3) := by decide +kernel
theorem dX5_feeds_38 : decode cX5_feeds 38 = .ok (.iconst 2, 1) := by decide +kernel
theorem dX5_feeds_39 : decode cX5_feeds 39 = .ok (.iadd, 1) := by decide +kernel
theorem dX5_feeds_40 : decode cX5_feeds 40 = .ok (.iload_n 1, 1) := by decide +kernel
theorem dX5_feeds_41 : decode cX5_feeds 41 = .ok (.bipush 8, 2) := by decide +kernel
theorem dX5_feeds_43 : decode cX5_feeds 43 = .ok (.ishr, 1) := by decide +kernel
theorem dX5_feeds_44 : decode cX5_feeds 44 = .ok (.i2b, 1) := by decide +kernel
theorem dX5_feeds_45 : decode cX5_feeds 45 = .ok (.bastore, 1) := by decide +kernel
theorem dX5_feeds_46 : decode cX5_feeds 46 = .ok (.aload_n 0, 1) := by decide +kernel
theorem dX5_feeds_47 : decode cX5_feeds 47 = .ok (.getfield 25, 3) := by decide +kernel
theorem dX5_feeds_50 : decode cX5_feeds 50 = .ok (.aload_n 0, 1) := by decide +kernel
theorem dX5_feeds_51 : decode cX5_feeds 51 = .ok (.getfield 189, 3) := by decide +kernel
theorem dX5_feeds_54 : decode cX5_feeds 54 = .ok (.iconst 3, 1) := by decide +kernel
theorem dX5_feeds_55 : decode cX5_feeds 55 = .ok (.iadd, 1) := by decide +kernel
theorem dX5_feeds_56 : decode cX5_feeds 56 = .ok (.iload_n 1, 1) := by decide +kernel
theorem dX5_feeds_57 : decode cX5_feeds 57 = .ok (.i2b, 1) := by decide +kernel
theorem dX5_feeds_58 : decode cX5_feeds 58 = .ok (.bastore, 1) := by decide +kernel
theorem dX5_feeds_59 : decode cX5_feeds 59 = .ok (.aload_n 0, 1) := by decide +kernel
theorem dX5_feeds_60 : decode cX5_feeds 60 = .ok (.dup, 1) := by decide +kernel
theorem dX5_feeds_61 : decode cX5_feeds 61 = .ok (.getfield 189, 3) := by decide +kernel
theorem dX5_feeds_64 : decode cX5_feeds 64 = .ok (.iconst 4, 1) := by decide +kernel
theorem dX5_feeds_65 : decode cX5_feeds 65 = .ok (.iadd, 1) := by decide +kernel
theorem dX5_feeds_66 : decode cX5_feeds 66 = .ok (.putfield 189, 3) := by decide +kernel
theorem dX5_feeds_69 : decode cX5_feeds 69 = .ok (.return_, 1) := by decide +kernel
theorem dX5_append_0 : decode cX5_append 0 = .ok (.aload_n 0, 1) := by decide +kernel
theorem dX5_append_1 : decode cX5_append 1 = .ok (.getfield 189, 3) := by decide +kernel
theorem dX5_append_4 : decode cX5_append 4 = .ok (.sipush 580, 3) := by decide +kernel
theorem dX5_append_7 : decode cX5_append 7 = .ok (.if_icmp .le 9, 3) := by decide +kernel
theorem dX5_append_10 : decode cX5_append 10 = .ok (.aload_n 0, 1) := by decide +kernel
theorem dX5_append_11 : decode cX5_append 11 = .ok (.iconst 1, 1) := by decide +kernel
theorem dX5_append_12 : decode cX5_append 12 = .ok (.invokevirtual 192, 3) := by decide +kernel
theorem dX5_append_15 : decode cX5_append 15 = .ok (.ireturn, 1) := by decide +kernel
theorem dX5_append_16 : decode cX5_append 16 = .ok (.aload_n 0, 1) := by decide +kernel
theorem dX5_append_17 : decode cX5_append 17 = .ok (.iload_n 1, 1) := by decide +kernel
theorem dX5_append_18 : decode cX5_append 18 = .ok (.invokevirtual 195, 3) := by decide +kernel
theorem dX5_append_21 : decode cX5_append 21 = .ok (.aload_n 0, 1) := by decide +kernel
theorem dX5_append_22 : decode cX5_append 22 = .ok (.iload_n 2, 1) := by decide +kernel
theorem dX5_append_23 : decode cX5_append 23 = .ok (.invokevirtual 195, 3) := by decide +kernel
theorem dX5_append_26 : decode cX5_append 26 = .ok (.aload_n 0, 1) := by decide +kernel
theorem dX5_append_27 : decode cX5_append 27 = .ok (.iload_n 3, 1) := by decide +kernel
theorem dX5_append_28 : decode cX5_append 28 = .ok (.invokevirtual 195, 3) := by decide +kernel
theorem dX5_append_31 : decode cX5_append 31 = .ok (.aload_n 0, 1) := by decide +kernel
theorem dX5_append_32 : decode cX5_append 32 = .ok (.iload 4, 2) := by decide +kernel
theorem dX5_append_34 : decode cX5_append 34 = .ok (.invokevirtual 195, 3) := by decide +kernel
theorem dX5_append_37 : decode cX5_append 37 = .ok (.aload_n 0, 1) := by decide +kernel
theorem dX5_append_38 : decode cX5_append 38 = .ok (.iload 5, 2) := by decide +kernel
theorem dX5_append_40 : decode cX5_append 40 = .ok (.invokevirtual 195, 3) := by decide +kernel
theorem dX5_append_43 : decode cX5_append 43 = .ok (.aload_n 0, 1) := by decide +kernel
theorem dX5_append_44 : decode cX5_append 44 = .ok (.aload_n 0, 1) := by decide +kernel
theorem dX5_append_45 : decode cX5_append 45 = .ok (.getfield 189, 3) := by decide +kernel
theorem dX5_append_48 : decode cX5_append 48 = .ok (.invokevirtual 198, 3) := by decide +kernel
theorem dX5_append_51 : decode cX5_append 51 = .ok (.ireturn, 1) := by decide +kernel
theorem dX5_load_0 : decode cX5_load 0 = .ok (.iload_n 1, 1) := by decide +kernel
theorem dX5_load_1 : decode cX5_load 1 = .ok (.iconst 0, 1) := by decide +kernel
theorem dX5_load_2 : decode cX5_load 2 = .ok (.aload_n 0, 1) := by decide +kernel
theorem dX5_load_3 : decode cX5_load 3 = .ok (.getfield 189, 3) := by decide +kernel
theorem dX5_load_6 : decode cX5_load 6 = .ok (.invokestatic 68, 3) := by decide +kernel
theorem dX5_load_9 : decode cX5_load 9 = .ok (.ifCond .ne 9, 3) := by decide +kernel
theorem dX5_load_12 : decode cX5_load 12 = .ok (.aload_n 0, 1) := by decide +kernel
theorem dX5_load_13 : decode cX5_load 13 = .ok (.iconst 1, 1) := by decide +kernel
theorem dX5_load_14 : decode cX5_load 14 = .ok (.invokevirtual 192, 3) := by decide +kernel
theorem dX5_load_17 : decode cX5_load 17 = .ok (.ireturn, 1) := by decide +kernel
theorem dX5_load_18 : decode cX5_load 18 = .ok (.iconst 0, 1) := by decide +kernel
theorem dX5_load_19 : decode cX5_load 19 = .ok (.istore_n 2, 1) := by decide +kernel
theorem dX5_load_20 : decode cX5_load 20 = .ok (.iload_n 2, 1) := by decide +kernel
theorem dX5_load_21 : decode cX5_load 21 = .ok (.sipush 1330, 3) := by decide +kernel
theorem dX5_load_24 : decode cX5_load 24 = .ok (.if_icmp .ge 21, 3) := by decide +kernel
theorem dX5_load_27 : decode cX5_load 27 = .ok (.aload_n 0, 1) := by decide +kernel
theorem dX5_load_28 : decode cX5_load 28 = .ok (.getfield 16, 3) := by decide +kernel
theorem dX5_load_31 : decode cX5_load 31 = .ok (.iload_n 2, 1) := by decide +kernel
theorem dX5_load_32 : decode cX5_load 32 = .ok (.aload_n 0, 1) := by decide +kernel
theorem dX5_load_33 : decode cX5_load 33 = .ok (.getfield 13, 3) := by decide +kernel
theorem dX5_load_36 : decode cX5_load 36 = .ok (.iload_n 2, 1) := by decide +kernel
theorem dX5_load_37 : decode cX5_load 37 = .ok (.iaload, 1) := by decide +kernel
theorem dX5_load_38 : decode cX5_load 38 = .ok (.iastore, 1) := by decide +kernel
theorem dX5_load_39 : decode cX5_load 39 = .ok (.iinc 2 1, 3) := by decide +kernel
theorem dX5_load_42 : decode cX5_load 42 = .ok (.goto (-22), 3) := by decide +kernel
theorem dX5_load_45 : decode cX5_load 45 = .ok (.aload_n 0, 1) := by decide +kernel
theorem dX5_load_46 : decode cX5_load 46 = .ok (.iload_n 1, 1) := by decide +kernel
theorem dX5_load_47 : decode cX5_load 47 = .ok (.invokevirtual 201, 3) := by decide +kernel
theorem dX5_load_50 : decode cX5_load 50 = .ok (.aload_n 0, 1) := by decide +kernel
theorem dX5_load_51 : decode cX5_load 51 = .ok (.iconst 0, 1) := by decide +kernel
theorem dX5_load_52 : decode cX5_load 52 = .ok (.putfield 189, 3) := by decide +kernel
theorem dX5_load_55 : decode cX5_load 55 = .ok (.aload_n 0, 1) := by decide +kernel
theorem dX5_load_56 : decode cX5_load 56 = .ok (.aload_n 0, 1) := by decide +kernel
theorem dX5_load_57 : decode cX5_load 57 = .ok (.getfield 139, 3) := by decide +kernel
theorem dX5_load_60 : decode cX5_load 60 = .ok (.putfield 204, 3) := by decide +kernel
theorem dX5_load_63 : decode cX5_load 63 = .ok (.aload_n 0, 1) := by decide +kernel
theorem dX5_load_64 : decode cX5_load 64 = .ok (.aload_n 0, 1) := by decide +kernel
theorem dX5_load_65 : decode cX5_load 65 = .ok (.getfield 139, 3) := by decide +kernel
theorem dX5_load_68 : decode cX5_load 68 = .ok (.ifCond .ne 7, 3) := by decide +kernel
theorem dX5_load_71 : decode cX5_load 71 = .ok (.iconst (-1), 1) := by decide +kernel
theorem dX5_load_72 : decode cX5_load 72 = .ok (.goto 7, 3) := by decide +kernel
theorem dX5_load_75 : decode cX5_load 75 = .ok (.aload_n 0, 1) := by decide +kernel
theorem dX5_load_76 : decode cX5_load 76 = .ok (.getfield 142, 3) := by decide +kernel
theorem dX5_load_79 : decode cX5_load 79 = .ok (.putfield 32, 3) := by decide +kernel
theorem dX5_load_82 : decode cX5_load 82 = .ok (.aload_n 0, 1) := by decide +kernel
theorem dX5_load_83 : decode cX5_load 83 = .ok (.getfield 139, 3) := by decide +kernel
theorem dX5_load_86 : decode cX5_load 86 = .ok (.ifCond .eq 36, 3) := by decide +kernel
theorem dX5_load_89 : decode cX5_load 89 = .ok (.iconst 0, 1) := by decide +kernel
theorem dX5_load_90 : decode cX5_load 90 = .ok (.istore_n 2, 1) := by decide +kernel
theorem dX5_load_91 : decode cX5_load 91 = .ok (.iload_n 2, 1) := by decide +kernel
theorem dX5_load_92 : decode cX5_load 92 = .ok (.sipush 1330, 3) := by decide +kernel
theorem dX5_load_95 : decode cX5_load 95 = .ok (.if_icmp .ge 21, 3) := by decide +kernel
theorem dX5_load_98 : decode cX5_load 98 = .ok (.aload_n 0, 1) := by decide +kernel
theorem dX5_load_99 : decode cX5_load 99 = .ok (.getfield 13, 3) := by decide +kernel
theorem dX5_load_102 : decode cX5_load 102 = .ok (.iload_n 2, 1) := by decide +kernel
theorem dX5_load_103 : decode cX5_load 103 = .ok (.aload_n 0, 1) := by decide +kernel
theorem dX5_load_104 : decode cX5_load 104 = .ok (.getfield 16, 3) := by decide +kernel
theorem dX5_load_107 : decode cX5_load 107 = .ok (.iload_n 2, 1) := by decide +kernel
theorem dX5_load_108 : decode cX5_load 108 = .ok (.iaload, 1) := by decide +kernel
theorem dX5_load_109 : decode cX5_load 109 = .ok (.iastore, 1) := by decide +kernel
theorem dX5_load_110 : decode cX5_load 110 = .ok (.iinc 2 1, 3) := by decide +kernel
theorem dX5_load_113 : decode cX5_load 113 = .ok (.goto (-22), 3) := by decide +kernel
theorem dX5_load_116 : decode cX5_load 116 = .ok (.aload_n 0, 1) := by decide +kernel
theorem dX5_load_117 : decode cX5_load 117 = .ok (.iconst 2, 1) := by decide +kernel
theorem dX5_load_118 : decode cX5_load 118 = .ok (.invokevirtual 192, 3) := by decide +kernel
theorem dX5_load_121 : decode cX5_load 121 = .ok (.ireturn, 1) := by decide +kernel
theorem dX5_load_122 : decode cX5_load 122 = .ok (.aload_n 0, 1) := by decide +kernel
theorem dX5_load_123 : decode cX5_load 123 = .ok (.iconst 0, 1) := by decide +kernel
theorem dX5_load_124 : decode cX5_load 124 = .ok (.putfield 114, 3) := by decide +kernel
theorem dX5_load_127 : decode cX5_load 127 = .ok (.aload_n 0, 1) := by decide +kernel
theorem dX5_load_128 : decode cX5_load 128 = .ok (.iconst 0, 1) := by decide +kernel
theorem dX5_load_129 : decode cX5_load 129 = .ok (.putfield 207, 3) := by decide +kernel
theorem dX5_load_132 : decode cX5_load 132 = .ok (.aload_n 0, 1) := by decide +kernel
theorem dX5_load_133 : decode cX5_load 133 = .ok (.aload_n 0, 1) := by decide +kernel
theorem dX5_load_134 : decode cX5_load 134 = .ok (.getfield 13, 3) := by decide +kernel
theorem dX5_load_137 : decode cX5_load 137 = .ok (.iconst 0, 1) := by decide +kernel
theorem dX5_load_138 : decode cX5_load 138 = .ok (.iaload, 1) := by decide +kernel
theorem dX5_load_139 : decode cX5_load 139 = .ok (.invokevirtual 198, 3) := by decide +kernel
theorem dX5_load_142 : decode cX5_load 142 = .ok (.ireturn, 1) := by decide +kernel
theorem dX5_errorKind_0 : decode cX5_errorKind 0 = .ok (.aload_n 0, 1) := by decide +kernel
theorem dX5_errorKind_1 : decode cX5_errorKind 1 = .ok (.aload_n 0, 1) := by decide +kernel
theorem dX5_errorKind_2 : decode cX5_errorKind 2 = .ok (.getfield 204, 3) := by decide +kernel
theorem dX5_errorKind_5 : decode cX5_errorKind 5 = .ok (.invokevirtual 198, 3) := by decide +kernel
theorem dX5_errorKind_8 : decode cX5_errorKind 8 = .ok (.ireturn, 1) := by decide +kernel
theorem dX5_errorOffset_0 : decode cX5_errorOffset 0 = .ok (.aload_n 0, 1) := by decide +kernel
theorem dX5_errorOffset_1 : decode cX5_errorOffset 1 = .ok (.aload_n 0, 1) := by decide +kernel
theorem dX5_errorOffset_2 : decode cX5_errorOffset 2 = .ok (.getfield 32, 3) := by decide +kernel
theorem dX5_errorOffset_5 : decode cX5_errorOffset 5 = .ok (.invokevirtual 198, 3) := by decide +kernel
theorem dX5_errorOffset_8 : decode cX5_errorOffset 8 = .ok (.ireturn, 1) := by decide +kernel
theorem dX5_replicaCount_0 : decode cX5_replicaCount 0 = .ok (.aload_n 0, 1) := by decide +kernel
theorem dX5_replicaCount_1 : decode cX5_replicaCount 1 = .ok (.aload_n 0, 1) := by decide +kernel
theorem dX5_replicaCount_2 : decode cX5_replicaCount 2 = .ok (.getfield 13, 3) := by decide +kernel
theorem dX5_replicaCount_5 : decode cX5_replicaCount 5 = .ok (.iconst 0, 1) := by decide +kernel
theorem dX5_replicaCount_6 : decode cX5_replicaCount 6 = .ok (.iaload, 1) := by decide +kernel
theorem dX5_replicaCount_7 : decode cX5_replicaCount 7 = .ok (.invokevirtual 198, 3) := by decide +kernel
theorem dX5_replicaCount_10 : decode cX5_replicaCount 10 = .ok (.ireturn, 1) := by decide +kernel
theorem dX5_counterCount_0 : decode cX5_counterCount 0 = .ok (.aload_n 0, 1) := by decide +kernel
theorem dX5_counterCount_1 : decode cX5_counterCount 1 = .ok (.aload_n 0, 1) := by decide +kernel
theorem dX5_counterCount_2 : decode cX5_counterCount 2 = .ok (.getfield 13, 3) := by decide +kernel
theorem dX5_counterCount_5 : decode cX5_counterCount 5 = .ok (.iconst 1, 1) := by decide +kernel
theorem dX5_counterCount_6 : decode cX5_counterCount 6 = .ok (.iaload, 1) := by decide +kernel
theorem dX5_counterCount_7 : decode cX5_counterCount 7 = .ok (.invokevirtual 198, 3) := by decide +kernel
theorem dX5_counterCount_10 : decode cX5_counterCount 10 = .ok (.ireturn, 1) := by decide +kernel
theorem dX5_registerCount_0 : decode cX5_registerCount 0 = .ok (.aload_n 0, 1) := by decide +kernel
theorem dX5_registerCount_1 : decode cX5_registerCount 1 = .ok (.aload_n 0, 1) := by decide +kernel
theorem dX5_registerCount_2 : decode cX5_registerCount 2 = .ok (.getfield 13, 3) := by decide +kernel
theorem dX5_registerCount_5 : decode cX5_registerCount 5 = .ok (.iconst 2, 1) := by decide +kernel
theorem dX5_registerCount_6 : decode cX5_registerCount 6 = .ok (.iaload, 1) := by decide +kernel
theorem dX5_registerCount_7 : decode cX5_registerCount 7 = .ok (.invokevirtual 198, 3) := by decide +kernel
theorem dX5_registerCount_10 : decode cX5_registerCount 10 = .ok (.ireturn, 1) := by decide +kernel
theorem dX5_areReplicas_0 : decode cX5_areReplicas 0 = .ok (.aload_n 0, 1) := by decide +kernel
theorem dX5_areReplicas_1 : decode cX5_areReplicas 1 = .ok (.iload_n 1, 1) := by decide +kernel
theorem dX5_areReplicas_2 : decode cX5_areReplicas 2 = .ok (.invokevirtual 210, 3) := by decide +kernel
theorem dX5_areReplicas_5 : decode cX5_areReplicas 5 = .ok (.ifCond .eq 15, 3) := by decide +kernel
theorem dX5_areReplicas_8 : decode cX5_areReplicas 8 = .ok (.aload_n 0, 1) := by decide +kernel
theorem dX5_areReplicas_9 : decode cX5_areReplicas 9 = .ok (.iload_n 2, 1) := by decide +kernel
theorem dX5_areReplicas_10 : decode cX5_areReplicas 10 = .ok (.invokevirtual 210, 3) := by decide +kernel
theorem dX5_areReplicas_13 : decode cX5_areReplicas 13 = .ok (.ifCond .eq 7, 3) := by decide +kernel
theorem dX5_areReplicas_16 : decode cX5_areReplicas 16 = .ok (.iconst 1, 1) := by decide +kernel
theorem dX5_areReplicas_17 : decode cX5_areReplicas 17 = .ok (.goto 4, 3) := by decide +kernel
theorem dX5_areReplicas_20 : decode cX5_areReplicas 20 = .ok (.iconst 0, 1) := by decide +kernel
theorem dX5_areReplicas_21 : decode cX5_areReplicas 21 = .ok (.ireturn, 1) := by decide +kernel
theorem dX5_versionEntry_0 : decode cX5_versionEntry 0 = .ok (.aload_n 0, 1) := by decide +kernel
theorem dX5_versionEntry_1 : decode cX5_versionEntry 1 = .ok (.iload_n 1, 1) := by decide +kernel
theorem dX5_versionEntry_2 : decode cX5_versionEntry 2 = .ok (.iload_n 2, 1) := by decide +kernel
theorem dX5_versionEntry_3 : decode cX5_versionEntry 3 = .ok (.invokevirtual 213, 3) := by decide +kernel
theorem dX5_versionEntry_6 : decode cX5_versionEntry 6 = .ok (.ifCond .eq 20, 3) := by decide +kernel
theorem dX5_versionEntry_9 : decode cX5_versionEntry 9 = .ok (.aload_n 0, 1) := by decide +kernel
theorem dX5_versionEntry_10 : decode cX5_versionEntry 10 = .ok (.aload_n 0, 1) := by decide +kernel
theorem dX5_versionEntry_11 : decode cX5_versionEntry 11 = .ok (.getfield 13, 3) := by decide +kernel
theorem dX5_versionEntry_14 : decode cX5_versionEntry 14 = .ok (.iload_n 1, 1) := by decide +kernel
theorem dX5_versionEntry_15 : decode cX5_versionEntry 15 = .ok (.iload_n 2, 1) := by decide +kernel
theorem dX5_versionEntry_16 : decode cX5_versionEntry 16 = .ok (.invokestatic 72, 3) := by decide +kernel
theorem dX5_versionEntry_19 : decode cX5_versionEntry 19 = .ok (.iaload, 1) := by decide +kernel
theorem dX5_versionEntry_20 : decode cX5_versionEntry 20 = .ok (.invokevirtual 198, 3) := by decide +kernel
theorem dX5_versionEntry_23 : decode cX5_versionEntry 23 = .ok (.goto 8, 3) := by decide +kernel
theorem dX5_versionEntry_26 : decode cX5_versionEntry 26 = .ok (.aload_n 0, 1) := by decide +kernel
theorem dX5_versionEntry_27 : decode cX5_versionEntry 27 = .ok (.iconst 1, 1) := by decide +kernel
theorem dX5_versionEntry_28 : decode cX5_versionEntry 28 = .ok (.invokevirtual 192, 3) := by decide +kernel
theorem dX5_versionEntry_31 : decode cX5_versionEntry 31 = .ok (.ireturn, 1) := by decide +kernel
theorem dX5_areEqual_0 : decode cX5_areEqual 0 = .ok (.aload_n 0, 1) := by decide +kernel
theorem dX5_areEqual_1 : decode cX5_areEqual 1 = .ok (.iload_n 1, 1) := by decide +kernel
theorem dX5_areEqual_2 : decode cX5_areEqual 2 = .ok (.iload_n 2, 1) := by decide +kernel
theorem dX5_areEqual_3 : decode cX5_areEqual 3 = .ok (.invokevirtual 213, 3) := by decide +kernel
theorem dX5_areEqual_6 : decode cX5_areEqual 6 = .ok (.ifCond .eq 16, 3) := by decide +kernel
theorem dX5_areEqual_9 : decode cX5_areEqual 9 = .ok (.aload_n 0, 1) := by decide +kernel
theorem dX5_areEqual_10 : decode cX5_areEqual 10 = .ok (.aload_n 0, 1) := by decide +kernel
theorem dX5_areEqual_11 : decode cX5_areEqual 11 = .ok (.iload_n 1, 1) := by decide +kernel
theorem dX5_areEqual_12 : decode cX5_areEqual 12 = .ok (.iload_n 2, 1) := by decide +kernel
theorem dX5_areEqual_13 : decode cX5_areEqual 13 = .ok (.invokevirtual 107, 3) := by decide +kernel
theorem dX5_areEqual_16 : decode cX5_areEqual 16 = .ok (.invokevirtual 216, 3) := by decide +kernel
theorem dX5_areEqual_19 : decode cX5_areEqual 19 = .ok (.goto 7, 3) := by decide +kernel
theorem dX5_areEqual_22 : decode cX5_areEqual 22 = .ok (.aload_n 0, 1) := by decide +kernel
theorem dX5_areEqual_23 : decode cX5_areEqual 23 = .ok (.invokevirtual 220, 3) := by decide +kernel
theorem dX5_areEqual_26 : decode cX5_areEqual 26 = .ok (.ireturn, 1) := by decide +kernel
theorem dX5_covers_0 : decode cX5_covers 0 = .ok (.aload_n 0, 1) := by decide +kernel
theorem dX5_covers_1 : decode cX5_covers 1 = .ok (.iload_n 1, 1) := by decide +kernel
theorem dX5_covers_2 : decode cX5_covers 2 = .ok (.iload_n 2, 1) := by decide +kernel
theorem dX5_covers_3 : decode cX5_covers 3 = .ok (.invokevirtual 213, 3) := by decide +kernel
theorem dX5_covers_6 : decode cX5_covers 6 = .ok (.ifCond .eq 16, 3) := by decide +kernel
theorem dX5_covers_9 : decode cX5_covers 9 = .ok (.aload_n 0, 1) := by decide +kernel
theorem dX5_covers_10 : decode cX5_covers 10 = .ok (.aload_n 0, 1) := by decide +kernel
theorem dX5_covers_11 : decode cX5_covers 11 = .ok (.iload_n 2, 1) := by decide +kernel
theorem dX5_covers_12 : decode cX5_covers 12 = .ok (.iload_n 1, 1) := by decide +kernel
