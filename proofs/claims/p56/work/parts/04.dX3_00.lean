/-! what each instruction decodes to, as printed -/
theorem dX3_init_0 : decode cX3_init 0 = .ok (.aload_n 0, 1) := by decide +kernel
theorem dX3_init_1 : decode cX3_init 1 = .ok (.invokespecial 3, 3) := by decide +kernel
theorem dX3_init_4 : decode cX3_init 4 = .ok (.aload_n 0, 1) := by decide +kernel
theorem dX3_init_5 : decode cX3_init 5 = .ok (.iconst 1, 1) := by decide +kernel
theorem dX3_init_6 : decode cX3_init 6 = .ok (.putfield 9, 3) := by decide +kernel
theorem dX3_init_9 : decode cX3_init 9 = .ok (.aload_n 0, 1) := by decide +kernel
theorem dX3_init_10 : decode cX3_init 10 = .ok (.iconst 0, 1) := by decide +kernel
theorem dX3_init_11 : decode cX3_init 11 = .ok (.putfield 15, 3) := by decide +kernel
theorem dX3_init_14 : decode cX3_init 14 = .ok (.aload_n 0, 1) := by decide +kernel
theorem dX3_init_15 : decode cX3_init 15 = .ok (.iconst 0, 1) := by decide +kernel
theorem dX3_init_16 : decode cX3_init 16 = .ok (.putfield 18, 3) := by decide +kernel
theorem dX3_init_19 : decode cX3_init 19 = .ok (.aload_n 0, 1) := by decide +kernel
theorem dX3_init_20 : decode cX3_init 20 = .ok (.iconst 0, 1) := by decide +kernel
theorem dX3_init_21 : decode cX3_init 21 = .ok (.putfield 21, 3) := by decide +kernel
theorem dX3_init_24 : decode cX3_init 24 = .ok (.aload_n 0, 1) := by decide +kernel
theorem dX3_init_25 : decode cX3_init 25 = .ok (.iconst 4, 1) := by decide +kernel
theorem dX3_init_26 : decode cX3_init 26 = .ok (.anewarray 24, 3) := by decide +kernel
theorem dX3_init_29 : decode cX3_init 29 = .ok (.putfield 26, 3) := by decide +kernel
theorem dX3_init_32 : decode cX3_init 32 = .ok (.aload_n 0, 1) := by decide +kernel
theorem dX3_init_33 : decode cX3_init 33 = .ok (.bipush 6, 2) := by decide +kernel
theorem dX3_init_35 : decode cX3_init 35 = .ok (.anewarray 24, 3) := by decide +kernel
theorem dX3_init_38 : decode cX3_init 38 = .ok (.putfield 30, 3) := by decide +kernel
theorem dX3_init_41 : decode cX3_init 41 = .ok (.aload_n 0, 1) := by decide +kernel
theorem dX3_init_42 : decode cX3_init 42 = .ok (.bipush 6, 2) := by decide +kernel
theorem dX3_init_44 : decode cX3_init 44 = .ok (.newarray .int, 2) := by decide +kernel
theorem dX3_init_46 : decode cX3_init 46 = .ok (.putfield 33, 3) := by decide +kernel
theorem dX3_init_49 : decode cX3_init 49 = .ok (.iconst 0, 1) := by decide +kernel
theorem dX3_init_50 : decode cX3_init 50 = .ok (.istore_n 1, 1) := by decide +kernel
theorem dX3_init_51 : decode cX3_init 51 = .ok (.iload_n 1, 1) := by decide +kernel
theorem dX3_init_52 : decode cX3_init 52 = .ok (.iconst 4, 1) := by decide +kernel
theorem dX3_init_53 : decode cX3_init 53 = .ok (.if_icmp .ge 22, 3) := by decide +kernel
theorem dX3_init_56 : decode cX3_init 56 = .ok (.aload_n 0, 1) := by decide +kernel
theorem dX3_init_57 : decode cX3_init 57 = .ok (.getfield 26, 3) := by decide +kernel
theorem dX3_init_60 : decode cX3_init 60 = .ok (.iload_n 1, 1) := by decide +kernel
theorem dX3_init_61 : decode cX3_init 61 = .ok (.new 24, 3) := by decide +kernel
theorem dX3_init_64 : decode cX3_init 64 = .ok (.dup, 1) := by decide +kernel
theorem dX3_init_65 : decode cX3_init 65 = .ok (.invokespecial 37, 3) := by decide +kernel
theorem dX3_init_68 : decode cX3_init 68 = .ok (.aastore, 1) := by decide +kernel
theorem dX3_init_69 : decode cX3_init 69 = .ok (.iinc 1 1, 3) := by decide +kernel
theorem dX3_init_72 : decode cX3_init 72 = .ok (.goto (-21), 3) := by decide +kernel
theorem dX3_init_75 : decode cX3_init 75 = .ok (.iconst 0, 1) := by decide +kernel
theorem dX3_init_76 : decode cX3_init 76 = .ok (.istore_n 1, 1) := by decide +kernel
theorem dX3_init_77 : decode cX3_init 77 = .ok (.iload_n 1, 1) := by decide +kernel
theorem dX3_init_78 : decode cX3_init 78 = .ok (.bipush 6, 2) := by decide +kernel
theorem dX3_init_80 : decode cX3_init 80 = .ok (.if_icmp .ge 22, 3) := by decide +kernel
theorem dX3_init_83 : decode cX3_init 83 = .ok (.aload_n 0, 1) := by decide +kernel
theorem dX3_init_84 : decode cX3_init 84 = .ok (.getfield 30, 3) := by decide +kernel
theorem dX3_init_87 : decode cX3_init 87 = .ok (.iload_n 1, 1) := by decide +kernel
theorem dX3_init_88 : decode cX3_init 88 = .ok (.new 24, 3) := by decide +kernel
theorem dX3_init_91 : decode cX3_init 91 = .ok (.dup, 1) := by decide +kernel
theorem dX3_init_92 : decode cX3_init 92 = .ok (.invokespecial 37, 3) := by decide +kernel
theorem dX3_init_95 : decode cX3_init 95 = .ok (.aastore, 1) := by decide +kernel
theorem dX3_init_96 : decode cX3_init 96 = .ok (.iinc 1 1, 3) := by decide +kernel
theorem dX3_init_99 : decode cX3_init 99 = .ok (.goto (-22), 3) := by decide +kernel
theorem dX3_init_102 : decode cX3_init 102 = .ok (.return_, 1) := by decide +kernel
theorem dX3_reset_0 : decode cX3_reset 0 = .ok (.aload_n 0, 1) := by decide +kernel
theorem dX3_reset_1 : decode cX3_reset 1 = .ok (.iload_n 1, 1) := by decide +kernel
theorem dX3_reset_2 : decode cX3_reset 2 = .ok (.putfield 9, 3) := by decide +kernel
theorem dX3_reset_5 : decode cX3_reset 5 = .ok (.aload_n 0, 1) := by decide +kernel
theorem dX3_reset_6 : decode cX3_reset 6 = .ok (.iload_n 2, 1) := by decide +kernel
theorem dX3_reset_7 : decode cX3_reset 7 = .ok (.putfield 15, 3) := by decide +kernel
theorem dX3_reset_10 : decode cX3_reset 10 = .ok (.aload_n 0, 1) := by decide +kernel
theorem dX3_reset_11 : decode cX3_reset 11 = .ok (.iload_n 3, 1) := by decide +kernel
theorem dX3_reset_12 : decode cX3_reset 12 = .ok (.putfield 18, 3) := by decide +kernel
theorem dX3_reset_15 : decode cX3_reset 15 = .ok (.aload_n 0, 1) := by decide +kernel
theorem dX3_reset_16 : decode cX3_reset 16 = .ok (.iconst 0, 1) := by decide +kernel
theorem dX3_reset_17 : decode cX3_reset 17 = .ok (.putfield 21, 3) := by decide +kernel
theorem dX3_reset_20 : decode cX3_reset 20 = .ok (.iconst 0, 1) := by decide +kernel
theorem dX3_reset_21 : decode cX3_reset 21 = .ok (.istore 4, 2) := by decide +kernel
theorem dX3_reset_23 : decode cX3_reset 23 = .ok (.iload 4, 2) := by decide +kernel
theorem dX3_reset_25 : decode cX3_reset 25 = .ok (.iconst 4, 1) := by decide +kernel
theorem dX3_reset_26 : decode cX3_reset 26 = .ok (.if_icmp .ge 19, 3) := by decide +kernel
theorem dX3_reset_29 : decode cX3_reset 29 = .ok (.aload_n 0, 1) := by decide +kernel
theorem dX3_reset_30 : decode cX3_reset 30 = .ok (.getfield 26, 3) := by decide +kernel
theorem dX3_reset_33 : decode cX3_reset 33 = .ok (.iload 4, 2) := by decide +kernel
theorem dX3_reset_35 : decode cX3_reset 35 = .ok (.aaload, 1) := by decide +kernel
theorem dX3_reset_36 : decode cX3_reset 36 = .ok (.invokevirtual 38, 3) := by decide +kernel
theorem dX3_reset_39 : decode cX3_reset 39 = .ok (.iinc 4 1, 3) := by decide +kernel
theorem dX3_reset_42 : decode cX3_reset 42 = .ok (.goto (-19), 3) := by decide +kernel
theorem dX3_reset_45 : decode cX3_reset 45 = .ok (.return_, 1) := by decide +kernel
theorem dX3_copyFrom_0 : decode cX3_copyFrom 0 = .ok (.aload_n 0, 1) := by decide +kernel
theorem dX3_copyFrom_1 : decode cX3_copyFrom 1 = .ok (.aload_n 1, 1) := by decide +kernel
theorem dX3_copyFrom_2 : decode cX3_copyFrom 2 = .ok (.getfield 9, 3) := by decide +kernel
theorem dX3_copyFrom_5 : decode cX3_copyFrom 5 = .ok (.putfield 9, 3) := by decide +kernel
theorem dX3_copyFrom_8 : decode cX3_copyFrom 8 = .ok (.aload_n 0, 1) := by decide +kernel
theorem dX3_copyFrom_9 : decode cX3_copyFrom 9 = .ok (.aload_n 1, 1) := by decide +kernel
theorem dX3_copyFrom_10 : decode cX3_copyFrom 10 = .ok (.getfield 15, 3) := by decide +kernel
theorem dX3_copyFrom_13 : decode cX3_copyFrom 13 = .ok (.putfield 15, 3) := by decide +kernel
theorem dX3_copyFrom_16 : decode cX3_copyFrom 16 = .ok (.aload_n 0, 1) := by decide +kernel
theorem dX3_copyFrom_17 : decode cX3_copyFrom 17 = .ok (.aload_n 1, 1) := by decide +kernel
theorem dX3_copyFrom_18 : decode cX3_copyFrom 18 = .ok (.getfield 18, 3) := by decide +kernel
theorem dX3_copyFrom_21 : decode cX3_copyFrom 21 = .ok (.putfield 18, 3) := by decide +kernel
theorem dX3_copyFrom_24 : decode cX3_copyFrom 24 = .ok (.aload_n 0, 1) := by decide +kernel
theorem dX3_copyFrom_25 : decode cX3_copyFrom 25 = .ok (.aload_n 1, 1) := by decide +kernel
theorem dX3_copyFrom_26 : decode cX3_copyFrom 26 = .ok (.getfield 21, 3) := by decide +kernel
theorem dX3_copyFrom_29 : decode cX3_copyFrom 29 = .ok (.putfield 21, 3) := by decide +kernel
theorem dX3_copyFrom_32 : decode cX3_copyFrom 32 = .ok (.iconst 0, 1) := by decide +kernel
theorem dX3_copyFrom_33 : decode cX3_copyFrom 33 = .ok (.istore_n 2, 1) := by decide +kernel
theorem dX3_copyFrom_34 : decode cX3_copyFrom 34 = .ok (.iload_n 2, 1) := by decide +kernel
theorem dX3_copyFrom_35 : decode cX3_copyFrom 35 = .ok (.iconst 4, 1) := by decide +kernel
theorem dX3_copyFrom_36 : decode cX3_copyFrom 36 = .ok (.if_icmp .ge 24, 3) := by decide +kernel
theorem dX3_copyFrom_39 : decode cX3_copyFrom 39 = .ok (.aload_n 0, 1) := by decide +kernel
theorem dX3_copyFrom_40 : decode cX3_copyFrom 40 = .ok (.getfield 26, 3) := by decide +kernel
theorem dX3_copyFrom_43 : decode cX3_copyFrom 43 = .ok (.iload_n 2, 1) := by decide +kernel
theorem dX3_copyFrom_44 : decode cX3_copyFrom 44 = .ok (.aaload, 1) := by decide +kernel
theorem dX3_copyFrom_45 : decode cX3_copyFrom 45 = .ok (.aload_n 1, 1) := by decide +kernel
theorem dX3_copyFrom_46 : decode cX3_copyFrom 46 = .ok (.getfield 26, 3) := by decide +kernel
theorem dX3_copyFrom_49 : decode cX3_copyFrom 49 = .ok (.iload_n 2, 1) := by decide +kernel
theorem dX3_copyFrom_50 : decode cX3_copyFrom 50 = .ok (.aaload, 1) := by decide +kernel
theorem dX3_copyFrom_51 : decode cX3_copyFrom 51 = .ok (.invokevirtual 41, 3) := by decide +kernel
theorem dX3_copyFrom_54 : decode cX3_copyFrom 54 = .ok (.iinc 2 1, 3) := by decide +kernel
theorem dX3_copyFrom_57 : decode cX3_copyFrom 57 = .ok (.goto (-23), 3) := by decide +kernel
theorem dX3_copyFrom_60 : decode cX3_copyFrom 60 = .ok (.iconst 0, 1) := by decide +kernel
theorem dX3_copyFrom_61 : decode cX3_copyFrom 61 = .ok (.istore_n 2, 1) := by decide +kernel
theorem dX3_copyFrom_62 : decode cX3_copyFrom 62 = .ok (.iload_n 2, 1) := by decide +kernel
theorem dX3_copyFrom_63 : decode cX3_copyFrom 63 = .ok (.bipush 6, 2) := by decide +kernel
theorem dX3_copyFrom_65 : decode cX3_copyFrom 65 = .ok (.if_icmp .ge 36, 3) := by decide +kernel
theorem dX3_copyFrom_68 : decode cX3_copyFrom 68 = .ok (.aload_n 0, 1) := by decide +kernel
theorem dX3_copyFrom_69 : decode cX3_copyFrom 69 = .ok (.getfield 30, 3) := by decide +kernel
theorem dX3_copyFrom_72 : decode cX3_copyFrom 72 = .ok (.iload_n 2, 1) := by decide +kernel
theorem dX3_copyFrom_73 : decode cX3_copyFrom 73 = .ok (.aaload, 1) := by decide +kernel
theorem dX3_copyFrom_74 : decode cX3_copyFrom 74 = .ok (.aload_n 1, 1) := by decide +kernel
theorem dX3_copyFrom_75 : decode cX3_copyFrom 75 = .ok (.getfield 30, 3) := by decide +kernel
theorem dX3_copyFrom_78 : decode cX3_copyFrom 78 = .ok (.iload_n 2, 1) := by decide +kernel
theorem dX3_copyFrom_79 : decode cX3_copyFrom 79 = .ok (.aaload, 1) := by decide +kernel
theorem dX3_copyFrom_80 : decode cX3_copyFrom 80 = .ok (.invokevirtual 41, 3) := by decide +kernel
theorem dX3_copyFrom_83 : decode cX3_copyFrom 83 = .ok (.aload_n 0, 1) := by decide +kernel
theorem dX3_copyFrom_84 : decode cX3_copyFrom 84 = .ok (.getfield 33, 3) := by decide +kernel
theorem dX3_copyFrom_87 : decode cX3_copyFrom 87 = .ok (.iload_n 2, 1) := by decide +kernel
theorem dX3_copyFrom_88 : decode cX3_copyFrom 88 = .ok (.aload_n 1, 1) := by decide +kernel
theorem dX3_copyFrom_89 : decode cX3_copyFrom 89 = .ok (.getfield 33, 3) := by decide +kernel
theorem dX3_copyFrom_92 : decode cX3_copyFrom 92 = .ok (.iload_n 2, 1) := by decide +kernel
theorem dX3_copyFrom_93 : decode cX3_copyFrom 93 = .ok (.iaload, 1) := by decide +kernel
theorem dX3_copyFrom_94 : decode cX3_copyFrom 94 = .ok (.iastore, 1) := by decide +kernel
theorem dX3_copyFrom_95 : decode cX3_copyFrom 95 = .ok (.iinc 2 1, 3) := by decide +kernel
theorem dX3_copyFrom_98 : decode cX3_copyFrom 98 = .ok (.goto (-36), 3) := by decide +kernel
theorem dX3_copyFrom_101 : decode cX3_copyFrom 101 = .ok (.return_, 1) := by decide +kernel
theorem dX3_addMessage_0 : decode cX3_addMessage 0 = .ok (.aload_n 0, 1) := by decide +kernel
theorem dX3_addMessage_1 : decode cX3_addMessage 1 = .ok (.getfield 21, 3) := by decide +kernel
theorem dX3_addMessage_4 : decode cX3_addMessage 4 = .ok (.bipush 6, 2) := by decide +kernel
theorem dX3_addMessage_6 : decode cX3_addMessage 6 = .ok (.if_icmp .ge 41, 3) := by decide +kernel
theorem dX3_addMessage_9 : decode cX3_addMessage 9 = .ok (.aload_n 0, 1) := by decide +kernel
theorem dX3_addMessage_10 : decode cX3_addMessage 10 = .ok (.getfield 30, 3) := by decide +kernel
theorem dX3_addMessage_13 : decode cX3_addMessage 13 = .ok (.aload_n 0, 1) := by decide +kernel
theorem dX3_addMessage_14 : decode cX3_addMessage 14 = .ok (.getfield 21, 3) := by decide +kernel
theorem dX3_addMessage_17 : decode cX3_addMessage 17 = .ok (.aaload, 1) := by decide +kernel
theorem dX3_addMessage_18 : decode cX3_addMessage 18 = .ok (.aload_n 0, 1) := by decide +kernel
theorem dX3_addMessage_19 : decode cX3_addMessage 19 = .ok (.getfield 26, 3) := by decide +kernel
theorem dX3_addMessage_22 : decode cX3_addMessage 22 = .ok (.iload_n 1, 1) := by decide +kernel
theorem dX3_addMessage_23 : decode cX3_addMessage 23 = .ok (.aaload, 1) := by decide +kernel
theorem dX3_addMessage_24 : decode cX3_addMessage 24 = .ok (.invokevirtual 41, 3) := by decide +kernel
theorem dX3_addMessage_27 : decode cX3_addMessage 27 = .ok (.aload_n 0, 1) := by decide +kernel
theorem dX3_addMessage_28 : decode cX3_addMessage 28 = .ok (.getfield 33, 3) := by decide +kernel
theorem dX3_addMessage_31 : decode cX3_addMessage 31 = .ok (.aload_n 0, 1) := by decide +kernel
theorem dX3_addMessage_32 : decode cX3_addMessage 32 = .ok (.getfield 21, 3) := by decide +kernel
theorem dX3_addMessage_35 : decode cX3_addMessage 35 = .ok (.iload_n 1, 1) := by decide +kernel
theorem dX3_addMessage_36 : decode cX3_addMessage 36 = .ok (.iastore, 1) := by decide +kernel
theorem dX3_addMessage_37 : decode cX3_addMessage 37 = .ok (.aload_n 0, 1) := by decide +kernel
theorem dX3_addMessage_38 : decode cX3_addMessage 38 = .ok (.dup, 1) := by decide +kernel
theorem dX3_addMessage_39 : decode cX3_addMessage 39 = .ok (.getfield 21, 3) := by decide +kernel
theorem dX3_addMessage_42 : decode cX3_addMessage 42 = .ok (.iconst 1, 1) := by decide +kernel
theorem dX3_addMessage_43 : decode cX3_addMessage 43 = .ok (.iadd, 1) := by decide +kernel
theorem dX3_addMessage_44 : decode cX3_addMessage 44 = .ok (.putfield 21, 3) := by decide +kernel
theorem dX3_addMessage_47 : decode cX3_addMessage 47 = .ok (.return_, 1) := by decide +kernel
theorem dX3_removeMessage_0 : decode cX3_removeMessage 0 = .ok (.aload_n 0, 1) := by decide +kernel
theorem dX3_removeMessage_1 : decode cX3_removeMessage 1 = .ok (.getfield 30, 3) := by decide +kernel
theorem dX3_removeMessage_4 : decode cX3_removeMessage 4 = .ok (.iload_n 1, 1) := by decide +kernel
theorem dX3_removeMessage_5 : decode cX3_removeMessage 5 = .ok (.aaload, 1) := by decide +kernel
theorem dX3_removeMessage_6 : decode cX3_removeMessage 6 = .ok (.astore_n 2, 1) := by decide +kernel
theorem dX3_removeMessage_7 : decode cX3_removeMessage 7 = .ok (.iload_n 1, 1) := by decide +kernel
theorem dX3_removeMessage_8 : decode cX3_removeMessage 8 = .ok (.istore_n 3, 1) := by decide +kernel
theorem dX3_removeMessage_9 : decode cX3_removeMessage 9 = .ok (.iload_n 3, 1) := by decide +kernel
theorem dX3_removeMessage_10 : decode cX3_removeMessage 10 = .ok (.iconst 5, 1) := by decide +kernel
theorem dX3_removeMessage_11 : decode cX3_removeMessage 11 = .ok (.if_icmp .ge 37, 3) := by decide +kernel
theorem dX3_removeMessage_14 : decode cX3_removeMessage 14 = .ok (.aload_n 0, 1) := by decide +kernel
theorem dX3_removeMessage_15 : decode cX3_removeMessage 15 = .ok (.getfield 30, 3) := by decide +kernel
theorem dX3_removeMessage_18 : decode cX3_removeMessage 18 = .ok (.iload_n 3, 1) := by decide +kernel
theorem dX3_removeMessage_19 : decode cX3_removeMessage 19 = .ok (.aload_n 0, 1) := by decide +kernel
theorem dX3_removeMessage_20 : decode cX3_removeMessage 20 = .ok (.getfield 30, 3) := by decide +kernel
theorem dX3_removeMessage_23 : decode cX3_removeMessage 23 = .ok (.iload_n 3, 1) := by decide +kernel
theorem dX3_removeMessage_24 : decode cX3_removeMessage 24 = .ok (.iconst 1, 1) := by decide +kernel
theorem dX3_removeMessage_25 : decode cX3_removeMessage 25 = .ok (.iadd, 1) := by decide +kernel
theorem dX3_removeMessage_26 : decode cX3_removeMessage 26 = .ok (.aaload, 1) := by decide +kernel
theorem dX3_removeMessage_27 : decode cX3_removeMessage 27 = .ok (.aastore, 1) := by decide +kernel
theorem dX3_removeMessage_28 : decode cX3_removeMessage 28 = .ok (.aload_n 0, 1) := by decide +kernel
theorem dX3_removeMessage_29 : decode cX3_removeMessage 29 = .ok (.getfield 33, 3) := by decide +kernel
theorem dX3_removeMessage_32 : decode cX3_removeMessage 32 = .ok (.iload_n 3, 1) := by decide +kernel
theorem dX3_removeMessage_33 : decode cX3_removeMessage 33 = .ok (.aload_n 0, 1) := by decide +kernel
theorem dX3_removeMessage_34 : decode cX3_removeMessage 34 = .ok (.getfield 33, 3) := by decide +kernel
theorem dX3_removeMessage_37 : decode cX3_removeMessage 37 = .ok (.iload_n 3, 1) := by decide +kernel
theorem dX3_removeMessage_38 : decode cX3_removeMessage 38 = .ok (.iconst 1, 1) := by decide +kernel
theorem dX3_removeMessage_39 : decode cX3_removeMessage 39 = .ok (.iadd, 1) := by decide +kernel
theorem dX3_removeMessage_40 : decode cX3_removeMessage 40 = .ok (.iaload, 1) := by decide +kernel
theorem dX3_removeMessage_41 : decode cX3_removeMessage 41 = .ok (.iastore, 1) := by decide +kernel
theorem dX3_removeMessage_42 : decode cX3_removeMessage 42 = .ok (.iinc 3 1, 3) := by decide +kernel
theorem dX3_removeMessage_45 : decode cX3_removeMessage 45 = .ok (.goto (-36), 3) := by decide +kernel
theorem dX3_removeMessage_48 : decode cX3_removeMessage 48 = .ok (.aload_n 0, 1) := by decide +kernel
theorem dX3_removeMessage_49 : decode cX3_removeMessage 49 = .ok (.getfield 30, 3) := by decide +kernel
theorem dX3_removeMessage_52 : decode cX3_removeMessage 52 = .ok (.iconst 5, 1) := by decide +kernel
theorem dX3_removeMessage_53 : decode cX3_removeMessage 53 = .ok (.aload_n 2, 1) := by decide +kernel
theorem dX3_removeMessage_54 : decode cX3_removeMessage 54 = .ok (.aastore, 1) := by decide +kernel
theorem dX3_removeMessage_55 : decode cX3_removeMessage 55 = .ok (.aload_n 0, 1) := by decide +kernel
theorem dX3_removeMessage_56 : decode cX3_removeMessage 56 = .ok (.dup, 1) := by decide +kernel
theorem dX3_removeMessage_57 : decode cX3_removeMessage 57 = .ok (.getfield 21, 3) := by decide +kernel
theorem dX3_removeMessage_60 : decode cX3_removeMessage 60 = .ok (.iconst 1, 1) := by decide +kernel
theorem dX3_removeMessage_61 : decode cX3_removeMessage 61 = .ok (.isub, 1) := by decide +kernel
theorem dX3_removeMessage_62 : decode cX3_removeMessage 62 = .ok (.putfield 21, 3) := by decide +kernel
theorem dX3_removeMessage_65 : decode cX3_removeMessage 65 = .ok (.return_, 1) := by decide +kernel
