/-! what each instruction decodes to, as printed -/
theorem dX4_init_0 : decode cX4_init 0 = .ok (.aload_n 0, 1) := by decide +kernel
theorem dX4_init_1 : decode cX4_init 1 = .ok (.invokespecial 1, 3) := by decide +kernel
theorem dX4_init_4 : decode cX4_init 4 = .ok (.aload_n 0, 1) := by decide +kernel
theorem dX4_init_5 : decode cX4_init 5 = .ok (.sipush 600, 3) := by decide +kernel
theorem dX4_init_8 : decode cX4_init 8 = .ok (.newarray .char, 2) := by decide +kernel
theorem dX4_init_10 : decode cX4_init 10 = .ok (.putfield 9, 3) := by decide +kernel
theorem dX4_init_13 : decode cX4_init 13 = .ok (.aload_n 0, 1) := by decide +kernel
theorem dX4_init_14 : decode cX4_init 14 = .ok (.iconst 0, 1) := by decide +kernel
theorem dX4_init_15 : decode cX4_init 15 = .ok (.putfield 13, 3) := by decide +kernel
theorem dX4_init_18 : decode cX4_init 18 = .ok (.aload_n 0, 1) := by decide +kernel
theorem dX4_init_19 : decode cX4_init 19 = .ok (.iconst 0, 1) := by decide +kernel
theorem dX4_init_20 : decode cX4_init 20 = .ok (.putfield 17, 3) := by decide +kernel
theorem dX4_init_23 : decode cX4_init 23 = .ok (.aload_n 0, 1) := by decide +kernel
theorem dX4_init_24 : decode cX4_init 24 = .ok (.iconst (-1), 1) := by decide +kernel
theorem dX4_init_25 : decode cX4_init 25 = .ok (.putfield 20, 3) := by decide +kernel
theorem dX4_init_28 : decode cX4_init 28 = .ok (.aload_n 0, 1) := by decide +kernel
theorem dX4_init_29 : decode cX4_init 29 = .ok (.bipush 32, 2) := by decide +kernel
theorem dX4_init_31 : decode cX4_init 31 = .ok (.newarray .char, 2) := by decide +kernel
theorem dX4_init_33 : decode cX4_init 33 = .ok (.putfield 23, 3) := by decide +kernel
theorem dX4_init_36 : decode cX4_init 36 = .ok (.aload_n 0, 1) := by decide +kernel
theorem dX4_init_37 : decode cX4_init 37 = .ok (.iconst 0, 1) := by decide +kernel
theorem dX4_init_38 : decode cX4_init 38 = .ok (.putfield 26, 3) := by decide +kernel
theorem dX4_init_41 : decode cX4_init 41 = .ok (.aload_n 0, 1) := by decide +kernel
theorem dX4_init_42 : decode cX4_init 42 = .ok (.new 29, 3) := by decide +kernel
theorem dX4_init_45 : decode cX4_init 45 = .ok (.dup, 1) := by decide +kernel
theorem dX4_init_46 : decode cX4_init 46 = .ok (.invokespecial 31, 3) := by decide +kernel
theorem dX4_init_49 : decode cX4_init 49 = .ok (.putfield 32, 3) := by decide +kernel
theorem dX4_init_52 : decode cX4_init 52 = .ok (.aload_n 0, 1) := by decide +kernel
theorem dX4_init_53 : decode cX4_init 53 = .ok (.new 36, 3) := by decide +kernel
theorem dX4_init_56 : decode cX4_init 56 = .ok (.dup, 1) := by decide +kernel
theorem dX4_init_57 : decode cX4_init 57 = .ok (.invokespecial 38, 3) := by decide +kernel
theorem dX4_init_60 : decode cX4_init 60 = .ok (.putfield 39, 3) := by decide +kernel
theorem dX4_init_63 : decode cX4_init 63 = .ok (.aload_n 0, 1) := by decide +kernel
theorem dX4_init_64 : decode cX4_init 64 = .ok (.iconst 2, 1) := by decide +kernel
theorem dX4_init_65 : decode cX4_init 65 = .ok (.anewarray 29, 3) := by decide +kernel
theorem dX4_init_68 : decode cX4_init 68 = .ok (.putfield 43, 3) := by decide +kernel
theorem dX4_init_71 : decode cX4_init 71 = .ok (.aload_n 0, 1) := by decide +kernel
theorem dX4_init_72 : decode cX4_init 72 = .ok (.new 47, 3) := by decide +kernel
theorem dX4_init_75 : decode cX4_init 75 = .ok (.dup, 1) := by decide +kernel
theorem dX4_init_76 : decode cX4_init 76 = .ok (.invokespecial 49, 3) := by decide +kernel
theorem dX4_init_79 : decode cX4_init 79 = .ok (.putfield 50, 3) := by decide +kernel
theorem dX4_init_82 : decode cX4_init 82 = .ok (.aload_n 0, 1) := by decide +kernel
theorem dX4_init_83 : decode cX4_init 83 = .ok (.new 47, 3) := by decide +kernel
theorem dX4_init_86 : decode cX4_init 86 = .ok (.dup, 1) := by decide +kernel
theorem dX4_init_87 : decode cX4_init 87 = .ok (.invokespecial 49, 3) := by decide +kernel
theorem dX4_init_90 : decode cX4_init 90 = .ok (.putfield 54, 3) := by decide +kernel
theorem dX4_init_93 : decode cX4_init 93 = .ok (.new 29, 3) := by decide +kernel
theorem dX4_init_96 : decode cX4_init 96 = .ok (.dup, 1) := by decide +kernel
theorem dX4_init_97 : decode cX4_init 97 = .ok (.invokespecial 31, 3) := by decide +kernel
theorem dX4_init_100 : decode cX4_init 100 = .ok (.astore_n 1, 1) := by decide +kernel
theorem dX4_init_101 : decode cX4_init 101 = .ok (.new 57, 3) := by decide +kernel
theorem dX4_init_104 : decode cX4_init 104 = .ok (.dup, 1) := by decide +kernel
theorem dX4_init_105 : decode cX4_init 105 = .ok (.ldc 59, 2) := by decide +kernel
theorem dX4_init_107 : decode cX4_init 107 = .ok (.invokevirtual 61, 3) := by decide +kernel
theorem dX4_init_110 : decode cX4_init 110 = .ok (.ldc 59, 2) := by decide +kernel
theorem dX4_init_112 : decode cX4_init 112 = .ok (.invokevirtual 67, 3) := by decide +kernel
theorem dX4_init_115 : decode cX4_init 115 = .ok (.aload_n 1, 1) := by decide +kernel
theorem dX4_init_116 : decode cX4_init 116 = .ok (.invokespecial 71, 3) := by decide +kernel
theorem dX4_init_119 : decode cX4_init 119 = .ok (.invokevirtual 74, 3) := by decide +kernel
theorem dX4_init_122 : decode cX4_init 122 = .ok (.aload_n 0, 1) := by decide +kernel
theorem dX4_init_123 : decode cX4_init 123 = .ok (.aload_n 1, 1) := by decide +kernel
theorem dX4_init_124 : decode cX4_init 124 = .ok (.putfield 77, 3) := by decide +kernel
theorem dX4_init_127 : decode cX4_init 127 = .ok (.return_, 1) := by decide +kernel
theorem dX4_append_0 : decode cX4_append 0 = .ok (.aload_n 0, 1) := by decide +kernel
theorem dX4_append_1 : decode cX4_append 1 = .ok (.getfield 13, 3) := by decide +kernel
theorem dX4_append_4 : decode cX4_append 4 = .ok (.sipush 580, 3) := by decide +kernel
theorem dX4_append_7 : decode cX4_append 7 = .ok (.if_icmp .le 13, 3) := by decide +kernel
theorem dX4_append_10 : decode cX4_append 10 = .ok (.new 80, 3) := by decide +kernel
theorem dX4_append_13 : decode cX4_append 13 = .ok (.dup, 1) := by decide +kernel
theorem dX4_append_14 : decode cX4_append 14 = .ok (.ldc 82, 2) := by decide +kernel
theorem dX4_append_16 : decode cX4_append 16 = .ok (.invokespecial 84, 3) := by decide +kernel
theorem dX4_append_19 : decode cX4_append 19 = .ok (.athrow, 1) := by decide +kernel
theorem dX4_append_20 : decode cX4_append 20 = .ok (.aload_n 0, 1) := by decide +kernel
theorem dX4_append_21 : decode cX4_append 21 = .ok (.iload_n 1, 1) := by decide +kernel
theorem dX4_append_22 : decode cX4_append 22 = .ok (.invokevirtual 87, 3) := by decide +kernel
theorem dX4_append_25 : decode cX4_append 25 = .ok (.aload_n 0, 1) := by decide +kernel
theorem dX4_append_26 : decode cX4_append 26 = .ok (.iload_n 2, 1) := by decide +kernel
theorem dX4_append_27 : decode cX4_append 27 = .ok (.invokevirtual 87, 3) := by decide +kernel
theorem dX4_append_30 : decode cX4_append 30 = .ok (.aload_n 0, 1) := by decide +kernel
theorem dX4_append_31 : decode cX4_append 31 = .ok (.iload_n 3, 1) := by decide +kernel
theorem dX4_append_32 : decode cX4_append 32 = .ok (.invokevirtual 87, 3) := by decide +kernel
theorem dX4_append_35 : decode cX4_append 35 = .ok (.aload_n 0, 1) := by decide +kernel
theorem dX4_append_36 : decode cX4_append 36 = .ok (.iload 4, 2) := by decide +kernel
theorem dX4_append_38 : decode cX4_append 38 = .ok (.invokevirtual 87, 3) := by decide +kernel
theorem dX4_append_41 : decode cX4_append 41 = .ok (.aload_n 0, 1) := by decide +kernel
theorem dX4_append_42 : decode cX4_append 42 = .ok (.iload 5, 2) := by decide +kernel
theorem dX4_append_44 : decode cX4_append 44 = .ok (.invokevirtual 87, 3) := by decide +kernel
theorem dX4_append_47 : decode cX4_append 47 = .ok (.aload_n 0, 1) := by decide +kernel
theorem dX4_append_48 : decode cX4_append 48 = .ok (.getfield 13, 3) := by decide +kernel
theorem dX4_append_51 : decode cX4_append 51 = .ok (.ireturn, 1) := by decide +kernel
theorem dX4_appendWord_0 : decode cX4_appendWord 0 = .ok (.bipush 24, 2) := by decide +kernel
theorem dX4_appendWord_2 : decode cX4_appendWord 2 = .ok (.istore_n 2, 1) := by decide +kernel
theorem dX4_appendWord_3 : decode cX4_appendWord 3 = .ok (.iload_n 2, 1) := by decide +kernel
theorem dX4_appendWord_4 : decode cX4_appendWord 4 = .ok (.ifCond .lt 36, 3) := by decide +kernel
theorem dX4_appendWord_7 : decode cX4_appendWord 7 = .ok (.aload_n 0, 1) := by decide +kernel
theorem dX4_appendWord_8 : decode cX4_appendWord 8 = .ok (.getfield 9, 3) := by decide +kernel
theorem dX4_appendWord_11 : decode cX4_appendWord 11 = .ok (.aload_n 0, 1) := by decide +kernel
theorem dX4_appendWord_12 : decode cX4_appendWord 12 = .ok (.getfield 13, 3) := by decide +kernel
theorem dX4_appendWord_15 : decode cX4_appendWord 15 = .ok (.iload_n 1, 1) := by decide +kernel
theorem dX4_appendWord_16 : decode cX4_appendWord 16 = .ok (.iload_n 2, 1) := by decide +kernel
theorem dX4_appendWord_17 : decode cX4_appendWord 17 = .ok (.iushr, 1) := by decide +kernel
theorem dX4_appendWord_18 : decode cX4_appendWord 18 = .ok (.sipush 255, 3) := by decide +kernel
theorem dX4_appendWord_21 : decode cX4_appendWord 21 = .ok (.iand, 1) := by decide +kernel
theorem dX4_appendWord_22 : decode cX4_appendWord 22 = .ok (.i2c, 1) := by decide +kernel
theorem dX4_appendWord_23 : decode cX4_appendWord 23 = .ok (.castore, 1) := by decide +kernel
theorem dX4_appendWord_24 : decode cX4_appendWord 24 = .ok (.aload_n 0, 1) := by decide +kernel
theorem dX4_appendWord_25 : decode cX4_appendWord 25 = .ok (.dup, 1) := by decide +kernel
theorem dX4_appendWord_26 : decode cX4_appendWord 26 = .ok (.getfield 13, 3) := by decide +kernel
theorem dX4_appendWord_29 : decode cX4_appendWord 29 = .ok (.iconst 1, 1) := by decide +kernel
theorem dX4_appendWord_30 : decode cX4_appendWord 30 = .ok (.iadd, 1) := by decide +kernel
theorem dX4_appendWord_31 : decode cX4_appendWord 31 = .ok (.putfield 13, 3) := by decide +kernel
theorem dX4_appendWord_34 : decode cX4_appendWord 34 = .ok (.iinc 2 (-8), 3) := by decide +kernel
theorem dX4_appendWord_37 : decode cX4_appendWord 37 = .ok (.goto (-34), 3) := by decide +kernel
theorem dX4_appendWord_40 : decode cX4_appendWord 40 = .ok (.return_, 1) := by decide +kernel
theorem dX4_load_0 : decode cX4_load 0 = .ok (.iload_n 1, 1) := by decide +kernel
theorem dX4_load_1 : decode cX4_load 1 = .ok (.ifCond .lt 11, 3) := by decide +kernel
theorem dX4_load_4 : decode cX4_load 4 = .ok (.iload_n 1, 1) := by decide +kernel
theorem dX4_load_5 : decode cX4_load 5 = .ok (.aload_n 0, 1) := by decide +kernel
theorem dX4_load_6 : decode cX4_load 6 = .ok (.getfield 13, 3) := by decide +kernel
theorem dX4_load_9 : decode cX4_load 9 = .ok (.if_icmp .le 13, 3) := by decide +kernel
theorem dX4_load_12 : decode cX4_load 12 = .ok (.new 91, 3) := by decide +kernel
theorem dX4_load_15 : decode cX4_load 15 = .ok (.dup, 1) := by decide +kernel
theorem dX4_load_16 : decode cX4_load 16 = .ok (.ldc 93, 2) := by decide +kernel
theorem dX4_load_18 : decode cX4_load 18 = .ok (.invokespecial 95, 3) := by decide +kernel
theorem dX4_load_21 : decode cX4_load 21 = .ok (.athrow, 1) := by decide +kernel
theorem dX4_load_22 : decode cX4_load 22 = .ok (.new 57, 3) := by decide +kernel
theorem dX4_load_25 : decode cX4_load 25 = .ok (.dup, 1) := by decide +kernel
theorem dX4_load_26 : decode cX4_load 26 = .ok (.aload_n 0, 1) := by decide +kernel
theorem dX4_load_27 : decode cX4_load 27 = .ok (.getfield 9, 3) := by decide +kernel
theorem dX4_load_30 : decode cX4_load 30 = .ok (.iload_n 1, 1) := by decide +kernel
theorem dX4_load_31 : decode cX4_load 31 = .ok (.aload_n 0, 1) := by decide +kernel
theorem dX4_load_32 : decode cX4_load 32 = .ok (.getfield 32, 3) := by decide +kernel
theorem dX4_load_35 : decode cX4_load 35 = .ok (.invokespecial 71, 3) := by decide +kernel
theorem dX4_load_38 : decode cX4_load 38 = .ok (.astore_n 2, 1) := by decide +kernel
theorem dX4_load_39 : decode cX4_load 39 = .ok (.aload_n 2, 1) := by decide +kernel
theorem dX4_load_40 : decode cX4_load 40 = .ok (.invokevirtual 74, 3) := by decide +kernel
theorem dX4_load_43 : decode cX4_load 43 = .ok (.aload_n 0, 1) := by decide +kernel
theorem dX4_load_44 : decode cX4_load 44 = .ok (.iconst 0, 1) := by decide +kernel
theorem dX4_load_45 : decode cX4_load 45 = .ok (.putfield 13, 3) := by decide +kernel
theorem dX4_load_48 : decode cX4_load 48 = .ok (.aload_n 0, 1) := by decide +kernel
theorem dX4_load_49 : decode cX4_load 49 = .ok (.aload_n 2, 1) := by decide +kernel
theorem dX4_load_50 : decode cX4_load 50 = .ok (.getfield 96, 3) := by decide +kernel
theorem dX4_load_53 : decode cX4_load 53 = .ok (.putfield 17, 3) := by decide +kernel
theorem dX4_load_56 : decode cX4_load 56 = .ok (.aload_n 0, 1) := by decide +kernel
theorem dX4_load_57 : decode cX4_load 57 = .ok (.aload_n 2, 1) := by decide +kernel
theorem dX4_load_58 : decode cX4_load 58 = .ok (.getfield 97, 3) := by decide +kernel
theorem dX4_load_61 : decode cX4_load 61 = .ok (.putfield 20, 3) := by decide +kernel
theorem dX4_load_64 : decode cX4_load 64 = .ok (.aload_n 0, 1) := by decide +kernel
theorem dX4_load_65 : decode cX4_load 65 = .ok (.getfield 17, 3) := by decide +kernel
theorem dX4_load_68 : decode cX4_load 68 = .ok (.ifCond .eq 13, 3) := by decide +kernel
theorem dX4_load_71 : decode cX4_load 71 = .ok (.new 98, 3) := by decide +kernel
theorem dX4_load_74 : decode cX4_load 74 = .ok (.dup, 1) := by decide +kernel
theorem dX4_load_75 : decode cX4_load 75 = .ok (.ldc 100, 2) := by decide +kernel
theorem dX4_load_77 : decode cX4_load 77 = .ok (.invokespecial 102, 3) := by decide +kernel
theorem dX4_load_80 : decode cX4_load 80 = .ok (.athrow, 1) := by decide +kernel
theorem dX4_load_81 : decode cX4_load 81 = .ok (.aload_n 0, 1) := by decide +kernel
theorem dX4_load_82 : decode cX4_load 82 = .ok (.getfield 77, 3) := by decide +kernel
theorem dX4_load_85 : decode cX4_load 85 = .ok (.astore_n 3, 1) := by decide +kernel
theorem dX4_load_86 : decode cX4_load 86 = .ok (.aload_n 0, 1) := by decide +kernel
theorem dX4_load_87 : decode cX4_load 87 = .ok (.aload_n 0, 1) := by decide +kernel
theorem dX4_load_88 : decode cX4_load 88 = .ok (.getfield 32, 3) := by decide +kernel
theorem dX4_load_91 : decode cX4_load 91 = .ok (.putfield 77, 3) := by decide +kernel
theorem dX4_load_94 : decode cX4_load 94 = .ok (.aload_n 0, 1) := by decide +kernel
theorem dX4_load_95 : decode cX4_load 95 = .ok (.aload_n 3, 1) := by decide +kernel
theorem dX4_load_96 : decode cX4_load 96 = .ok (.putfield 32, 3) := by decide +kernel
theorem dX4_load_99 : decode cX4_load 99 = .ok (.aload_n 0, 1) := by decide +kernel
theorem dX4_load_100 : decode cX4_load 100 = .ok (.getfield 39, 3) := by decide +kernel
theorem dX4_load_103 : decode cX4_load 103 = .ok (.invokevirtual 103, 3) := by decide +kernel
theorem dX4_load_106 : decode cX4_load 106 = .ok (.iconst 0, 1) := by decide +kernel
theorem dX4_load_107 : decode cX4_load 107 = .ok (.istore 4, 2) := by decide +kernel
theorem dX4_load_109 : decode cX4_load 109 = .ok (.iload 4, 2) := by decide +kernel
theorem dX4_load_111 : decode cX4_load 111 = .ok (.iconst 2, 1) := by decide +kernel
theorem dX4_load_112 : decode cX4_load 112 = .ok (.if_icmp .ge 17, 3) := by decide +kernel
theorem dX4_load_115 : decode cX4_load 115 = .ok (.aload_n 0, 1) := by decide +kernel
theorem dX4_load_116 : decode cX4_load 116 = .ok (.getfield 43, 3) := by decide +kernel
theorem dX4_load_119 : decode cX4_load 119 = .ok (.iload 4, 2) := by decide +kernel
theorem dX4_load_121 : decode cX4_load 121 = .ok (.aconst_null, 1) := by decide +kernel
theorem dX4_load_122 : decode cX4_load 122 = .ok (.aastore, 1) := by decide +kernel
theorem dX4_load_123 : decode cX4_load 123 = .ok (.iinc 4 1, 3) := by decide +kernel
theorem dX4_load_126 : decode cX4_load 126 = .ok (.goto (-17), 3) := by decide +kernel
theorem dX4_load_129 : decode cX4_load 129 = .ok (.aload_n 0, 1) := by decide +kernel
theorem dX4_load_130 : decode cX4_load 130 = .ok (.getfield 77, 3) := by decide +kernel
theorem dX4_load_133 : decode cX4_load 133 = .ok (.getfield 106, 3) := by decide +kernel
theorem dX4_load_136 : decode cX4_load 136 = .ok (.ireturn, 1) := by decide +kernel
theorem dX4_replicaCount_0 : decode cX4_replicaCount 0 = .ok (.aload_n 0, 1) := by decide +kernel
theorem dX4_replicaCount_1 : decode cX4_replicaCount 1 = .ok (.getfield 77, 3) := by decide +kernel
theorem dX4_replicaCount_4 : decode cX4_replicaCount 4 = .ok (.getfield 106, 3) := by decide +kernel
theorem dX4_replicaCount_7 : decode cX4_replicaCount 7 = .ok (.ireturn, 1) := by decide +kernel
theorem dX4_counterCount_0 : decode cX4_counterCount 0 = .ok (.aload_n 0, 1) := by decide +kernel
theorem dX4_counterCount_1 : decode cX4_counterCount 1 = .ok (.getfield 77, 3) := by decide +kernel
theorem dX4_counterCount_4 : decode cX4_counterCount 4 = .ok (.getfield 109, 3) := by decide +kernel
theorem dX4_counterCount_7 : decode cX4_counterCount 7 = .ok (.ireturn, 1) := by decide +kernel
theorem dX4_registerCount_0 : decode cX4_registerCount 0 = .ok (.aload_n 0, 1) := by decide +kernel
theorem dX4_registerCount_1 : decode cX4_registerCount 1 = .ok (.getfield 77, 3) := by decide +kernel
theorem dX4_registerCount_4 : decode cX4_registerCount 4 = .ok (.getfield 112, 3) := by decide +kernel
theorem dX4_registerCount_7 : decode cX4_registerCount 7 = .ok (.ireturn, 1) := by decide +kernel
theorem dX4_versionEntry_0 : decode cX4_versionEntry 0 = .ok (.aload_n 0, 1) := by decide +kernel
theorem dX4_versionEntry_1 : decode cX4_versionEntry 1 = .ok (.iload_n 1, 1) := by decide +kernel
theorem dX4_versionEntry_2 : decode cX4_versionEntry 2 = .ok (.invokevirtual 115, 3) := by decide +kernel
theorem dX4_versionEntry_5 : decode cX4_versionEntry 5 = .ok (.astore_n 3, 1) := by decide +kernel
theorem dX4_versionEntry_6 : decode cX4_versionEntry 6 = .ok (.aload_n 0, 1) := by decide +kernel
theorem dX4_versionEntry_7 : decode cX4_versionEntry 7 = .ok (.iload_n 2, 1) := by decide +kernel
theorem dX4_versionEntry_8 : decode cX4_versionEntry 8 = .ok (.invokevirtual 119, 3) := by decide +kernel
theorem dX4_versionEntry_11 : decode cX4_versionEntry 11 = .ok (.aload_n 3, 1) := by decide +kernel
theorem dX4_versionEntry_12 : decode cX4_versionEntry 12 = .ok (.iload_n 2, 1) := by decide +kernel
theorem dX4_versionEntry_13 : decode cX4_versionEntry 13 = .ok (.invokevirtual 122, 3) := by decide +kernel
theorem dX4_versionEntry_16 : decode cX4_versionEntry 16 = .ok (.ireturn, 1) := by decide +kernel
theorem dX4_areEqual_0 : decode cX4_areEqual 0 = .ok (.aload_n 0, 1) := by decide +kernel
theorem dX4_areEqual_1 : decode cX4_areEqual 1 = .ok (.iload_n 1, 1) := by decide +kernel
theorem dX4_areEqual_2 : decode cX4_areEqual 2 = .ok (.invokevirtual 115, 3) := by decide +kernel
theorem dX4_areEqual_5 : decode cX4_areEqual 5 = .ok (.aload_n 0, 1) := by decide +kernel
theorem dX4_areEqual_6 : decode cX4_areEqual 6 = .ok (.iload_n 2, 1) := by decide +kernel
theorem dX4_areEqual_7 : decode cX4_areEqual 7 = .ok (.invokevirtual 115, 3) := by decide +kernel
theorem dX4_areEqual_10 : decode cX4_areEqual 10 = .ok (.invokevirtual 126, 3) := by decide +kernel
theorem dX4_areEqual_13 : decode cX4_areEqual 13 = .ok (.ireturn, 1) := by decide +kernel
theorem dX4_covers_0 : decode cX4_covers 0 = .ok (.aload_n 0, 1) := by decide +kernel
theorem dX4_covers_1 : decode cX4_covers 1 = .ok (.aload_n 0, 1) := by decide +kernel
theorem dX4_covers_2 : decode cX4_covers 2 = .ok (.iload_n 1, 1) := by decide +kernel
theorem dX4_covers_3 : decode cX4_covers 3 = .ok (.invokevirtual 115, 3) := by decide +kernel
theorem dX4_covers_6 : decode cX4_covers 6 = .ok (.aload_n 0, 1) := by decide +kernel
theorem dX4_covers_7 : decode cX4_covers 7 = .ok (.iload_n 2, 1) := by decide +kernel
theorem dX4_covers_8 : decode cX4_covers 8 = .ok (.invokevirtual 115, 3) := by decide +kernel
theorem dX4_covers_11 : decode cX4_covers 11 = .ok (.invokevirtual 130, 3) := by decide +kernel
theorem dX4_covers_14 : decode cX4_covers 14 = .ok (.ireturn, 1) := by decide +kernel
theorem dX4_areConcurrent_0 : decode cX4_areConcurrent 0 = .ok (.aload_n 0, 1) := by decide +kernel
theorem dX4_areConcurrent_1 : decode cX4_areConcurrent 1 = .ok (.iload_n 1, 1) := by decide +kernel
theorem dX4_areConcurrent_2 : decode cX4_areConcurrent 2 = .ok (.invokevirtual 115, 3) := by decide +kernel
theorem dX4_areConcurrent_5 : decode cX4_areConcurrent 5 = .ok (.astore_n 3, 1) := by decide +kernel
theorem dX4_areConcurrent_6 : decode cX4_areConcurrent 6 = .ok (.aload_n 0, 1) := by decide +kernel
theorem dX4_areConcurrent_7 : decode cX4_areConcurrent 7 = .ok (.iload_n 2, 1) := by decide +kernel
theorem dX4_areConcurrent_8 : decode cX4_areConcurrent 8 = .ok (.invokevirtual 115, 3) := by decide +kernel
theorem dX4_areConcurrent_11 : decode cX4_areConcurrent 11 = .ok (.astore 4, 2) := by decide +kernel
theorem dX4_areConcurrent_13 : decode cX4_areConcurrent 13 = .ok (.aload_n 0, 1) := by decide +kernel
theorem dX4_areConcurrent_14 : decode cX4_areConcurrent 14 = .ok (.aload_n 3, 1) := by decide +kernel
theorem dX4_areConcurrent_15 : decode cX4_areConcurrent 15 = .ok (.aload 4, 2) := by decide +kernel
theorem dX4_areConcurrent_17 : decode cX4_areConcurrent 17 = .ok (.invokevirtual 130, 3) := by decide +kernel
theorem dX4_areConcurrent_20 : decode cX4_areConcurrent 20 = .ok (.ifCond .ne 17, 3) := by decide +kernel
theorem dX4_areConcurrent_23 : decode cX4_areConcurrent 23 = .ok (.aload_n 0, 1) := by decide +kernel
theorem dX4_areConcurrent_24 : decode cX4_areConcurrent 24 = .ok (.aload 4, 2) := by decide +kernel
theorem dX4_areConcurrent_26 : decode cX4_areConcurrent 26 = .ok (.aload_n 3, 1) := by decide +kernel
theorem dX4_areConcurrent_27 : decode cX4_areConcurrent 27 = .ok (.invokevirtual 130, 3) := by decide +kernel
theorem dX4_areConcurrent_30 : decode cX4_areConcurrent 30 = .ok (.ifCond .ne 7, 3) := by decide +kernel
theorem dX4_areConcurrent_33 : decode cX4_areConcurrent 33 = .ok (.iconst 1, 1) := by decide +kernel
theorem dX4_areConcurrent_34 : decode cX4_areConcurrent 34 = .ok (.goto 4, 3) := by decide +kernel
theorem dX4_areConcurrent_37 : decode cX4_areConcurrent 37 = .ok (.iconst 0, 1) := by decide +kernel
theorem dX4_areConcurrent_38 : decode cX4_areConcurrent 38 = .ok (.ireturn, 1) := by decide +kernel
theorem dX4_differentStates_0 : decode cX4_differentStates 0 = .ok (.iconst 0, 1) := by decide +kernel
theorem dX4_differentStates_1 : decode cX4_differentStates 1 = .ok (.istore_n 1, 1) := by decide +kernel
theorem dX4_differentStates_2 : decode cX4_differentStates 2 = .ok (.iconst 0, 1) := by decide +kernel
theorem dX4_differentStates_3 : decode cX4_differentStates 3 = .ok (.istore_n 2, 1) := by decide +kernel
theorem dX4_differentStates_4 : decode cX4_differentStates 4 = .ok (.iload_n 2, 1) := by decide +kernel
theorem dX4_differentStates_5 : decode cX4_differentStates 5 = .ok (.aload_n 0, 1) := by decide +kernel
theorem dX4_differentStates_6 : decode cX4_differentStates 6 = .ok (.getfield 77, 3) := by decide +kernel
theorem dX4_differentStates_9 : decode cX4_differentStates 9 = .ok (.getfield 106, 3) := by decide +kernel
theorem dX4_differentStates_12 : decode cX4_differentStates 12 = .ok (.if_icmp .ge 20, 3) := by decide +kernel
theorem dX4_differentStates_15 : decode cX4_differentStates 15 = .ok (.aload_n 0, 1) := by decide +kernel
theorem dX4_differentStates_16 : decode cX4_differentStates 16 = .ok (.iload_n 2, 1) := by decide +kernel
theorem dX4_differentStates_17 : decode cX4_differentStates 17 = .ok (.invokevirtual 134, 3) := by decide +kernel
theorem dX4_differentStates_20 : decode cX4_differentStates 20 = .ok (.ifCond .eq 6, 3) := by decide +kernel
theorem dX4_differentStates_23 : decode cX4_differentStates 23 = .ok (.iinc 1 1, 3) := by decide +kernel
theorem dX4_differentStates_26 : decode cX4_differentStates 26 = .ok (.iinc 2 1, 3) := by decide +kernel
theorem dX4_differentStates_29 : decode cX4_differentStates 29 = .ok (.goto (-25), 3) := by decide +kernel
theorem dX4_differentStates_32 : decode cX4_differentStates 32 = .ok (.iload_n 1, 1) := by decide +kernel
theorem dX4_differentStates_33 : decode cX4_differentStates 33 = .ok (.ireturn, 1) := by decide +kernel
theorem dX4_isFirstOfItsKind_0 : decode cX4_isFirstOfItsKind 0 = .ok (.iconst 0, 1) := by decide +kernel
theorem dX4_isFirstOfItsKind_1 : decode cX4_isFirstOfItsKind 1 = .ok (.istore_n 2, 1) := by decide +kernel
theorem dX4_isFirstOfItsKind_2 : decode cX4_isFirstOfItsKind 2 = .ok (.iload_n 2, 1) := by decide +kernel
theorem dX4_isFirstOfItsKind_3 : decode cX4_isFirstOfItsKind 3 = .ok (.iload_n 1, 1) := by decide +kernel
theorem dX4_isFirstOfItsKind_4 : decode cX4_isFirstOfItsKind 4 = .ok (.if_icmp .ge 35, 3) := by decide +kernel
theorem dX4_isFirstOfItsKind_7 : decode cX4_isFirstOfItsKind 7 = .ok (.aload_n 0, 1) := by decide +kernel
theorem dX4_isFirstOfItsKind_8 : decode cX4_isFirstOfItsKind 8 = .ok (.getfield 77, 3) := by decide +kernel
theorem dX4_isFirstOfItsKind_11 : decode cX4_isFirstOfItsKind 11 = .ok (.getfield 138, 3) := by decide +kernel
theorem dX4_isFirstOfItsKind_14 : decode cX4_isFirstOfItsKind 14 = .ok (.iload_n 2, 1) := by decide +kernel
theorem dX4_isFirstOfItsKind_15 : decode cX4_isFirstOfItsKind 15 = .ok (.aaload, 1) := by decide +kernel
theorem dX4_isFirstOfItsKind_16 : decode cX4_isFirstOfItsKind 16 = .ok (.aload_n 0, 1) := by decide +kernel
theorem dX4_isFirstOfItsKind_17 : decode cX4_isFirstOfItsKind 17 = .ok (.getfield 77, 3) := by decide +kernel
theorem dX4_isFirstOfItsKind_20 : decode cX4_isFirstOfItsKind 20 = .ok (.getfield 138, 3) := by decide +kernel
theorem dX4_isFirstOfItsKind_23 : decode cX4_isFirstOfItsKind 23 = .ok (.iload_n 1, 1) := by decide +kernel
theorem dX4_isFirstOfItsKind_24 : decode cX4_isFirstOfItsKind 24 = .ok (.aaload, 1) := by decide +kernel
theorem dX4_isFirstOfItsKind_25 : decode cX4_isFirstOfItsKind 25 = .ok (.invokevirtual 126, 3) := by decide +kernel
theorem dX4_isFirstOfItsKind_28 : decode cX4_isFirstOfItsKind 28 = .ok (.ifCond .eq 5, 3) := by decide +kernel
theorem dX4_isFirstOfItsKind_31 : decode cX4_isFirstOfItsKind 31 = .ok (.iconst 0, 1) := by decide +kernel
theorem dX4_isFirstOfItsKind_32 : decode cX4_isFirstOfItsKind 32 = .ok (.ireturn, 1) := by decide +kernel
theorem dX4_isFirstOfItsKind_33 : decode cX4_isFirstOfItsKind 33 = .ok (.iinc 2 1, 3) := by decide +kernel
theorem dX4_isFirstOfItsKind_36 : decode cX4_isFirstOfItsKind 36 = .ok (.goto (-34), 3) := by decide +kernel
theorem dX4_isFirstOfItsKind_39 : decode cX4_isFirstOfItsKind 39 = .ok (.iconst 1, 1) := by decide +kernel
theorem dX4_isFirstOfItsKind_40 : decode cX4_isFirstOfItsKind 40 = .ok (.ireturn, 1) := by decide +kernel
theorem dX4_counterValue_0 : decode cX4_counterValue 0 = .ok (.aload_n 0, 1) := by decide +kernel
theorem dX4_counterValue_1 : decode cX4_counterValue 1 = .ok (.iload_n 1, 1) := by decide +kernel
theorem dX4_counterValue_2 : decode cX4_counterValue 2 = .ok (.invokevirtual 115, 3) := by decide +kernel
theorem dX4_counterValue_5 : decode cX4_counterValue 5 = .ok (.astore_n 3, 1) := by decide +kernel
theorem dX4_counterValue_6 : decode cX4_counterValue 6 = .ok (.aload_n 0, 1) := by decide +kernel
theorem dX4_counterValue_7 : decode cX4_counterValue 7 = .ok (.iload_n 2, 1) := by decide +kernel
theorem dX4_counterValue_8 : decode cX4_counterValue 8 = .ok (.invokevirtual 142, 3) := by decide +kernel
theorem dX4_counterValue_11 : decode cX4_counterValue 11 = .ok (.aload_n 3, 1) := by decide +kernel
theorem dX4_counterValue_12 : decode cX4_counterValue 12 = .ok (.iload_n 2, 1) := by decide +kernel
theorem dX4_counterValue_13 : decode cX4_counterValue 13 = .ok (.invokevirtual 145, 3) := by decide +kernel
theorem dX4_counterValue_16 : decode cX4_counterValue 16 = .ok (.ireturn, 1) := by decide +kernel
theorem dX4_increments_0 : decode cX4_increments 0 = .ok (.aload_n 0, 1) := by decide +kernel
theorem dX4_increments_1 : decode cX4_increments 1 = .ok (.iconst 4, 1) := by decide +kernel
theorem dX4_increments_2 : decode cX4_increments 2 = .ok (.iload_n 1, 1) := by decide +kernel
theorem dX4_increments_3 : decode cX4_increments 3 = .ok (.iload_n 2, 1) := by decide +kernel
theorem dX4_increments_4 : decode cX4_increments 4 = .ok (.iload_n 3, 1) := by decide +kernel
theorem dX4_increments_5 : decode cX4_increments 5 = .ok (.invokevirtual 148, 3) := by decide +kernel
theorem dX4_increments_8 : decode cX4_increments 8 = .ok (.ireturn, 1) := by decide +kernel
theorem dX4_decrements_0 : decode cX4_decrements 0 = .ok (.aload_n 0, 1) := by decide +kernel
theorem dX4_decrements_1 : decode cX4_decrements 1 = .ok (.bipush 20, 2) := by decide +kernel
theorem dX4_decrements_3 : decode cX4_decrements 3 = .ok (.iload_n 1, 1) := by decide +kernel
theorem dX4_decrements_4 : decode cX4_decrements 4 = .ok (.iload_n 2, 1) := by decide +kernel
theorem dX4_decrements_5 : decode cX4_decrements 5 = .ok (.iload_n 3, 1) := by decide +kernel
theorem dX4_decrements_6 : decode cX4_decrements 6 = .ok (.invokevirtual 148, 3) := by decide +kernel
theorem dX4_decrements_9 : decode cX4_decrements 9 = .ok (.ireturn, 1) := by decide +kernel
theorem dX4_sumOf_0 : decode cX4_sumOf 0 = .ok (.aload_n 0, 1) := by decide +kernel
theorem dX4_sumOf_1 : decode cX4_sumOf 1 = .ok (.iload_n 2, 1) := by decide +kernel
theorem dX4_sumOf_2 : decode cX4_sumOf 2 = .ok (.invokevirtual 115, 3) := by decide +kernel
theorem dX4_sumOf_5 : decode cX4_sumOf 5 = .ok (.astore 5, 2) := by decide +kernel
theorem dX4_sumOf_7 : decode cX4_sumOf 7 = .ok (.aload_n 0, 1) := by decide +kernel
theorem dX4_sumOf_8 : decode cX4_sumOf 8 = .ok (.iload_n 3, 1) := by decide +kernel
theorem dX4_sumOf_9 : decode cX4_sumOf 9 = .ok (.invokevirtual 142, 3) := by decide +kernel
theorem dX4_sumOf_12 : decode cX4_sumOf 12 = .ok (.aload_n 0, 1) := by decide +kernel
theorem dX4_sumOf_13 : decode cX4_sumOf 13 = .ok (.iload 4, 2) := by decide +kernel
theorem dX4_sumOf_15 : decode cX4_sumOf 15 = .ok (.invokevirtual 119, 3) := by decide +kernel
theorem dX4_sumOf_18 : decode cX4_sumOf 18 = .ok (.aload 5, 2) := by decide +kernel
theorem dX4_sumOf_20 : decode cX4_sumOf 20 = .ok (.iload_n 1, 1) := by decide +kernel
theorem dX4_sumOf_21 : decode cX4_sumOf 21 = .ok (.iload_n 3, 1) := by decide +kernel
theorem dX4_sumOf_22 : decode cX4_sumOf 22 = .ok (.iload 4, 2) := by decide +kernel
theorem dX4_sumOf_24 : decode cX4_sumOf 24 = .ok (.invokevirtual 152, 3) := by decide +kernel
theorem dX4_sumOf_27 : decode cX4_sumOf 27 = .ok (.ireturn, 1) := by decide +kernel
theorem dX4_hasTag_0 : decode cX4_hasTag 0 = .ok (.aload_n 0, 1) := by decide +kernel
theorem dX4_hasTag_1 : decode cX4_hasTag 1 = .ok (.iload_n 1, 1) := by decide +kernel
theorem dX4_hasTag_2 : decode cX4_hasTag 2 = .ok (.iload_n 2, 1) := by decide +kernel
theorem dX4_hasTag_3 : decode cX4_hasTag 3 = .ok (.invokevirtual 156, 3) := by decide +kernel
theorem dX4_hasTag_6 : decode cX4_hasTag 6 = .ok (.ifCond .le 7, 3) := by decide +kernel
theorem dX4_hasTag_9 : decode cX4_hasTag 9 = .ok (.iconst 1, 1) := by decide +kernel
theorem dX4_hasTag_10 : decode cX4_hasTag 10 = .ok (.goto 4, 3) := by decide +kernel
theorem dX4_hasTag_13 : decode cX4_hasTag 13 = .ok (.iconst 0, 1) := by decide +kernel
theorem dX4_hasTag_14 : decode cX4_hasTag 14 = .ok (.ireturn, 1) := by decide +kernel
theorem dX4_liveDots_0 : decode cX4_liveDots 0 = .ok (.aload_n 0, 1) := by decide +kernel
theorem dX4_liveDots_1 : decode cX4_liveDots 1 = .ok (.iload_n 1, 1) := by decide +kernel
theorem dX4_liveDots_2 : decode cX4_liveDots 2 = .ok (.invokevirtual 115, 3) := by decide +kernel
theorem dX4_liveDots_5 : decode cX4_liveDots 5 = .ok (.astore_n 3, 1) := by decide +kernel
theorem dX4_liveDots_6 : decode cX4_liveDots 6 = .ok (.aload_n 0, 1) := by decide +kernel
theorem dX4_liveDots_7 : decode cX4_liveDots 7 = .ok (.iload_n 2, 1) := by decide +kernel
theorem dX4_liveDots_8 : decode cX4_liveDots 8 = .ok (.invokevirtual 160, 3) := by decide +kernel
theorem dX4_liveDots_11 : decode cX4_liveDots 11 = .ok (.aload_n 3, 1) := by decide +kernel
theorem dX4_liveDots_12 : decode cX4_liveDots 12 = .ok (.iload_n 2, 1) := by decide +kernel
theorem dX4_liveDots_13 : decode cX4_liveDots 13 = .ok (.invokevirtual 163, 3) := by decide +kernel
theorem dX4_liveDots_16 : decode cX4_liveDots 16 = .ok (.ireturn, 1) := by decide +kernel
theorem dX4_tagDot_0 : decode cX4_tagDot 0 = .ok (.aload_n 0, 1) := by decide +kernel
theorem dX4_tagDot_1 : decode cX4_tagDot 1 = .ok (.iload_n 1, 1) := by decide +kernel
theorem dX4_tagDot_2 : decode cX4_tagDot 2 = .ok (.invokevirtual 115, 3) := by decide +kernel
theorem dX4_tagDot_5 : decode cX4_tagDot 5 = .ok (.astore 4, 2) := by decide +kernel
theorem dX4_tagDot_7 : decode cX4_tagDot 7 = .ok (.aload_n 0, 1) := by decide +kernel
theorem dX4_tagDot_8 : decode cX4_tagDot 8 = .ok (.iload_n 2, 1) := by decide +kernel
theorem dX4_tagDot_9 : decode cX4_tagDot 9 = .ok (.invokevirtual 160, 3) := by decide +kernel
theorem dX4_tagDot_12 : decode cX4_tagDot 12 = .ok (.aload_n 0, 1) := by decide +kernel
theorem dX4_tagDot_13 : decode cX4_tagDot 13 = .ok (.iload_n 3, 1) := by decide +kernel
theorem dX4_tagDot_14 : decode cX4_tagDot 14 = .ok (.invokevirtual 119, 3) := by decide +kernel
theorem dX4_tagDot_17 : decode cX4_tagDot 17 = .ok (.aload 4, 2) := by decide +kernel
theorem dX4_tagDot_19 : decode cX4_tagDot 19 = .ok (.iload_n 2, 1) := by decide +kernel
theorem dX4_tagDot_20 : decode cX4_tagDot 20 = .ok (.iload_n 3, 1) := by decide +kernel
theorem dX4_tagDot_21 : decode cX4_tagDot 21 = .ok (.invokevirtual 166, 3) := by decide +kernel
theorem dX4_tagDot_24 : decode cX4_tagDot 24 = .ok (.ireturn, 1) := by decide +kernel
theorem dX4_tagCount_0 : decode cX4_tagCount 0 = .ok (.aload_n 0, 1) := by decide +kernel
theorem dX4_tagCount_1 : decode cX4_tagCount 1 = .ok (.iload_n 1, 1) := by decide +kernel
theorem dX4_tagCount_2 : decode cX4_tagCount 2 = .ok (.invokevirtual 115, 3) := by decide +kernel
theorem dX4_tagCount_5 : decode cX4_tagCount 5 = .ok (.invokevirtual 169, 3) := by decide +kernel
theorem dX4_tagCount_8 : decode cX4_tagCount 8 = .ok (.ireturn, 1) := by decide +kernel
theorem dX4_tagAt_0 : decode cX4_tagAt 0 = .ok (.aload_n 0, 1) := by decide +kernel
theorem dX4_tagAt_1 : decode cX4_tagAt 1 = .ok (.iload_n 1, 1) := by decide +kernel
theorem dX4_tagAt_2 : decode cX4_tagAt 2 = .ok (.invokevirtual 115, 3) := by decide +kernel
theorem dX4_tagAt_5 : decode cX4_tagAt 5 = .ok (.iload_n 2, 1) := by decide +kernel
theorem dX4_tagAt_6 : decode cX4_tagAt 6 = .ok (.invokevirtual 172, 3) := by decide +kernel
theorem dX4_tagAt_9 : decode cX4_tagAt 9 = .ok (.istore_n 3, 1) := by decide +kernel
theorem dX4_tagAt_10 : decode cX4_tagAt 10 = .ok (.iload_n 3, 1) := by decide +kernel
theorem dX4_tagAt_11 : decode cX4_tagAt 11 = .ok (.iconst (-1), 1) := by decide +kernel
theorem dX4_tagAt_12 : decode cX4_tagAt 12 = .ok (.if_icmp .ne 13, 3) := by decide +kernel
theorem dX4_tagAt_15 : decode cX4_tagAt 15 = .ok (.new 91, 3) := by decide +kernel
theorem dX4_tagAt_18 : decode cX4_tagAt 18 = .ok (.dup, 1) := by decide +kernel
theorem dX4_tagAt_19 : decode cX4_tagAt 19 = .ok (.ldc 175, 2) := by decide +kernel
theorem dX4_tagAt_21 : decode cX4_tagAt 21 = .ok (.invokespecial 95, 3) := by decide +kernel
theorem dX4_tagAt_24 : decode cX4_tagAt 24 = .ok (.athrow, 1) := by decide +kernel
theorem dX4_tagAt_25 : decode cX4_tagAt 25 = .ok (.iload_n 3, 1) := by decide +kernel
theorem dX4_tagAt_26 : decode cX4_tagAt 26 = .ok (.ireturn, 1) := by decide +kernel
theorem dX4_entryCount_0 : decode cX4_entryCount 0 = .ok (.aload_n 0, 1) := by decide +kernel
theorem dX4_entryCount_1 : decode cX4_entryCount 1 = .ok (.iload_n 1, 1) := by decide +kernel
theorem dX4_entryCount_2 : decode cX4_entryCount 2 = .ok (.invokevirtual 115, 3) := by decide +kernel
theorem dX4_entryCount_5 : decode cX4_entryCount 5 = .ok (.astore_n 3, 1) := by decide +kernel
theorem dX4_entryCount_6 : decode cX4_entryCount 6 = .ok (.aload_n 0, 1) := by decide +kernel
theorem dX4_entryCount_7 : decode cX4_entryCount 7 = .ok (.iload_n 2, 1) := by decide +kernel
theorem dX4_entryCount_8 : decode cX4_entryCount 8 = .ok (.invokevirtual 177, 3) := by decide +kernel
theorem dX4_entryCount_11 : decode cX4_entryCount 11 = .ok (.aload_n 3, 1) := by decide +kernel
theorem dX4_entryCount_12 : decode cX4_entryCount 12 = .ok (.iload_n 2, 1) := by decide +kernel
theorem dX4_entryCount_13 : decode cX4_entryCount 13 = .ok (.invokevirtual 180, 3) := by decide +kernel
theorem dX4_entryCount_16 : decode cX4_entryCount 16 = .ok (.ireturn, 1) := by decide +kernel
theorem dX4_entryValue_0 : decode cX4_entryValue 0 = .ok (.aload_n 0, 1) := by decide +kernel
theorem dX4_entryValue_1 : decode cX4_entryValue 1 = .ok (.iload_n 1, 1) := by decide +kernel
theorem dX4_entryValue_2 : decode cX4_entryValue 2 = .ok (.invokevirtual 115, 3) := by decide +kernel
theorem dX4_entryValue_5 : decode cX4_entryValue 5 = .ok (.astore 4, 2) := by decide +kernel
theorem dX4_entryValue_7 : decode cX4_entryValue 7 = .ok (.aload_n 0, 1) := by decide +kernel
theorem dX4_entryValue_8 : decode cX4_entryValue 8 = .ok (.iload_n 2, 1) := by decide +kernel
theorem dX4_entryValue_9 : decode cX4_entryValue 9 = .ok (.invokevirtual 177, 3) := by decide +kernel
theorem dX4_entryValue_12 : decode cX4_entryValue 12 = .ok (.aload_n 0, 1) := by decide +kernel
theorem dX4_entryValue_13 : decode cX4_entryValue 13 = .ok (.iload_n 3, 1) := by decide +kernel
theorem dX4_entryValue_14 : decode cX4_entryValue 14 = .ok (.invokevirtual 119, 3) := by decide +kernel
theorem dX4_entryValue_17 : decode cX4_entryValue 17 = .ok (.aload 4, 2) := by decide +kernel
theorem dX4_entryValue_19 : decode cX4_entryValue 19 = .ok (.iload_n 2, 1) := by decide +kernel
theorem dX4_entryValue_20 : decode cX4_entryValue 20 = .ok (.iload_n 3, 1) := by decide +kernel
theorem dX4_entryValue_21 : decode cX4_entryValue 21 = .ok (.invokevirtual 183, 3) := by decide +kernel
theorem dX4_entryValue_24 : decode cX4_entryValue 24 = .ok (.ireturn, 1) := by decide +kernel
theorem dX4_greatestValue_0 : decode cX4_greatestValue 0 = .ok (.aload_n 0, 1) := by decide +kernel
theorem dX4_greatestValue_1 : decode cX4_greatestValue 1 = .ok (.iload_n 1, 1) := by decide +kernel
theorem dX4_greatestValue_2 : decode cX4_greatestValue 2 = .ok (.invokevirtual 115, 3) := by decide +kernel
theorem dX4_greatestValue_5 : decode cX4_greatestValue 5 = .ok (.astore_n 3, 1) := by decide +kernel
theorem dX4_greatestValue_6 : decode cX4_greatestValue 6 = .ok (.aload_n 0, 1) := by decide +kernel
theorem dX4_greatestValue_7 : decode cX4_greatestValue 7 = .ok (.iload_n 2, 1) := by decide +kernel
theorem dX4_greatestValue_8 : decode cX4_greatestValue 8 = .ok (.invokevirtual 177, 3) := by decide +kernel
theorem dX4_greatestValue_11 : decode cX4_greatestValue 11 = .ok (.iconst (-1), 1) := by decide +kernel
theorem dX4_greatestValue_12 : decode cX4_greatestValue 12 = .ok (.istore 4, 2) := by decide +kernel
theorem dX4_greatestValue_14 : decode cX4_greatestValue 14 = .ok (.iconst 0, 1) := by decide +kernel
theorem dX4_greatestValue_15 : decode cX4_greatestValue 15 = .ok (.istore 5, 2) := by decide +kernel
theorem dX4_greatestValue_17 : decode cX4_greatestValue 17 = .ok (.iload 5, 2) := by decide +kernel
theorem dX4_greatestValue_19 : decode cX4_greatestValue 19 = .ok (.iconst 4, 1) := by decide +kernel
theorem dX4_greatestValue_20 : decode cX4_greatestValue 20 = .ok (.if_icmp .ge 23, 3) := by decide +kernel
theorem dX4_greatestValue_23 : decode cX4_greatestValue 23 = .ok (.iload 4, 2) := by decide +kernel
theorem dX4_greatestValue_25 : decode cX4_greatestValue 25 = .ok (.aload_n 3, 1) := by decide +kernel
theorem dX4_greatestValue_26 : decode cX4_greatestValue 26 = .ok (.iload_n 2, 1) := by decide +kernel
theorem dX4_greatestValue_27 : decode cX4_greatestValue 27 = .ok (.iload 5, 2) := by decide +kernel
theorem dX4_greatestValue_29 : decode cX4_greatestValue 29 = .ok (.invokevirtual 183, 3) := by decide +kernel
theorem dX4_greatestValue_32 : decode cX4_greatestValue 32 = .ok (.invokestatic 186, 3) := by decide +kernel
theorem dX4_greatestValue_35 : decode cX4_greatestValue 35 = .ok (.istore 4, 2) := by decide +kernel
theorem dX4_greatestValue_37 : decode cX4_greatestValue 37 = .ok (.iinc 5 1, 3) := by decide +kernel
theorem dX4_greatestValue_40 : decode cX4_greatestValue 40 = .ok (.goto (-23), 3) := by decide +kernel
theorem dX4_greatestValue_43 : decode cX4_greatestValue 43 = .ok (.iload 4, 2) := by decide +kernel
theorem dX4_greatestValue_45 : decode cX4_greatestValue 45 = .ok (.ireturn, 1) := by decide +kernel
theorem dX4_conflicts_0 : decode cX4_conflicts 0 = .ok (.aload_n 0, 1) := by decide +kernel
theorem dX4_conflicts_1 : decode cX4_conflicts 1 = .ok (.iload_n 1, 1) := by decide +kernel
theorem dX4_conflicts_2 : decode cX4_conflicts 2 = .ok (.invokevirtual 115, 3) := by decide +kernel
theorem dX4_conflicts_5 : decode cX4_conflicts 5 = .ok (.invokevirtual 191, 3) := by decide +kernel
theorem dX4_conflicts_8 : decode cX4_conflicts 8 = .ok (.ireturn, 1) := by decide +kernel
theorem dX4_unseenDots_0 : decode cX4_unseenDots 0 = .ok (.aload_n 0, 1) := by decide +kernel
theorem dX4_unseenDots_1 : decode cX4_unseenDots 1 = .ok (.iload_n 1, 1) := by decide +kernel
theorem dX4_unseenDots_2 : decode cX4_unseenDots 2 = .ok (.invokevirtual 115, 3) := by decide +kernel
theorem dX4_unseenDots_5 : decode cX4_unseenDots 5 = .ok (.astore_n 3, 1) := by decide +kernel
theorem dX4_unseenDots_6 : decode cX4_unseenDots 6 = .ok (.aload_n 0, 1) := by decide +kernel
theorem dX4_unseenDots_7 : decode cX4_unseenDots 7 = .ok (.iload_n 2, 1) := by decide +kernel
theorem dX4_unseenDots_8 : decode cX4_unseenDots 8 = .ok (.invokevirtual 115, 3) := by decide +kernel
theorem dX4_unseenDots_11 : decode cX4_unseenDots 11 = .ok (.astore 4, 2) := by decide +kernel
theorem dX4_unseenDots_13 : decode cX4_unseenDots 13 = .ok (.iconst 0, 1) := by decide +kernel
theorem dX4_unseenDots_14 : decode cX4_unseenDots 14 = .ok (.istore 5, 2) := by decide +kernel
theorem dX4_unseenDots_16 : decode cX4_unseenDots 16 = .ok (.iconst 0, 1) := by decide +kernel
theorem dX4_unseenDots_17 : decode cX4_unseenDots 17 = .ok (.istore 6, 2) := by decide +kernel
theorem dX4_unseenDots_19 : decode cX4_unseenDots 19 = .ok (.iload 6, 2) := by decide +kernel
theorem dX4_unseenDots_21 : decode cX4_unseenDots 21 = .ok (.iconst 4, 1) := by decide +kernel
theorem dX4_unseenDots_22 : decode cX4_unseenDots 22 = .ok (.if_icmp .ge 32, 3) := by decide +kernel
theorem dX4_unseenDots_25 : decode cX4_unseenDots 25 = .ok (.iload 5, 2) := by decide +kernel
theorem dX4_unseenDots_27 : decode cX4_unseenDots 27 = .ok (.iconst 0, 1) := by decide +kernel
theorem dX4_unseenDots_28 : decode cX4_unseenDots 28 = .ok (.aload_n 3, 1) := by decide +kernel
theorem dX4_unseenDots_29 : decode cX4_unseenDots 29 = .ok (.iload 6, 2) := by decide +kernel
theorem dX4_unseenDots_31 : decode cX4_unseenDots 31 = .ok (.invokevirtual 122, 3) := by decide +kernel
theorem dX4_unseenDots_34 : decode cX4_unseenDots 34 = .ok (.aload 4, 2) := by decide +kernel
theorem dX4_unseenDots_36 : decode cX4_unseenDots 36 = .ok (.iload 6, 2) := by decide +kernel
theorem dX4_unseenDots_38 : decode cX4_unseenDots 38 = .ok (.invokevirtual 122, 3) := by decide +kernel
theorem dX4_unseenDots_41 : decode cX4_unseenDots 41 = .ok (.isub, 1) := by decide +kernel
theorem dX4_unseenDots_42 : decode cX4_unseenDots 42 = .ok (.invokestatic 186, 3) := by decide +kernel
theorem dX4_unseenDots_45 : decode cX4_unseenDots 45 = .ok (.iadd, 1) := by decide +kernel
theorem dX4_unseenDots_46 : decode cX4_unseenDots 46 = .ok (.istore 5, 2) := by decide +kernel
theorem dX4_unseenDots_48 : decode cX4_unseenDots 48 = .ok (.iinc 6 1, 3) := by decide +kernel
theorem dX4_unseenDots_51 : decode cX4_unseenDots 51 = .ok (.goto (-32), 3) := by decide +kernel
theorem dX4_unseenDots_54 : decode cX4_unseenDots 54 = .ok (.iload 5, 2) := by decide +kernel
theorem dX4_unseenDots_56 : decode cX4_unseenDots 56 = .ok (.ireturn, 1) := by decide +kernel
theorem dX4_deltaSize_0 : decode cX4_deltaSize 0 = .ok (.aload_n 0, 1) := by decide +kernel
theorem dX4_deltaSize_1 : decode cX4_deltaSize 1 = .ok (.iload_n 1, 1) := by decide +kernel
theorem dX4_deltaSize_2 : decode cX4_deltaSize 2 = .ok (.invokevirtual 115, 3) := by decide +kernel
theorem dX4_deltaSize_5 : decode cX4_deltaSize 5 = .ok (.aload_n 0, 1) := by decide +kernel
theorem dX4_deltaSize_6 : decode cX4_deltaSize 6 = .ok (.iload_n 2, 1) := by decide +kernel
theorem dX4_deltaSize_7 : decode cX4_deltaSize 7 = .ok (.invokevirtual 115, 3) := by decide +kernel
theorem dX4_deltaSize_10 : decode cX4_deltaSize 10 = .ok (.invokevirtual 194, 3) := by decide +kernel
theorem dX4_deltaSize_13 : decode cX4_deltaSize 13 = .ok (.ireturn, 1) := by decide +kernel
theorem dX4_tagsGained_0 : decode cX4_tagsGained 0 = .ok (.aload_n 0, 1) := by decide +kernel
theorem dX4_tagsGained_1 : decode cX4_tagsGained 1 = .ok (.iload_n 1, 1) := by decide +kernel
theorem dX4_tagsGained_2 : decode cX4_tagsGained 2 = .ok (.invokevirtual 115, 3) := by decide +kernel
theorem dX4_tagsGained_5 : decode cX4_tagsGained 5 = .ok (.astore_n 3, 1) := by decide +kernel
theorem dX4_tagsGained_6 : decode cX4_tagsGained 6 = .ok (.aload_n 0, 1) := by decide +kernel
theorem dX4_tagsGained_7 : decode cX4_tagsGained 7 = .ok (.aload_n 3, 1) := by decide +kernel
theorem dX4_tagsGained_8 : decode cX4_tagsGained 8 = .ok (.aload_n 0, 1) := by decide +kernel
theorem dX4_tagsGained_9 : decode cX4_tagsGained 9 = .ok (.iload_n 2, 1) := by decide +kernel
theorem dX4_tagsGained_10 : decode cX4_tagsGained 10 = .ok (.invokevirtual 115, 3) := by decide +kernel
theorem dX4_tagsGained_13 : decode cX4_tagsGained 13 = .ok (.invokevirtual 198, 3) := by decide +kernel
theorem dX4_tagsGained_16 : decode cX4_tagsGained 16 = .ok (.astore 4, 2) := by decide +kernel
theorem dX4_tagsGained_18 : decode cX4_tagsGained 18 = .ok (.aload 4, 2) := by decide +kernel
theorem dX4_tagsGained_20 : decode cX4_tagsGained 20 = .ok (.aload_n 3, 1) := by decide +kernel
theorem dX4_tagsGained_21 : decode cX4_tagsGained 21 = .ok (.invokevirtual 202, 3) := by decide +kernel
theorem dX4_tagsGained_24 : decode cX4_tagsGained 24 = .ok (.ireturn, 1) := by decide +kernel
theorem dX4_tagsLost_0 : decode cX4_tagsLost 0 = .ok (.aload_n 0, 1) := by decide +kernel
theorem dX4_tagsLost_1 : decode cX4_tagsLost 1 = .ok (.iload_n 1, 1) := by decide +kernel
theorem dX4_tagsLost_2 : decode cX4_tagsLost 2 = .ok (.invokevirtual 115, 3) := by decide +kernel
theorem dX4_tagsLost_5 : decode cX4_tagsLost 5 = .ok (.astore_n 3, 1) := by decide +kernel
theorem dX4_tagsLost_6 : decode cX4_tagsLost 6 = .ok (.aload_n 0, 1) := by decide +kernel
theorem dX4_tagsLost_7 : decode cX4_tagsLost 7 = .ok (.aload_n 3, 1) := by decide +kernel
theorem dX4_tagsLost_8 : decode cX4_tagsLost 8 = .ok (.aload_n 0, 1) := by decide +kernel
theorem dX4_tagsLost_9 : decode cX4_tagsLost 9 = .ok (.iload_n 2, 1) := by decide +kernel
theorem dX4_tagsLost_10 : decode cX4_tagsLost 10 = .ok (.invokevirtual 115, 3) := by decide +kernel
theorem dX4_tagsLost_13 : decode cX4_tagsLost 13 = .ok (.invokevirtual 198, 3) := by decide +kernel
theorem dX4_tagsLost_16 : decode cX4_tagsLost 16 = .ok (.astore 4, 2) := by decide +kernel
theorem dX4_tagsLost_18 : decode cX4_tagsLost 18 = .ok (.aload_n 3, 1) := by decide +kernel
theorem dX4_tagsLost_19 : decode cX4_tagsLost 19 = .ok (.aload 4, 2) := by decide +kernel
theorem dX4_tagsLost_21 : decode cX4_tagsLost 21 = .ok (.invokevirtual 202, 3) := by decide +kernel
theorem dX4_tagsLost_24 : decode cX4_tagsLost 24 = .ok (.ireturn, 1) := by decide +kernel
theorem dX4_mergedValue_0 : decode cX4_mergedValue 0 = .ok (.aload_n 0, 1) := by decide +kernel
theorem dX4_mergedValue_1 : decode cX4_mergedValue 1 = .ok (.iload_n 1, 1) := by decide +kernel
theorem dX4_mergedValue_2 : decode cX4_mergedValue 2 = .ok (.invokevirtual 142, 3) := by decide +kernel
theorem dX4_mergedValue_5 : decode cX4_mergedValue 5 = .ok (.aload_n 0, 1) := by decide +kernel
theorem dX4_mergedValue_6 : decode cX4_mergedValue 6 = .ok (.invokevirtual 205, 3) := by decide +kernel
theorem dX4_mergedValue_9 : decode cX4_mergedValue 9 = .ok (.iload_n 1, 1) := by decide +kernel
theorem dX4_mergedValue_10 : decode cX4_mergedValue 10 = .ok (.invokevirtual 145, 3) := by decide +kernel
theorem dX4_mergedValue_13 : decode cX4_mergedValue 13 = .ok (.ireturn, 1) := by decide +kernel
theorem dX4_mergedTags_0 : decode cX4_mergedTags 0 = .ok (.aload_n 0, 1) := by decide +kernel
theorem dX4_mergedTags_1 : decode cX4_mergedTags 1 = .ok (.invokevirtual 205, 3) := by decide +kernel
theorem dX4_mergedTags_4 : decode cX4_mergedTags 4 = .ok (.invokevirtual 169, 3) := by decide +kernel
theorem dX4_mergedTags_7 : decode cX4_mergedTags 7 = .ok (.ireturn, 1) := by decide +kernel
theorem dX4_mergedConflicts_0 : decode cX4_mergedConflicts 0 = .ok (.aload_n 0, 1) := by decide +kernel
theorem dX4_mergedConflicts_1 : decode cX4_mergedConflicts 1 = .ok (.invokevirtual 205, 3) := by decide +kernel
theorem dX4_mergedConflicts_4 : decode cX4_mergedConflicts 4 = .ok (.invokevirtual 191, 3) := by decide +kernel
theorem dX4_mergedConflicts_7 : decode cX4_mergedConflicts 7 = .ok (.ireturn, 1) := by decide +kernel
theorem dX4_convergenceErrors_0 : decode cX4_convergenceErrors 0 = .ok (.aload_n 0, 1) := by decide +kernel
theorem dX4_convergenceErrors_1 : decode cX4_convergenceErrors 1 = .ok (.invokevirtual 205, 3) := by decide +kernel
theorem dX4_convergenceErrors_4 : decode cX4_convergenceErrors 4 = .ok (.astore_n 1, 1) := by decide +kernel
theorem dX4_convergenceErrors_5 : decode cX4_convergenceErrors 5 = .ok (.aload_n 0, 1) := by decide +kernel
theorem dX4_convergenceErrors_6 : decode cX4_convergenceErrors 6 = .ok (.getfield 54, 3) := by decide +kernel
theorem dX4_convergenceErrors_9 : decode cX4_convergenceErrors 9 = .ok (.astore_n 2, 1) := by decide +kernel
theorem dX4_convergenceErrors_10 : decode cX4_convergenceErrors 10 = .ok (.aload_n 2, 1) := by decide +kernel
theorem dX4_convergenceErrors_11 : decode cX4_convergenceErrors 11 = .ok (.invokevirtual 209, 3) := by decide +kernel
theorem dX4_convergenceErrors_14 : decode cX4_convergenceErrors 14 = .ok (.aload_n 0, 1) := by decide +kernel
theorem dX4_convergenceErrors_15 : decode cX4_convergenceErrors 15 = .ok (.getfield 77, 3) := by decide +kernel
theorem dX4_convergenceErrors_18 : decode cX4_convergenceErrors 18 = .ok (.getfield 106, 3) := by decide +kernel
theorem dX4_convergenceErrors_21 : decode cX4_convergenceErrors 21 = .ok (.iconst 1, 1) := by decide +kernel
theorem dX4_convergenceErrors_22 : decode cX4_convergenceErrors 22 = .ok (.isub, 1) := by decide +kernel
theorem dX4_convergenceErrors_23 : decode cX4_convergenceErrors 23 = .ok (.istore_n 3, 1) := by decide +kernel
theorem dX4_convergenceErrors_24 : decode cX4_convergenceErrors 24 = .ok (.iload_n 3, 1) := by decide +kernel
theorem dX4_convergenceErrors_25 : decode cX4_convergenceErrors 25 = .ok (.ifCond .lt 22, 3) := by decide +kernel
theorem dX4_convergenceErrors_28 : decode cX4_convergenceErrors 28 = .ok (.aload_n 2, 1) := by decide +kernel
theorem dX4_convergenceErrors_29 : decode cX4_convergenceErrors 29 = .ok (.aload_n 0, 1) := by decide +kernel
theorem dX4_convergenceErrors_30 : decode cX4_convergenceErrors 30 = .ok (.getfield 77, 3) := by decide +kernel
theorem dX4_convergenceErrors_33 : decode cX4_convergenceErrors 33 = .ok (.getfield 138, 3) := by decide +kernel
theorem dX4_convergenceErrors_36 : decode cX4_convergenceErrors 36 = .ok (.iload_n 3, 1) := by decide +kernel
theorem dX4_convergenceErrors_37 : decode cX4_convergenceErrors 37 = .ok (.aaload, 1) := by decide +kernel
theorem dX4_convergenceErrors_38 : decode cX4_convergenceErrors 38 = .ok (.invokevirtual 212, 3) := by decide +kernel
theorem dX4_convergenceErrors_41 : decode cX4_convergenceErrors 41 = .ok (.iinc 3 (-1), 3) := by decide +kernel
theorem dX4_convergenceErrors_44 : decode cX4_convergenceErrors 44 = .ok (.goto (-20), 3) := by decide +kernel
theorem dX4_convergenceErrors_47 : decode cX4_convergenceErrors 47 = .ok (.aload_n 1, 1) := by decide +kernel
theorem dX4_convergenceErrors_48 : decode cX4_convergenceErrors 48 = .ok (.aload_n 2, 1) := by decide +kernel
theorem dX4_convergenceErrors_49 : decode cX4_convergenceErrors 49 = .ok (.invokevirtual 126, 3) := by decide +kernel
theorem dX4_convergenceErrors_52 : decode cX4_convergenceErrors 52 = .ok (.ifCond .eq 7, 3) := by decide +kernel
theorem dX4_convergenceErrors_55 : decode cX4_convergenceErrors 55 = .ok (.iconst 0, 1) := by decide +kernel
theorem dX4_convergenceErrors_56 : decode cX4_convergenceErrors 56 = .ok (.goto 4, 3) := by decide +kernel
theorem dX4_convergenceErrors_59 : decode cX4_convergenceErrors 59 = .ok (.iconst 1, 1) := by decide +kernel
theorem dX4_convergenceErrors_60 : decode cX4_convergenceErrors 60 = .ok (.ireturn, 1) := by decide +kernel
theorem dX4_meanTags_0 : decode cX4_meanTags 0 = .ok (.iconst 0, 1) := by decide +kernel
theorem dX4_meanTags_1 : decode cX4_meanTags 1 = .ok (.istore_n 1, 1) := by decide +kernel
theorem dX4_meanTags_2 : decode cX4_meanTags 2 = .ok (.iconst 0, 1) := by decide +kernel
theorem dX4_meanTags_3 : decode cX4_meanTags 3 = .ok (.istore_n 2, 1) := by decide +kernel
theorem dX4_meanTags_4 : decode cX4_meanTags 4 = .ok (.iload_n 2, 1) := by decide +kernel
theorem dX4_meanTags_5 : decode cX4_meanTags 5 = .ok (.aload_n 0, 1) := by decide +kernel
theorem dX4_meanTags_6 : decode cX4_meanTags 6 = .ok (.getfield 77, 3) := by decide +kernel
theorem dX4_meanTags_9 : decode cX4_meanTags 9 = .ok (.getfield 106, 3) := by decide +kernel
theorem dX4_meanTags_12 : decode cX4_meanTags 12 = .ok (.if_icmp .ge 24, 3) := by decide +kernel
theorem dX4_meanTags_15 : decode cX4_meanTags 15 = .ok (.iload_n 1, 1) := by decide +kernel
theorem dX4_meanTags_16 : decode cX4_meanTags 16 = .ok (.aload_n 0, 1) := by decide +kernel
theorem dX4_meanTags_17 : decode cX4_meanTags 17 = .ok (.getfield 77, 3) := by decide +kernel
theorem dX4_meanTags_20 : decode cX4_meanTags 20 = .ok (.getfield 138, 3) := by decide +kernel
theorem dX4_meanTags_23 : decode cX4_meanTags 23 = .ok (.iload_n 2, 1) := by decide +kernel
theorem dX4_meanTags_24 : decode cX4_meanTags 24 = .ok (.aaload, 1) := by decide +kernel
theorem dX4_meanTags_25 : decode cX4_meanTags 25 = .ok (.invokevirtual 169, 3) := by decide +kernel
theorem dX4_meanTags_28 : decode cX4_meanTags 28 = .ok (.iadd, 1) := by decide +kernel
theorem dX4_meanTags_29 : decode cX4_meanTags 29 = .ok (.istore_n 1, 1) := by decide +kernel
theorem dX4_meanTags_30 : decode cX4_meanTags 30 = .ok (.iinc 2 1, 3) := by decide +kernel
theorem dX4_meanTags_33 : decode cX4_meanTags 33 = .ok (.goto (-29), 3) := by decide +kernel
theorem dX4_meanTags_36 : decode cX4_meanTags 36 = .ok (.iload_n 1, 1) := by decide +kernel
theorem dX4_meanTags_37 : decode cX4_meanTags 37 = .ok (.i2d, 1) := by decide +kernel
theorem dX4_meanTags_38 : decode cX4_meanTags 38 = .ok (.aload_n 0, 1) := by decide +kernel
theorem dX4_meanTags_39 : decode cX4_meanTags 39 = .ok (.getfield 77, 3) := by decide +kernel
theorem dX4_meanTags_42 : decode cX4_meanTags 42 = .ok (.getfield 106, 3) := by decide +kernel
theorem dX4_meanTags_45 : decode cX4_meanTags 45 = .ok (.i2d, 1) := by decide +kernel
theorem dX4_meanTags_46 : decode cX4_meanTags 46 = .ok (.ddiv, 1) := by decide +kernel
theorem dX4_meanTags_47 : decode cX4_meanTags 47 = .ok (.dreturn, 1) := by decide +kernel
theorem dX4_completeShare_0 : decode cX4_completeShare 0 = .ok (.iconst 0, 1) := by decide +kernel
theorem dX4_completeShare_1 : decode cX4_completeShare 1 = .ok (.istore_n 1, 1) := by decide +kernel
theorem dX4_completeShare_2 : decode cX4_completeShare 2 = .ok (.iconst 0, 1) := by decide +kernel
theorem dX4_completeShare_3 : decode cX4_completeShare 3 = .ok (.istore_n 2, 1) := by decide +kernel
theorem dX4_completeShare_4 : decode cX4_completeShare 4 = .ok (.iload_n 2, 1) := by decide +kernel
theorem dX4_completeShare_5 : decode cX4_completeShare 5 = .ok (.aload_n 0, 1) := by decide +kernel
theorem dX4_completeShare_6 : decode cX4_completeShare 6 = .ok (.getfield 77, 3) := by decide +kernel
theorem dX4_completeShare_9 : decode cX4_completeShare 9 = .ok (.getfield 106, 3) := by decide +kernel
theorem dX4_completeShare_12 : decode cX4_completeShare 12 = .ok (.if_icmp .ge 28, 3) := by decide +kernel
theorem dX4_completeShare_15 : decode cX4_completeShare 15 = .ok (.aload_n 0, 1) := by decide +kernel
theorem dX4_completeShare_16 : decode cX4_completeShare 16 = .ok (.aload_n 0, 1) := by decide +kernel
theorem dX4_completeShare_17 : decode cX4_completeShare 17 = .ok (.getfield 77, 3) := by decide +kernel
theorem dX4_completeShare_20 : decode cX4_completeShare 20 = .ok (.getfield 138, 3) := by decide +kernel
theorem dX4_completeShare_23 : decode cX4_completeShare 23 = .ok (.iload_n 2, 1) := by decide +kernel
theorem dX4_completeShare_24 : decode cX4_completeShare 24 = .ok (.aaload, 1) := by decide +kernel
theorem dX4_completeShare_25 : decode cX4_completeShare 25 = .ok (.invokevirtual 216, 3) := by decide +kernel
theorem dX4_completeShare_28 : decode cX4_completeShare 28 = .ok (.ifCond .eq 6, 3) := by decide +kernel
theorem dX4_completeShare_31 : decode cX4_completeShare 31 = .ok (.iinc 1 1, 3) := by decide +kernel
theorem dX4_completeShare_34 : decode cX4_completeShare 34 = .ok (.iinc 2 1, 3) := by decide +kernel
theorem dX4_completeShare_37 : decode cX4_completeShare 37 = .ok (.goto (-33), 3) := by decide +kernel
theorem dX4_completeShare_40 : decode cX4_completeShare 40 = .ok (.iload_n 1, 1) := by decide +kernel
theorem dX4_completeShare_41 : decode cX4_completeShare 41 = .ok (.i2f, 1) := by decide +kernel
theorem dX4_completeShare_42 : decode cX4_completeShare 42 = .ok (.aload_n 0, 1) := by decide +kernel
theorem dX4_completeShare_43 : decode cX4_completeShare 43 = .ok (.getfield 77, 3) := by decide +kernel
theorem dX4_completeShare_46 : decode cX4_completeShare 46 = .ok (.getfield 106, 3) := by decide +kernel
theorem dX4_completeShare_49 : decode cX4_completeShare 49 = .ok (.i2f, 1) := by decide +kernel
theorem dX4_completeShare_50 : decode cX4_completeShare 50 = .ok (.fdiv, 1) := by decide +kernel
theorem dX4_completeShare_51 : decode cX4_completeShare 51 = .ok (.freturn, 1) := by decide +kernel
theorem dX4_knowsEveryState_0 : decode cX4_knowsEveryState 0 = .ok (.iconst 0, 1) := by decide +kernel
theorem dX4_knowsEveryState_1 : decode cX4_knowsEveryState 1 = .ok (.istore_n 2, 1) := by decide +kernel
theorem dX4_knowsEveryState_2 : decode cX4_knowsEveryState 2 = .ok (.iload_n 2, 1) := by decide +kernel
theorem dX4_knowsEveryState_3 : decode cX4_knowsEveryState 3 = .ok (.aload_n 0, 1) := by decide +kernel
theorem dX4_knowsEveryState_4 : decode cX4_knowsEveryState 4 = .ok (.getfield 77, 3) := by decide +kernel
theorem dX4_knowsEveryState_7 : decode cX4_knowsEveryState 7 = .ok (.getfield 106, 3) := by decide +kernel
theorem dX4_knowsEveryState_10 : decode cX4_knowsEveryState 10 = .ok (.if_icmp .ge 28, 3) := by decide +kernel
theorem dX4_knowsEveryState_13 : decode cX4_knowsEveryState 13 = .ok (.aload_n 0, 1) := by decide +kernel
theorem dX4_knowsEveryState_14 : decode cX4_knowsEveryState 14 = .ok (.aload_n 1, 1) := by decide +kernel
theorem dX4_knowsEveryState_15 : decode cX4_knowsEveryState 15 = .ok (.aload_n 0, 1) := by decide +kernel
theorem dX4_knowsEveryState_16 : decode cX4_knowsEveryState 16 = .ok (.getfield 77, 3) := by decide +kernel
theorem dX4_knowsEveryState_19 : decode cX4_knowsEveryState 19 = .ok (.getfield 138, 3) := by decide +kernel
theorem dX4_knowsEveryState_22 : decode cX4_knowsEveryState 22 = .ok (.iload_n 2, 1) := by decide +kernel
theorem dX4_knowsEveryState_23 : decode cX4_knowsEveryState 23 = .ok (.aaload, 1) := by decide +kernel
theorem dX4_knowsEveryState_24 : decode cX4_knowsEveryState 24 = .ok (.invokevirtual 130, 3) := by decide +kernel
theorem dX4_knowsEveryState_27 : decode cX4_knowsEveryState 27 = .ok (.ifCond .ne 5, 3) := by decide +kernel
theorem dX4_knowsEveryState_30 : decode cX4_knowsEveryState 30 = .ok (.iconst 0, 1) := by decide +kernel
theorem dX4_knowsEveryState_31 : decode cX4_knowsEveryState 31 = .ok (.ireturn, 1) := by decide +kernel
theorem dX4_knowsEveryState_32 : decode cX4_knowsEveryState 32 = .ok (.iinc 2 1, 3) := by decide +kernel
theorem dX4_knowsEveryState_35 : decode cX4_knowsEveryState 35 = .ok (.goto (-33), 3) := by decide +kernel
theorem dX4_knowsEveryState_38 : decode cX4_knowsEveryState 38 = .ok (.iconst 1, 1) := by decide +kernel
theorem dX4_knowsEveryState_39 : decode cX4_knowsEveryState 39 = .ok (.ireturn, 1) := by decide +kernel
theorem dX4_messageCount_0 : decode cX4_messageCount 0 = .ok (.aload_n 0, 1) := by decide +kernel
theorem dX4_messageCount_1 : decode cX4_messageCount 1 = .ok (.getfield 77, 3) := by decide +kernel
theorem dX4_messageCount_4 : decode cX4_messageCount 4 = .ok (.getfield 219, 3) := by decide +kernel
theorem dX4_messageCount_7 : decode cX4_messageCount 7 = .ok (.ireturn, 1) := by decide +kernel
theorem dX4_senderOf_0 : decode cX4_senderOf 0 = .ok (.aload_n 0, 1) := by decide +kernel
theorem dX4_senderOf_1 : decode cX4_senderOf 1 = .ok (.iload_n 1, 1) := by decide +kernel
theorem dX4_senderOf_2 : decode cX4_senderOf 2 = .ok (.invokevirtual 222, 3) := by decide +kernel
theorem dX4_senderOf_5 : decode cX4_senderOf 5 = .ok (.aload_n 0, 1) := by decide +kernel
theorem dX4_senderOf_6 : decode cX4_senderOf 6 = .ok (.getfield 77, 3) := by decide +kernel
theorem dX4_senderOf_9 : decode cX4_senderOf 9 = .ok (.getfield 225, 3) := by decide +kernel
theorem dX4_senderOf_12 : decode cX4_senderOf 12 = .ok (.iload_n 1, 1) := by decide +kernel
theorem dX4_senderOf_13 : decode cX4_senderOf 13 = .ok (.iaload, 1) := by decide +kernel
theorem dX4_senderOf_14 : decode cX4_senderOf 14 = .ok (.ireturn, 1) := by decide +kernel
theorem dX4_isNews_0 : decode cX4_isNews 0 = .ok (.aload_n 0, 1) := by decide +kernel
theorem dX4_isNews_1 : decode cX4_isNews 1 = .ok (.iload_n 1, 1) := by decide +kernel
theorem dX4_isNews_2 : decode cX4_isNews 2 = .ok (.invokevirtual 222, 3) := by decide +kernel
theorem dX4_isNews_5 : decode cX4_isNews 5 = .ok (.aload_n 0, 1) := by decide +kernel
theorem dX4_isNews_6 : decode cX4_isNews 6 = .ok (.aload_n 0, 1) := by decide +kernel
theorem dX4_isNews_7 : decode cX4_isNews 7 = .ok (.iload_n 2, 1) := by decide +kernel
theorem dX4_isNews_8 : decode cX4_isNews 8 = .ok (.invokevirtual 115, 3) := by decide +kernel
theorem dX4_isNews_11 : decode cX4_isNews 11 = .ok (.aload_n 0, 1) := by decide +kernel
theorem dX4_isNews_12 : decode cX4_isNews 12 = .ok (.getfield 77, 3) := by decide +kernel
theorem dX4_isNews_15 : decode cX4_isNews 15 = .ok (.getfield 229, 3) := by decide +kernel
theorem dX4_isNews_18 : decode cX4_isNews 18 = .ok (.iload_n 1, 1) := by decide +kernel
theorem dX4_isNews_19 : decode cX4_isNews 19 = .ok (.aaload, 1) := by decide +kernel
theorem dX4_isNews_20 : decode cX4_isNews 20 = .ok (.invokevirtual 130, 3) := by decide +kernel
theorem dX4_isNews_23 : decode cX4_isNews 23 = .ok (.ifCond .ne 7, 3) := by decide +kernel
theorem dX4_isNews_26 : decode cX4_isNews 26 = .ok (.iconst 1, 1) := by decide +kernel
theorem dX4_isNews_27 : decode cX4_isNews 27 = .ok (.goto 4, 3) := by decide +kernel
theorem dX4_isNews_30 : decode cX4_isNews 30 = .ok (.iconst 0, 1) := by decide +kernel
theorem dX4_isNews_31 : decode cX4_isNews 31 = .ok (.ireturn, 1) := by decide +kernel
theorem dX4_increment_0 : decode cX4_increment 0 = .ok (.aload_n 0, 1) := by decide +kernel
theorem dX4_increment_1 : decode cX4_increment 1 = .ok (.iconst 4, 1) := by decide +kernel
theorem dX4_increment_2 : decode cX4_increment 2 = .ok (.iload_n 1, 1) := by decide +kernel
theorem dX4_increment_3 : decode cX4_increment 3 = .ok (.iload_n 2, 1) := by decide +kernel
theorem dX4_increment_4 : decode cX4_increment 4 = .ok (.iload_n 3, 1) := by decide +kernel
theorem dX4_increment_5 : decode cX4_increment 5 = .ok (.invokevirtual 232, 3) := by decide +kernel
theorem dX4_increment_8 : decode cX4_increment 8 = .ok (.ireturn, 1) := by decide +kernel
theorem dX4_decrement_0 : decode cX4_decrement 0 = .ok (.aload_n 0, 1) := by decide +kernel
theorem dX4_decrement_1 : decode cX4_decrement 1 = .ok (.bipush 20, 2) := by decide +kernel
theorem dX4_decrement_3 : decode cX4_decrement 3 = .ok (.iload_n 1, 1) := by decide +kernel
theorem dX4_decrement_4 : decode cX4_decrement 4 = .ok (.iload_n 2, 1) := by decide +kernel
theorem dX4_decrement_5 : decode cX4_decrement 5 = .ok (.iload_n 3, 1) := by decide +kernel
theorem dX4_decrement_6 : decode cX4_decrement 6 = .ok (.invokevirtual 232, 3) := by decide +kernel
theorem dX4_decrement_9 : decode cX4_decrement 9 = .ok (.ireturn, 1) := by decide +kernel
theorem dX4_changeCounter_0 : decode cX4_changeCounter 0 = .ok (.aload_n 0, 1) := by decide +kernel
theorem dX4_changeCounter_1 : decode cX4_changeCounter 1 = .ok (.iload_n 2, 1) := by decide +kernel
theorem dX4_changeCounter_2 : decode cX4_changeCounter 2 = .ok (.invokevirtual 115, 3) := by decide +kernel
theorem dX4_changeCounter_5 : decode cX4_changeCounter 5 = .ok (.astore 5, 2) := by decide +kernel
theorem dX4_changeCounter_7 : decode cX4_changeCounter 7 = .ok (.aload_n 0, 1) := by decide +kernel
theorem dX4_changeCounter_8 : decode cX4_changeCounter 8 = .ok (.iload_n 3, 1) := by decide +kernel
theorem dX4_changeCounter_9 : decode cX4_changeCounter 9 = .ok (.invokevirtual 142, 3) := by decide +kernel
theorem dX4_changeCounter_12 : decode cX4_changeCounter 12 = .ok (.iload 4, 2) := by decide +kernel
theorem dX4_changeCounter_14 : decode cX4_changeCounter 14 = .ok (.iconst 1, 1) := by decide +kernel
theorem dX4_changeCounter_15 : decode cX4_changeCounter 15 = .ok (.if_icmp .lt 10, 3) := by decide +kernel
theorem dX4_changeCounter_18 : decode cX4_changeCounter 18 = .ok (.iload 4, 2) := by decide +kernel
theorem dX4_changeCounter_20 : decode cX4_changeCounter 20 = .ok (.bipush 99, 2) := by decide +kernel
theorem dX4_changeCounter_22 : decode cX4_changeCounter 22 = .ok (.if_icmp .le 13, 3) := by decide +kernel
theorem dX4_changeCounter_25 : decode cX4_changeCounter 25 = .ok (.new 98, 3) := by decide +kernel
theorem dX4_changeCounter_28 : decode cX4_changeCounter 28 = .ok (.dup, 1) := by decide +kernel
theorem dX4_changeCounter_29 : decode cX4_changeCounter 29 = .ok (.ldc 235, 2) := by decide +kernel
theorem dX4_changeCounter_31 : decode cX4_changeCounter 31 = .ok (.invokespecial 102, 3) := by decide +kernel
theorem dX4_changeCounter_34 : decode cX4_changeCounter 34 = .ok (.athrow, 1) := by decide +kernel
theorem dX4_changeCounter_35 : decode cX4_changeCounter 35 = .ok (.aload_n 0, 1) := by decide +kernel
