/-! what each instruction decodes to, as printed -/
theorem dX1_init_0 : decode cX1_init 0 = .ok (.aload_n 0, 1) := by decide +kernel
theorem dX1_init_1 : decode cX1_init 1 = .ok (.invokespecial 3, 3) := by decide +kernel
theorem dX1_init_4 : decode cX1_init 4 = .ok (.aload_n 0, 1) := by decide +kernel
theorem dX1_init_5 : decode cX1_init 5 = .ok (.iconst 0, 1) := by decide +kernel
theorem dX1_init_6 : decode cX1_init 6 = .ok (.putfield 11, 3) := by decide +kernel
theorem dX1_init_9 : decode cX1_init 9 = .ok (.aload_n 0, 1) := by decide +kernel
theorem dX1_init_10 : decode cX1_init 10 = .ok (.iconst 0, 1) := by decide +kernel
theorem dX1_init_11 : decode cX1_init 11 = .ok (.putfield 15, 3) := by decide +kernel
theorem dX1_init_14 : decode cX1_init 14 = .ok (.aload_n 0, 1) := by decide +kernel
theorem dX1_init_15 : decode cX1_init 15 = .ok (.iconst 0, 1) := by decide +kernel
theorem dX1_init_16 : decode cX1_init 16 = .ok (.putfield 18, 3) := by decide +kernel
theorem dX1_init_19 : decode cX1_init 19 = .ok (.aload_n 0, 1) := by decide +kernel
theorem dX1_init_20 : decode cX1_init 20 = .ok (.iconst 0, 1) := by decide +kernel
theorem dX1_init_21 : decode cX1_init 21 = .ok (.putfield 21, 3) := by decide +kernel
theorem dX1_init_24 : decode cX1_init 24 = .ok (.aload_n 0, 1) := by decide +kernel
theorem dX1_init_25 : decode cX1_init 25 = .ok (.iconst (-1), 1) := by decide +kernel
theorem dX1_init_26 : decode cX1_init 26 = .ok (.putfield 24, 3) := by decide +kernel
theorem dX1_init_29 : decode cX1_init 29 = .ok (.aload_n 0, 1) := by decide +kernel
theorem dX1_init_30 : decode cX1_init 30 = .ok (.aload_n 1, 1) := by decide +kernel
theorem dX1_init_31 : decode cX1_init 31 = .ok (.putfield 27, 3) := by decide +kernel
theorem dX1_init_34 : decode cX1_init 34 = .ok (.aload_n 0, 1) := by decide +kernel
theorem dX1_init_35 : decode cX1_init 35 = .ok (.iload_n 2, 1) := by decide +kernel
theorem dX1_init_36 : decode cX1_init 36 = .ok (.putfield 31, 3) := by decide +kernel
theorem dX1_init_39 : decode cX1_init 39 = .ok (.aload_n 0, 1) := by decide +kernel
theorem dX1_init_40 : decode cX1_init 40 = .ok (.aload_n 3, 1) := by decide +kernel
theorem dX1_init_41 : decode cX1_init 41 = .ok (.putfield 34, 3) := by decide +kernel
theorem dX1_init_44 : decode cX1_init 44 = .ok (.return_, 1) := by decide +kernel
theorem dX1_parse_0 : decode cX1_parse 0 = .ok (.aload_n 0, 1) := by decide +kernel
theorem dX1_parse_1 : decode cX1_parse 1 = .ok (.invokevirtual 38, 3) := by decide +kernel
theorem dX1_parse_4 : decode cX1_parse 4 = .ok (.aload_n 0, 1) := by decide +kernel
theorem dX1_parse_5 : decode cX1_parse 5 = .ok (.invokevirtual 41, 3) := by decide +kernel
theorem dX1_parse_8 : decode cX1_parse 8 = .ok (.istore_n 1, 1) := by decide +kernel
theorem dX1_parse_9 : decode cX1_parse 9 = .ok (.iconst 0, 1) := by decide +kernel
theorem dX1_parse_10 : decode cX1_parse 10 = .ok (.istore_n 2, 1) := by decide +kernel
theorem dX1_parse_11 : decode cX1_parse 11 = .ok (.iload_n 2, 1) := by decide +kernel
theorem dX1_parse_12 : decode cX1_parse 12 = .ok (.aload_n 0, 1) := by decide +kernel
theorem dX1_parse_13 : decode cX1_parse 13 = .ok (.getfield 31, 3) := by decide +kernel
theorem dX1_parse_16 : decode cX1_parse 16 = .ok (.if_icmp .ge 22, 3) := by decide +kernel
theorem dX1_parse_19 : decode cX1_parse 19 = .ok (.iload_n 1, 1) := by decide +kernel
theorem dX1_parse_20 : decode cX1_parse 20 = .ok (.ifCond .eq 18, 3) := by decide +kernel
theorem dX1_parse_23 : decode cX1_parse 23 = .ok (.aload_n 0, 1) := by decide +kernel
theorem dX1_parse_24 : decode cX1_parse 24 = .ok (.invokevirtual 45, 3) := by decide +kernel
theorem dX1_parse_27 : decode cX1_parse 27 = .ok (.aload_n 0, 1) := by decide +kernel
theorem dX1_parse_28 : decode cX1_parse 28 = .ok (.invokevirtual 41, 3) := by decide +kernel
theorem dX1_parse_31 : decode cX1_parse 31 = .ok (.istore_n 1, 1) := by decide +kernel
theorem dX1_parse_32 : decode cX1_parse 32 = .ok (.iinc 2 1, 3) := by decide +kernel
theorem dX1_parse_35 : decode cX1_parse 35 = .ok (.goto (-24), 3) := by decide +kernel
theorem dX1_parse_38 : decode cX1_parse 38 = .ok (.return_, 1) := by decide +kernel
theorem dX1_runFirstLine_0 : decode cX1_runFirstLine 0 = .ok (.aload_n 0, 1) := by decide +kernel
theorem dX1_runFirstLine_1 : decode cX1_runFirstLine 1 = .ok (.invokevirtual 48, 3) := by decide +kernel
theorem dX1_runFirstLine_4 : decode cX1_runFirstLine 4 = .ok (.aload_n 0, 1) := by decide +kernel
theorem dX1_runFirstLine_5 : decode cX1_runFirstLine 5 = .ok (.ldc 51, 2) := by decide +kernel
theorem dX1_runFirstLine_7 : decode cX1_runFirstLine 7 = .ok (.invokevirtual 53, 3) := by decide +kernel
theorem dX1_runFirstLine_10 : decode cX1_runFirstLine 10 = .ok (.ifCond .ne 8, 3) := by decide +kernel
theorem dX1_runFirstLine_13 : decode cX1_runFirstLine 13 = .ok (.aload_n 0, 1) := by decide +kernel
theorem dX1_runFirstLine_14 : decode cX1_runFirstLine 14 = .ok (.iconst 1, 1) := by decide +kernel
theorem dX1_runFirstLine_15 : decode cX1_runFirstLine 15 = .ok (.invokevirtual 57, 3) := by decide +kernel
theorem dX1_runFirstLine_18 : decode cX1_runFirstLine 18 = .ok (.aload_n 0, 1) := by decide +kernel
theorem dX1_runFirstLine_19 : decode cX1_runFirstLine 19 = .ok (.iconst 1, 1) := by decide +kernel
theorem dX1_runFirstLine_20 : decode cX1_runFirstLine 20 = .ok (.iconst 4, 1) := by decide +kernel
theorem dX1_runFirstLine_21 : decode cX1_runFirstLine 21 = .ok (.invokevirtual 61, 3) := by decide +kernel
theorem dX1_runFirstLine_24 : decode cX1_runFirstLine 24 = .ok (.istore_n 1, 1) := by decide +kernel
theorem dX1_runFirstLine_25 : decode cX1_runFirstLine 25 = .ok (.aload_n 0, 1) := by decide +kernel
theorem dX1_runFirstLine_26 : decode cX1_runFirstLine 26 = .ok (.iconst 0, 1) := by decide +kernel
theorem dX1_runFirstLine_27 : decode cX1_runFirstLine 27 = .ok (.iconst 4, 1) := by decide +kernel
theorem dX1_runFirstLine_28 : decode cX1_runFirstLine 28 = .ok (.invokevirtual 61, 3) := by decide +kernel
theorem dX1_runFirstLine_31 : decode cX1_runFirstLine 31 = .ok (.istore_n 2, 1) := by decide +kernel
theorem dX1_runFirstLine_32 : decode cX1_runFirstLine 32 = .ok (.aload_n 0, 1) := by decide +kernel
theorem dX1_runFirstLine_33 : decode cX1_runFirstLine 33 = .ok (.iconst 0, 1) := by decide +kernel
theorem dX1_runFirstLine_34 : decode cX1_runFirstLine 34 = .ok (.iconst 4, 1) := by decide +kernel
theorem dX1_runFirstLine_35 : decode cX1_runFirstLine 35 = .ok (.invokevirtual 61, 3) := by decide +kernel
theorem dX1_runFirstLine_38 : decode cX1_runFirstLine 38 = .ok (.istore_n 3, 1) := by decide +kernel
theorem dX1_runFirstLine_39 : decode cX1_runFirstLine 39 = .ok (.aload_n 0, 1) := by decide +kernel
theorem dX1_runFirstLine_40 : decode cX1_runFirstLine 40 = .ok (.invokevirtual 65, 3) := by decide +kernel
theorem dX1_runFirstLine_43 : decode cX1_runFirstLine 43 = .ok (.ifCond .ne 13, 3) := by decide +kernel
theorem dX1_runFirstLine_46 : decode cX1_runFirstLine 46 = .ok (.aload_n 0, 1) := by decide +kernel
theorem dX1_runFirstLine_47 : decode cX1_runFirstLine 47 = .ok (.getfield 34, 3) := by decide +kernel
theorem dX1_runFirstLine_50 : decode cX1_runFirstLine 50 = .ok (.iload_n 1, 1) := by decide +kernel
theorem dX1_runFirstLine_51 : decode cX1_runFirstLine 51 = .ok (.iload_n 2, 1) := by decide +kernel
theorem dX1_runFirstLine_52 : decode cX1_runFirstLine 52 = .ok (.iload_n 3, 1) := by decide +kernel
theorem dX1_runFirstLine_53 : decode cX1_runFirstLine 53 = .ok (.invokevirtual 68, 3) := by decide +kernel
theorem dX1_runFirstLine_56 : decode cX1_runFirstLine 56 = .ok (.return_, 1) := by decide +kernel
theorem dX1_lineFollows_0 : decode cX1_lineFollows 0 = .ok (.aload_n 0, 1) := by decide +kernel
theorem dX1_lineFollows_1 : decode cX1_lineFollows 1 = .ok (.invokevirtual 48, 3) := by decide +kernel
theorem dX1_lineFollows_4 : decode cX1_lineFollows 4 = .ok (.aload_n 0, 1) := by decide +kernel
theorem dX1_lineFollows_5 : decode cX1_lineFollows 5 = .ok (.getfield 11, 3) := by decide +kernel
theorem dX1_lineFollows_8 : decode cX1_lineFollows 8 = .ok (.iconst 3, 1) := by decide +kernel
theorem dX1_lineFollows_9 : decode cX1_lineFollows 9 = .ok (.if_icmp .eq 15, 3) := by decide +kernel
theorem dX1_lineFollows_12 : decode cX1_lineFollows 12 = .ok (.aload_n 0, 1) := by decide +kernel
theorem dX1_lineFollows_13 : decode cX1_lineFollows 13 = .ok (.getfield 11, 3) := by decide +kernel
theorem dX1_lineFollows_16 : decode cX1_lineFollows 16 = .ok (.ifCond .eq 8, 3) := by decide +kernel
theorem dX1_lineFollows_19 : decode cX1_lineFollows 19 = .ok (.aload_n 0, 1) := by decide +kernel
theorem dX1_lineFollows_20 : decode cX1_lineFollows 20 = .ok (.iconst 1, 1) := by decide +kernel
theorem dX1_lineFollows_21 : decode cX1_lineFollows 21 = .ok (.invokevirtual 57, 3) := by decide +kernel
theorem dX1_lineFollows_24 : decode cX1_lineFollows 24 = .ok (.aload_n 0, 1) := by decide +kernel
theorem dX1_lineFollows_25 : decode cX1_lineFollows 25 = .ok (.invokevirtual 65, 3) := by decide +kernel
theorem dX1_lineFollows_28 : decode cX1_lineFollows 28 = .ok (.ifCond .ne 15, 3) := by decide +kernel
theorem dX1_lineFollows_31 : decode cX1_lineFollows 31 = .ok (.aload_n 0, 1) := by decide +kernel
theorem dX1_lineFollows_32 : decode cX1_lineFollows 32 = .ok (.getfield 11, 3) := by decide +kernel
theorem dX1_lineFollows_35 : decode cX1_lineFollows 35 = .ok (.iconst 3, 1) := by decide +kernel
theorem dX1_lineFollows_36 : decode cX1_lineFollows 36 = .ok (.if_icmp .ne 7, 3) := by decide +kernel
theorem dX1_lineFollows_39 : decode cX1_lineFollows 39 = .ok (.iconst 1, 1) := by decide +kernel
theorem dX1_lineFollows_40 : decode cX1_lineFollows 40 = .ok (.goto 4, 3) := by decide +kernel
theorem dX1_lineFollows_43 : decode cX1_lineFollows 43 = .ok (.iconst 0, 1) := by decide +kernel
theorem dX1_lineFollows_44 : decode cX1_lineFollows 44 = .ok (.ireturn, 1) := by decide +kernel
theorem dX1_runLine_0 : decode cX1_runLine 0 = .ok (.aload_n 0, 1) := by decide +kernel
theorem dX1_runLine_1 : decode cX1_runLine 1 = .ok (.invokevirtual 48, 3) := by decide +kernel
theorem dX1_runLine_4 : decode cX1_runLine 4 = .ok (.aload_n 0, 1) := by decide +kernel
theorem dX1_runLine_5 : decode cX1_runLine 5 = .ok (.ldc 74, 2) := by decide +kernel
theorem dX1_runLine_7 : decode cX1_runLine 7 = .ok (.invokevirtual 53, 3) := by decide +kernel
theorem dX1_runLine_10 : decode cX1_runLine 10 = .ok (.ifCond .eq 11, 3) := by decide +kernel
theorem dX1_runLine_13 : decode cX1_runLine 13 = .ok (.aload_n 0, 1) := by decide +kernel
theorem dX1_runLine_14 : decode cX1_runLine 14 = .ok (.iconst 4, 1) := by decide +kernel
theorem dX1_runLine_15 : decode cX1_runLine 15 = .ok (.invokevirtual 78, 3) := by decide +kernel
theorem dX1_runLine_18 : decode cX1_runLine 18 = .ok (.goto 122, 3) := by decide +kernel
theorem dX1_runLine_21 : decode cX1_runLine 21 = .ok (.aload_n 0, 1) := by decide +kernel
theorem dX1_runLine_22 : decode cX1_runLine 22 = .ok (.ldc 81, 2) := by decide +kernel
theorem dX1_runLine_24 : decode cX1_runLine 24 = .ok (.invokevirtual 53, 3) := by decide +kernel
theorem dX1_runLine_27 : decode cX1_runLine 27 = .ok (.ifCond .eq 12, 3) := by decide +kernel
theorem dX1_runLine_30 : decode cX1_runLine 30 = .ok (.aload_n 0, 1) := by decide +kernel
theorem dX1_runLine_31 : decode cX1_runLine 31 = .ok (.bipush 20, 2) := by decide +kernel
theorem dX1_runLine_33 : decode cX1_runLine 33 = .ok (.invokevirtual 78, 3) := by decide +kernel
theorem dX1_runLine_36 : decode cX1_runLine 36 = .ok (.goto 104, 3) := by decide +kernel
theorem dX1_runLine_39 : decode cX1_runLine 39 = .ok (.aload_n 0, 1) := by decide +kernel
theorem dX1_runLine_40 : decode cX1_runLine 40 = .ok (.ldc 83, 2) := by decide +kernel
theorem dX1_runLine_42 : decode cX1_runLine 42 = .ok (.invokevirtual 53, 3) := by decide +kernel
theorem dX1_runLine_45 : decode cX1_runLine 45 = .ok (.ifCond .eq 10, 3) := by decide +kernel
theorem dX1_runLine_48 : decode cX1_runLine 48 = .ok (.aload_n 0, 1) := by decide +kernel
theorem dX1_runLine_49 : decode cX1_runLine 49 = .ok (.invokevirtual 85, 3) := by decide +kernel
theorem dX1_runLine_52 : decode cX1_runLine 52 = .ok (.goto 88, 3) := by decide +kernel
theorem dX1_runLine_55 : decode cX1_runLine 55 = .ok (.aload_n 0, 1) := by decide +kernel
theorem dX1_runLine_56 : decode cX1_runLine 56 = .ok (.ldc 88, 2) := by decide +kernel
theorem dX1_runLine_58 : decode cX1_runLine 58 = .ok (.invokevirtual 53, 3) := by decide +kernel
theorem dX1_runLine_61 : decode cX1_runLine 61 = .ok (.ifCond .eq 10, 3) := by decide +kernel
theorem dX1_runLine_64 : decode cX1_runLine 64 = .ok (.aload_n 0, 1) := by decide +kernel
theorem dX1_runLine_65 : decode cX1_runLine 65 = .ok (.invokevirtual 90, 3) := by decide +kernel
theorem dX1_runLine_68 : decode cX1_runLine 68 = .ok (.goto 72, 3) := by decide +kernel
theorem dX1_runLine_71 : decode cX1_runLine 71 = .ok (.aload_n 0, 1) := by decide +kernel
theorem dX1_runLine_72 : decode cX1_runLine 72 = .ok (.ldc 93, 2) := by decide +kernel
theorem dX1_runLine_74 : decode cX1_runLine 74 = .ok (.invokevirtual 53, 3) := by decide +kernel
theorem dX1_runLine_77 : decode cX1_runLine 77 = .ok (.ifCond .eq 10, 3) := by decide +kernel
theorem dX1_runLine_80 : decode cX1_runLine 80 = .ok (.aload_n 0, 1) := by decide +kernel
theorem dX1_runLine_81 : decode cX1_runLine 81 = .ok (.invokevirtual 95, 3) := by decide +kernel
theorem dX1_runLine_84 : decode cX1_runLine 84 = .ok (.goto 56, 3) := by decide +kernel
theorem dX1_runLine_87 : decode cX1_runLine 87 = .ok (.aload_n 0, 1) := by decide +kernel
theorem dX1_runLine_88 : decode cX1_runLine 88 = .ok (.ldc 98, 2) := by decide +kernel
theorem dX1_runLine_90 : decode cX1_runLine 90 = .ok (.invokevirtual 53, 3) := by decide +kernel
theorem dX1_runLine_93 : decode cX1_runLine 93 = .ok (.ifCond .eq 10, 3) := by decide +kernel
theorem dX1_runLine_96 : decode cX1_runLine 96 = .ok (.aload_n 0, 1) := by decide +kernel
theorem dX1_runLine_97 : decode cX1_runLine 97 = .ok (.invokevirtual 100, 3) := by decide +kernel
theorem dX1_runLine_100 : decode cX1_runLine 100 = .ok (.goto 40, 3) := by decide +kernel
theorem dX1_runLine_103 : decode cX1_runLine 103 = .ok (.aload_n 0, 1) := by decide +kernel
theorem dX1_runLine_104 : decode cX1_runLine 104 = .ok (.ldc 103, 2) := by decide +kernel
theorem dX1_runLine_106 : decode cX1_runLine 106 = .ok (.invokevirtual 53, 3) := by decide +kernel
theorem dX1_runLine_109 : decode cX1_runLine 109 = .ok (.ifCond .eq 10, 3) := by decide +kernel
theorem dX1_runLine_112 : decode cX1_runLine 112 = .ok (.aload_n 0, 1) := by decide +kernel
theorem dX1_runLine_113 : decode cX1_runLine 113 = .ok (.invokevirtual 105, 3) := by decide +kernel
theorem dX1_runLine_116 : decode cX1_runLine 116 = .ok (.goto 24, 3) := by decide +kernel
theorem dX1_runLine_119 : decode cX1_runLine 119 = .ok (.aload_n 0, 1) := by decide +kernel
theorem dX1_runLine_120 : decode cX1_runLine 120 = .ok (.ldc 108, 2) := by decide +kernel
theorem dX1_runLine_122 : decode cX1_runLine 122 = .ok (.invokevirtual 53, 3) := by decide +kernel
theorem dX1_runLine_125 : decode cX1_runLine 125 = .ok (.ifCond .eq 10, 3) := by decide +kernel
theorem dX1_runLine_128 : decode cX1_runLine 128 = .ok (.aload_n 0, 1) := by decide +kernel
theorem dX1_runLine_129 : decode cX1_runLine 129 = .ok (.invokevirtual 110, 3) := by decide +kernel
theorem dX1_runLine_132 : decode cX1_runLine 132 = .ok (.goto 8, 3) := by decide +kernel
theorem dX1_runLine_135 : decode cX1_runLine 135 = .ok (.aload_n 0, 1) := by decide +kernel
theorem dX1_runLine_136 : decode cX1_runLine 136 = .ok (.iconst 1, 1) := by decide +kernel
theorem dX1_runLine_137 : decode cX1_runLine 137 = .ok (.invokevirtual 57, 3) := by decide +kernel
theorem dX1_runLine_140 : decode cX1_runLine 140 = .ok (.return_, 1) := by decide +kernel
theorem dX1_runCounterLine_0 : decode cX1_runCounterLine 0 = .ok (.aload_n 0, 1) := by decide +kernel
theorem dX1_runCounterLine_1 : decode cX1_runCounterLine 1 = .ok (.iconst 0, 1) := by decide +kernel
theorem dX1_runCounterLine_2 : decode cX1_runCounterLine 2 = .ok (.aload_n 0, 1) := by decide +kernel
theorem dX1_runCounterLine_3 : decode cX1_runCounterLine 3 = .ok (.getfield 34, 3) := by decide +kernel
theorem dX1_runCounterLine_6 : decode cX1_runCounterLine 6 = .ok (.getfield 113, 3) := by decide +kernel
theorem dX1_runCounterLine_9 : decode cX1_runCounterLine 9 = .ok (.iconst 1, 1) := by decide +kernel
theorem dX1_runCounterLine_10 : decode cX1_runCounterLine 10 = .ok (.isub, 1) := by decide +kernel
theorem dX1_runCounterLine_11 : decode cX1_runCounterLine 11 = .ok (.invokevirtual 61, 3) := by decide +kernel
theorem dX1_runCounterLine_14 : decode cX1_runCounterLine 14 = .ok (.istore_n 2, 1) := by decide +kernel
theorem dX1_runCounterLine_15 : decode cX1_runCounterLine 15 = .ok (.aload_n 0, 1) := by decide +kernel
theorem dX1_runCounterLine_16 : decode cX1_runCounterLine 16 = .ok (.iconst 0, 1) := by decide +kernel
theorem dX1_runCounterLine_17 : decode cX1_runCounterLine 17 = .ok (.aload_n 0, 1) := by decide +kernel
theorem dX1_runCounterLine_18 : decode cX1_runCounterLine 18 = .ok (.getfield 34, 3) := by decide +kernel
theorem dX1_runCounterLine_21 : decode cX1_runCounterLine 21 = .ok (.getfield 116, 3) := by decide +kernel
theorem dX1_runCounterLine_24 : decode cX1_runCounterLine 24 = .ok (.iconst 1, 1) := by decide +kernel
theorem dX1_runCounterLine_25 : decode cX1_runCounterLine 25 = .ok (.isub, 1) := by decide +kernel
theorem dX1_runCounterLine_26 : decode cX1_runCounterLine 26 = .ok (.invokevirtual 61, 3) := by decide +kernel
theorem dX1_runCounterLine_29 : decode cX1_runCounterLine 29 = .ok (.istore_n 3, 1) := by decide +kernel
theorem dX1_runCounterLine_30 : decode cX1_runCounterLine 30 = .ok (.aload_n 0, 1) := by decide +kernel
theorem dX1_runCounterLine_31 : decode cX1_runCounterLine 31 = .ok (.iconst 1, 1) := by decide +kernel
theorem dX1_runCounterLine_32 : decode cX1_runCounterLine 32 = .ok (.bipush 99, 2) := by decide +kernel
theorem dX1_runCounterLine_34 : decode cX1_runCounterLine 34 = .ok (.invokevirtual 61, 3) := by decide +kernel
theorem dX1_runCounterLine_37 : decode cX1_runCounterLine 37 = .ok (.istore 4, 2) := by decide +kernel
theorem dX1_runCounterLine_39 : decode cX1_runCounterLine 39 = .ok (.aload_n 0, 1) := by decide +kernel
theorem dX1_runCounterLine_40 : decode cX1_runCounterLine 40 = .ok (.invokevirtual 65, 3) := by decide +kernel
theorem dX1_runCounterLine_43 : decode cX1_runCounterLine 43 = .ok (.ifCond .ne 20, 3) := by decide +kernel
theorem dX1_runCounterLine_46 : decode cX1_runCounterLine 46 = .ok (.aload_n 0, 1) := by decide +kernel
theorem dX1_runCounterLine_47 : decode cX1_runCounterLine 47 = .ok (.getfield 34, 3) := by decide +kernel
theorem dX1_runCounterLine_50 : decode cX1_runCounterLine 50 = .ok (.getfield 119, 3) := by decide +kernel
theorem dX1_runCounterLine_53 : decode cX1_runCounterLine 53 = .ok (.iload_n 2, 1) := by decide +kernel
theorem dX1_runCounterLine_54 : decode cX1_runCounterLine 54 = .ok (.aaload, 1) := by decide +kernel
theorem dX1_runCounterLine_55 : decode cX1_runCounterLine 55 = .ok (.iload_n 1, 1) := by decide +kernel
theorem dX1_runCounterLine_56 : decode cX1_runCounterLine 56 = .ok (.iload_n 3, 1) := by decide +kernel
theorem dX1_runCounterLine_57 : decode cX1_runCounterLine 57 = .ok (.iload_n 2, 1) := by decide +kernel
theorem dX1_runCounterLine_58 : decode cX1_runCounterLine 58 = .ok (.iload 4, 2) := by decide +kernel
theorem dX1_runCounterLine_60 : decode cX1_runCounterLine 60 = .ok (.invokevirtual 122, 3) := by decide +kernel
theorem dX1_runCounterLine_63 : decode cX1_runCounterLine 63 = .ok (.return_, 1) := by decide +kernel
theorem dX1_runAdd_0 : decode cX1_runAdd 0 = .ok (.aload_n 0, 1) := by decide +kernel
theorem dX1_runAdd_1 : decode cX1_runAdd 1 = .ok (.iconst 0, 1) := by decide +kernel
theorem dX1_runAdd_2 : decode cX1_runAdd 2 = .ok (.aload_n 0, 1) := by decide +kernel
theorem dX1_runAdd_3 : decode cX1_runAdd 3 = .ok (.getfield 34, 3) := by decide +kernel
theorem dX1_runAdd_6 : decode cX1_runAdd 6 = .ok (.getfield 113, 3) := by decide +kernel
theorem dX1_runAdd_9 : decode cX1_runAdd 9 = .ok (.iconst 1, 1) := by decide +kernel
theorem dX1_runAdd_10 : decode cX1_runAdd 10 = .ok (.isub, 1) := by decide +kernel
theorem dX1_runAdd_11 : decode cX1_runAdd 11 = .ok (.invokevirtual 61, 3) := by decide +kernel
theorem dX1_runAdd_14 : decode cX1_runAdd 14 = .ok (.istore_n 1, 1) := by decide +kernel
theorem dX1_runAdd_15 : decode cX1_runAdd 15 = .ok (.aload_n 0, 1) := by decide +kernel
theorem dX1_runAdd_16 : decode cX1_runAdd 16 = .ok (.invokevirtual 126, 3) := by decide +kernel
theorem dX1_runAdd_19 : decode cX1_runAdd 19 = .ok (.istore_n 2, 1) := by decide +kernel
theorem dX1_runAdd_20 : decode cX1_runAdd 20 = .ok (.aload_n 0, 1) := by decide +kernel
theorem dX1_runAdd_21 : decode cX1_runAdd 21 = .ok (.invokevirtual 65, 3) := by decide +kernel
theorem dX1_runAdd_24 : decode cX1_runAdd 24 = .ok (.ifCond .ne 17, 3) := by decide +kernel
theorem dX1_runAdd_27 : decode cX1_runAdd 27 = .ok (.aload_n 0, 1) := by decide +kernel
theorem dX1_runAdd_28 : decode cX1_runAdd 28 = .ok (.getfield 34, 3) := by decide +kernel
theorem dX1_runAdd_31 : decode cX1_runAdd 31 = .ok (.getfield 119, 3) := by decide +kernel
theorem dX1_runAdd_34 : decode cX1_runAdd 34 = .ok (.iload_n 1, 1) := by decide +kernel
theorem dX1_runAdd_35 : decode cX1_runAdd 35 = .ok (.aaload, 1) := by decide +kernel
theorem dX1_runAdd_36 : decode cX1_runAdd 36 = .ok (.iload_n 1, 1) := by decide +kernel
theorem dX1_runAdd_37 : decode cX1_runAdd 37 = .ok (.iload_n 2, 1) := by decide +kernel
theorem dX1_runAdd_38 : decode cX1_runAdd 38 = .ok (.invokevirtual 130, 3) := by decide +kernel
theorem dX1_runAdd_41 : decode cX1_runAdd 41 = .ok (.return_, 1) := by decide +kernel
theorem dX1_runRemove_0 : decode cX1_runRemove 0 = .ok (.aload_n 0, 1) := by decide +kernel
theorem dX1_runRemove_1 : decode cX1_runRemove 1 = .ok (.iconst 0, 1) := by decide +kernel
theorem dX1_runRemove_2 : decode cX1_runRemove 2 = .ok (.aload_n 0, 1) := by decide +kernel
theorem dX1_runRemove_3 : decode cX1_runRemove 3 = .ok (.getfield 34, 3) := by decide +kernel
theorem dX1_runRemove_6 : decode cX1_runRemove 6 = .ok (.getfield 113, 3) := by decide +kernel
theorem dX1_runRemove_9 : decode cX1_runRemove 9 = .ok (.iconst 1, 1) := by decide +kernel
theorem dX1_runRemove_10 : decode cX1_runRemove 10 = .ok (.isub, 1) := by decide +kernel
theorem dX1_runRemove_11 : decode cX1_runRemove 11 = .ok (.invokevirtual 61, 3) := by decide +kernel
theorem dX1_runRemove_14 : decode cX1_runRemove 14 = .ok (.istore_n 1, 1) := by decide +kernel
theorem dX1_runRemove_15 : decode cX1_runRemove 15 = .ok (.aload_n 0, 1) := by decide +kernel
theorem dX1_runRemove_16 : decode cX1_runRemove 16 = .ok (.invokevirtual 126, 3) := by decide +kernel
theorem dX1_runRemove_19 : decode cX1_runRemove 19 = .ok (.istore_n 2, 1) := by decide +kernel
theorem dX1_runRemove_20 : decode cX1_runRemove 20 = .ok (.aload_n 0, 1) := by decide +kernel
theorem dX1_runRemove_21 : decode cX1_runRemove 21 = .ok (.invokevirtual 65, 3) := by decide +kernel
theorem dX1_runRemove_24 : decode cX1_runRemove 24 = .ok (.ifCond .eq 4, 3) := by decide +kernel
theorem dX1_runRemove_27 : decode cX1_runRemove 27 = .ok (.return_, 1) := by decide +kernel
theorem dX1_runRemove_28 : decode cX1_runRemove 28 = .ok (.aload_n 0, 1) := by decide +kernel
theorem dX1_runRemove_29 : decode cX1_runRemove 29 = .ok (.getfield 34, 3) := by decide +kernel
theorem dX1_runRemove_32 : decode cX1_runRemove 32 = .ok (.getfield 119, 3) := by decide +kernel
theorem dX1_runRemove_35 : decode cX1_runRemove 35 = .ok (.iload_n 1, 1) := by decide +kernel
theorem dX1_runRemove_36 : decode cX1_runRemove 36 = .ok (.aaload, 1) := by decide +kernel
theorem dX1_runRemove_37 : decode cX1_runRemove 37 = .ok (.astore_n 3, 1) := by decide +kernel
theorem dX1_runRemove_38 : decode cX1_runRemove 38 = .ok (.aload_n 3, 1) := by decide +kernel
theorem dX1_runRemove_39 : decode cX1_runRemove 39 = .ok (.iload_n 2, 1) := by decide +kernel
theorem dX1_runRemove_40 : decode cX1_runRemove 40 = .ok (.invokevirtual 134, 3) := by decide +kernel
theorem dX1_runRemove_43 : decode cX1_runRemove 43 = .ok (.ifCond .ne 8, 3) := by decide +kernel
theorem dX1_runRemove_46 : decode cX1_runRemove 46 = .ok (.aload_n 0, 1) := by decide +kernel
theorem dX1_runRemove_47 : decode cX1_runRemove 47 = .ok (.iconst 3, 1) := by decide +kernel
theorem dX1_runRemove_48 : decode cX1_runRemove 48 = .ok (.invokevirtual 57, 3) := by decide +kernel
theorem dX1_runRemove_51 : decode cX1_runRemove 51 = .ok (.aload_n 3, 1) := by decide +kernel
theorem dX1_runRemove_52 : decode cX1_runRemove 52 = .ok (.iload_n 2, 1) := by decide +kernel
theorem dX1_runRemove_53 : decode cX1_runRemove 53 = .ok (.invokevirtual 138, 3) := by decide +kernel
theorem dX1_runRemove_56 : decode cX1_runRemove 56 = .ok (.return_, 1) := by decide +kernel
theorem dX1_runWrite_0 : decode cX1_runWrite 0 = .ok (.aload_n 0, 1) := by decide +kernel
theorem dX1_runWrite_1 : decode cX1_runWrite 1 = .ok (.iconst 0, 1) := by decide +kernel
theorem dX1_runWrite_2 : decode cX1_runWrite 2 = .ok (.aload_n 0, 1) := by decide +kernel
theorem dX1_runWrite_3 : decode cX1_runWrite 3 = .ok (.getfield 34, 3) := by decide +kernel
theorem dX1_runWrite_6 : decode cX1_runWrite 6 = .ok (.getfield 113, 3) := by decide +kernel
theorem dX1_runWrite_9 : decode cX1_runWrite 9 = .ok (.iconst 1, 1) := by decide +kernel
theorem dX1_runWrite_10 : decode cX1_runWrite 10 = .ok (.isub, 1) := by decide +kernel
theorem dX1_runWrite_11 : decode cX1_runWrite 11 = .ok (.invokevirtual 61, 3) := by decide +kernel
theorem dX1_runWrite_14 : decode cX1_runWrite 14 = .ok (.istore_n 1, 1) := by decide +kernel
theorem dX1_runWrite_15 : decode cX1_runWrite 15 = .ok (.aload_n 0, 1) := by decide +kernel
theorem dX1_runWrite_16 : decode cX1_runWrite 16 = .ok (.iconst 0, 1) := by decide +kernel
theorem dX1_runWrite_17 : decode cX1_runWrite 17 = .ok (.aload_n 0, 1) := by decide +kernel
theorem dX1_runWrite_18 : decode cX1_runWrite 18 = .ok (.getfield 34, 3) := by decide +kernel
theorem dX1_runWrite_21 : decode cX1_runWrite 21 = .ok (.getfield 141, 3) := by decide +kernel
theorem dX1_runWrite_24 : decode cX1_runWrite 24 = .ok (.iconst 1, 1) := by decide +kernel
theorem dX1_runWrite_25 : decode cX1_runWrite 25 = .ok (.isub, 1) := by decide +kernel
theorem dX1_runWrite_26 : decode cX1_runWrite 26 = .ok (.invokevirtual 61, 3) := by decide +kernel
theorem dX1_runWrite_29 : decode cX1_runWrite 29 = .ok (.istore_n 2, 1) := by decide +kernel
theorem dX1_runWrite_30 : decode cX1_runWrite 30 = .ok (.aload_n 0, 1) := by decide +kernel
theorem dX1_runWrite_31 : decode cX1_runWrite 31 = .ok (.iconst 0, 1) := by decide +kernel
theorem dX1_runWrite_32 : decode cX1_runWrite 32 = .ok (.bipush 99, 2) := by decide +kernel
theorem dX1_runWrite_34 : decode cX1_runWrite 34 = .ok (.invokevirtual 61, 3) := by decide +kernel
theorem dX1_runWrite_37 : decode cX1_runWrite 37 = .ok (.istore_n 3, 1) := by decide +kernel
theorem dX1_runWrite_38 : decode cX1_runWrite 38 = .ok (.aload_n 0, 1) := by decide +kernel
theorem dX1_runWrite_39 : decode cX1_runWrite 39 = .ok (.invokevirtual 65, 3) := by decide +kernel
theorem dX1_runWrite_42 : decode cX1_runWrite 42 = .ok (.ifCond .ne 18, 3) := by decide +kernel
theorem dX1_runWrite_45 : decode cX1_runWrite 45 = .ok (.aload_n 0, 1) := by decide +kernel
theorem dX1_runWrite_46 : decode cX1_runWrite 46 = .ok (.getfield 34, 3) := by decide +kernel
theorem dX1_runWrite_49 : decode cX1_runWrite 49 = .ok (.getfield 119, 3) := by decide +kernel
theorem dX1_runWrite_52 : decode cX1_runWrite 52 = .ok (.iload_n 1, 1) := by decide +kernel
theorem dX1_runWrite_53 : decode cX1_runWrite 53 = .ok (.aaload, 1) := by decide +kernel
theorem dX1_runWrite_54 : decode cX1_runWrite 54 = .ok (.iload_n 1, 1) := by decide +kernel
theorem dX1_runWrite_55 : decode cX1_runWrite 55 = .ok (.iload_n 2, 1) := by decide +kernel
theorem dX1_runWrite_56 : decode cX1_runWrite 56 = .ok (.iload_n 3, 1) := by decide +kernel
theorem dX1_runWrite_57 : decode cX1_runWrite 57 = .ok (.invokevirtual 144, 3) := by decide +kernel
theorem dX1_runWrite_60 : decode cX1_runWrite 60 = .ok (.return_, 1) := by decide +kernel
theorem dX1_runMerge_0 : decode cX1_runMerge 0 = .ok (.aload_n 0, 1) := by decide +kernel
theorem dX1_runMerge_1 : decode cX1_runMerge 1 = .ok (.iconst 0, 1) := by decide +kernel
theorem dX1_runMerge_2 : decode cX1_runMerge 2 = .ok (.aload_n 0, 1) := by decide +kernel
theorem dX1_runMerge_3 : decode cX1_runMerge 3 = .ok (.getfield 34, 3) := by decide +kernel
theorem dX1_runMerge_6 : decode cX1_runMerge 6 = .ok (.getfield 113, 3) := by decide +kernel
theorem dX1_runMerge_9 : decode cX1_runMerge 9 = .ok (.iconst 1, 1) := by decide +kernel
theorem dX1_runMerge_10 : decode cX1_runMerge 10 = .ok (.isub, 1) := by decide +kernel
theorem dX1_runMerge_11 : decode cX1_runMerge 11 = .ok (.invokevirtual 61, 3) := by decide +kernel
theorem dX1_runMerge_14 : decode cX1_runMerge 14 = .ok (.istore_n 1, 1) := by decide +kernel
theorem dX1_runMerge_15 : decode cX1_runMerge 15 = .ok (.aload_n 0, 1) := by decide +kernel
theorem dX1_runMerge_16 : decode cX1_runMerge 16 = .ok (.iconst 0, 1) := by decide +kernel
theorem dX1_runMerge_17 : decode cX1_runMerge 17 = .ok (.aload_n 0, 1) := by decide +kernel
theorem dX1_runMerge_18 : decode cX1_runMerge 18 = .ok (.getfield 34, 3) := by decide +kernel
theorem dX1_runMerge_21 : decode cX1_runMerge 21 = .ok (.getfield 113, 3) := by decide +kernel
theorem dX1_runMerge_24 : decode cX1_runMerge 24 = .ok (.iconst 1, 1) := by decide +kernel
theorem dX1_runMerge_25 : decode cX1_runMerge 25 = .ok (.isub, 1) := by decide +kernel
theorem dX1_runMerge_26 : decode cX1_runMerge 26 = .ok (.invokevirtual 61, 3) := by decide +kernel
theorem dX1_runMerge_29 : decode cX1_runMerge 29 = .ok (.istore_n 2, 1) := by decide +kernel
theorem dX1_runMerge_30 : decode cX1_runMerge 30 = .ok (.aload_n 0, 1) := by decide +kernel
theorem dX1_runMerge_31 : decode cX1_runMerge 31 = .ok (.invokevirtual 65, 3) := by decide +kernel
theorem dX1_runMerge_34 : decode cX1_runMerge 34 = .ok (.ifCond .ne 24, 3) := by decide +kernel
theorem dX1_runMerge_37 : decode cX1_runMerge 37 = .ok (.aload_n 0, 1) := by decide +kernel
theorem dX1_runMerge_38 : decode cX1_runMerge 38 = .ok (.getfield 34, 3) := by decide +kernel
theorem dX1_runMerge_41 : decode cX1_runMerge 41 = .ok (.getfield 119, 3) := by decide +kernel
theorem dX1_runMerge_44 : decode cX1_runMerge 44 = .ok (.iload_n 1, 1) := by decide +kernel
theorem dX1_runMerge_45 : decode cX1_runMerge 45 = .ok (.aaload, 1) := by decide +kernel
theorem dX1_runMerge_46 : decode cX1_runMerge 46 = .ok (.aload_n 0, 1) := by decide +kernel
theorem dX1_runMerge_47 : decode cX1_runMerge 47 = .ok (.getfield 34, 3) := by decide +kernel
theorem dX1_runMerge_50 : decode cX1_runMerge 50 = .ok (.getfield 119, 3) := by decide +kernel
theorem dX1_runMerge_53 : decode cX1_runMerge 53 = .ok (.iload_n 2, 1) := by decide +kernel
theorem dX1_runMerge_54 : decode cX1_runMerge 54 = .ok (.aaload, 1) := by decide +kernel
theorem dX1_runMerge_55 : decode cX1_runMerge 55 = .ok (.invokevirtual 147, 3) := by decide +kernel
theorem dX1_runMerge_58 : decode cX1_runMerge 58 = .ok (.return_, 1) := by decide +kernel
theorem dX1_runSend_0 : decode cX1_runSend 0 = .ok (.aload_n 0, 1) := by decide +kernel
theorem dX1_runSend_1 : decode cX1_runSend 1 = .ok (.getfield 34, 3) := by decide +kernel
theorem dX1_runSend_4 : decode cX1_runSend 4 = .ok (.getfield 151, 3) := by decide +kernel
theorem dX1_runSend_7 : decode cX1_runSend 7 = .ok (.bipush 6, 2) := by decide +kernel
theorem dX1_runSend_9 : decode cX1_runSend 9 = .ok (.if_icmp .lt 8, 3) := by decide +kernel
theorem dX1_runSend_12 : decode cX1_runSend 12 = .ok (.aload_n 0, 1) := by decide +kernel
theorem dX1_runSend_13 : decode cX1_runSend 13 = .ok (.iconst 4, 1) := by decide +kernel
theorem dX1_runSend_14 : decode cX1_runSend 14 = .ok (.invokevirtual 57, 3) := by decide +kernel
theorem dX1_runSend_17 : decode cX1_runSend 17 = .ok (.aload_n 0, 1) := by decide +kernel
theorem dX1_runSend_18 : decode cX1_runSend 18 = .ok (.iconst 0, 1) := by decide +kernel
theorem dX1_runSend_19 : decode cX1_runSend 19 = .ok (.aload_n 0, 1) := by decide +kernel
theorem dX1_runSend_20 : decode cX1_runSend 20 = .ok (.getfield 34, 3) := by decide +kernel
theorem dX1_runSend_23 : decode cX1_runSend 23 = .ok (.getfield 113, 3) := by decide +kernel
theorem dX1_runSend_26 : decode cX1_runSend 26 = .ok (.iconst 1, 1) := by decide +kernel
theorem dX1_runSend_27 : decode cX1_runSend 27 = .ok (.isub, 1) := by decide +kernel
theorem dX1_runSend_28 : decode cX1_runSend 28 = .ok (.invokevirtual 61, 3) := by decide +kernel
theorem dX1_runSend_31 : decode cX1_runSend 31 = .ok (.istore_n 1, 1) := by decide +kernel
theorem dX1_runSend_32 : decode cX1_runSend 32 = .ok (.aload_n 0, 1) := by decide +kernel
theorem dX1_runSend_33 : decode cX1_runSend 33 = .ok (.invokevirtual 65, 3) := by decide +kernel
theorem dX1_runSend_36 : decode cX1_runSend 36 = .ok (.ifCond .ne 11, 3) := by decide +kernel
theorem dX1_runSend_39 : decode cX1_runSend 39 = .ok (.aload_n 0, 1) := by decide +kernel
theorem dX1_runSend_40 : decode cX1_runSend 40 = .ok (.getfield 34, 3) := by decide +kernel
theorem dX1_runSend_43 : decode cX1_runSend 43 = .ok (.iload_n 1, 1) := by decide +kernel
theorem dX1_runSend_44 : decode cX1_runSend 44 = .ok (.invokevirtual 154, 3) := by decide +kernel
theorem dX1_runSend_47 : decode cX1_runSend 47 = .ok (.return_, 1) := by decide +kernel
theorem dX1_runDeliver_0 : decode cX1_runDeliver 0 = .ok (.aload_n 0, 1) := by decide +kernel
theorem dX1_runDeliver_1 : decode cX1_runDeliver 1 = .ok (.iconst 0, 1) := by decide +kernel
theorem dX1_runDeliver_2 : decode cX1_runDeliver 2 = .ok (.aload_n 0, 1) := by decide +kernel
theorem dX1_runDeliver_3 : decode cX1_runDeliver 3 = .ok (.getfield 34, 3) := by decide +kernel
theorem dX1_runDeliver_6 : decode cX1_runDeliver 6 = .ok (.getfield 151, 3) := by decide +kernel
theorem dX1_runDeliver_9 : decode cX1_runDeliver 9 = .ok (.iconst 1, 1) := by decide +kernel
theorem dX1_runDeliver_10 : decode cX1_runDeliver 10 = .ok (.isub, 1) := by decide +kernel
theorem dX1_runDeliver_11 : decode cX1_runDeliver 11 = .ok (.invokevirtual 61, 3) := by decide +kernel
theorem dX1_runDeliver_14 : decode cX1_runDeliver 14 = .ok (.istore_n 1, 1) := by decide +kernel
theorem dX1_runDeliver_15 : decode cX1_runDeliver 15 = .ok (.aload_n 0, 1) := by decide +kernel
theorem dX1_runDeliver_16 : decode cX1_runDeliver 16 = .ok (.iconst 0, 1) := by decide +kernel
theorem dX1_runDeliver_17 : decode cX1_runDeliver 17 = .ok (.aload_n 0, 1) := by decide +kernel
theorem dX1_runDeliver_18 : decode cX1_runDeliver 18 = .ok (.getfield 34, 3) := by decide +kernel
theorem dX1_runDeliver_21 : decode cX1_runDeliver 21 = .ok (.getfield 113, 3) := by decide +kernel
theorem dX1_runDeliver_24 : decode cX1_runDeliver 24 = .ok (.iconst 1, 1) := by decide +kernel
theorem dX1_runDeliver_25 : decode cX1_runDeliver 25 = .ok (.isub, 1) := by decide +kernel
theorem dX1_runDeliver_26 : decode cX1_runDeliver 26 = .ok (.invokevirtual 61, 3) := by decide +kernel
theorem dX1_runDeliver_29 : decode cX1_runDeliver 29 = .ok (.istore_n 2, 1) := by decide +kernel
theorem dX1_runDeliver_30 : decode cX1_runDeliver 30 = .ok (.aload_n 0, 1) := by decide +kernel
theorem dX1_runDeliver_31 : decode cX1_runDeliver 31 = .ok (.invokevirtual 65, 3) := by decide +kernel
theorem dX1_runDeliver_34 : decode cX1_runDeliver 34 = .ok (.ifCond .ne 24, 3) := by decide +kernel
theorem dX1_runDeliver_37 : decode cX1_runDeliver 37 = .ok (.aload_n 0, 1) := by decide +kernel
theorem dX1_runDeliver_38 : decode cX1_runDeliver 38 = .ok (.getfield 34, 3) := by decide +kernel
theorem dX1_runDeliver_41 : decode cX1_runDeliver 41 = .ok (.getfield 119, 3) := by decide +kernel
theorem dX1_runDeliver_44 : decode cX1_runDeliver 44 = .ok (.iload_n 2, 1) := by decide +kernel
theorem dX1_runDeliver_45 : decode cX1_runDeliver 45 = .ok (.aaload, 1) := by decide +kernel
theorem dX1_runDeliver_46 : decode cX1_runDeliver 46 = .ok (.aload_n 0, 1) := by decide +kernel
theorem dX1_runDeliver_47 : decode cX1_runDeliver 47 = .ok (.getfield 34, 3) := by decide +kernel
theorem dX1_runDeliver_50 : decode cX1_runDeliver 50 = .ok (.getfield 157, 3) := by decide +kernel
theorem dX1_runDeliver_53 : decode cX1_runDeliver 53 = .ok (.iload_n 1, 1) := by decide +kernel
theorem dX1_runDeliver_54 : decode cX1_runDeliver 54 = .ok (.aaload, 1) := by decide +kernel
theorem dX1_runDeliver_55 : decode cX1_runDeliver 55 = .ok (.invokevirtual 147, 3) := by decide +kernel
theorem dX1_runDeliver_58 : decode cX1_runDeliver 58 = .ok (.return_, 1) := by decide +kernel
theorem dX1_number_0 : decode cX1_number 0 = .ok (.aload_n 0, 1) := by decide +kernel
theorem dX1_number_1 : decode cX1_number 1 = .ok (.invokevirtual 48, 3) := by decide +kernel
theorem dX1_number_4 : decode cX1_number 4 = .ok (.aload_n 0, 1) := by decide +kernel
theorem dX1_number_5 : decode cX1_number 5 = .ok (.getfield 11, 3) := by decide +kernel
theorem dX1_number_8 : decode cX1_number 8 = .ok (.iconst 2, 1) := by decide +kernel
theorem dX1_number_9 : decode cX1_number 9 = .ok (.if_icmp .eq 10, 3) := by decide +kernel
theorem dX1_number_12 : decode cX1_number 12 = .ok (.aload_n 0, 1) := by decide +kernel
theorem dX1_number_13 : decode cX1_number 13 = .ok (.iconst 1, 1) := by decide +kernel
theorem dX1_number_14 : decode cX1_number 14 = .ok (.invokevirtual 57, 3) := by decide +kernel
theorem dX1_number_17 : decode cX1_number 17 = .ok (.iload_n 1, 1) := by decide +kernel
theorem dX1_number_18 : decode cX1_number 18 = .ok (.ireturn, 1) := by decide +kernel
theorem dX1_number_19 : decode cX1_number 19 = .ok (.iconst 0, 1) := by decide +kernel
theorem dX1_number_20 : decode cX1_number 20 = .ok (.istore_n 3, 1) := by decide +kernel
theorem dX1_number_21 : decode cX1_number 21 = .ok (.aload_n 0, 1) := by decide +kernel
theorem dX1_number_22 : decode cX1_number 22 = .ok (.getfield 15, 3) := by decide +kernel
theorem dX1_number_25 : decode cX1_number 25 = .ok (.istore 4, 2) := by decide +kernel
theorem dX1_number_27 : decode cX1_number 27 = .ok (.iload 4, 2) := by decide +kernel
theorem dX1_number_29 : decode cX1_number 29 = .ok (.aload_n 0, 1) := by decide +kernel
theorem dX1_number_30 : decode cX1_number 30 = .ok (.getfield 18, 3) := by decide +kernel
theorem dX1_number_33 : decode cX1_number 33 = .ok (.if_icmp .ge 25, 3) := by decide +kernel
theorem dX1_number_36 : decode cX1_number 36 = .ok (.iload_n 3, 1) := by decide +kernel
theorem dX1_number_37 : decode cX1_number 37 = .ok (.bipush 10, 2) := by decide +kernel
theorem dX1_number_39 : decode cX1_number 39 = .ok (.imul, 1) := by decide +kernel
theorem dX1_number_40 : decode cX1_number 40 = .ok (.aload_n 0, 1) := by decide +kernel
theorem dX1_number_41 : decode cX1_number 41 = .ok (.getfield 27, 3) := by decide +kernel
theorem dX1_number_44 : decode cX1_number 44 = .ok (.iload 4, 2) := by decide +kernel
theorem dX1_number_46 : decode cX1_number 46 = .ok (.caload, 1) := by decide +kernel
theorem dX1_number_47 : decode cX1_number 47 = .ok (.iadd, 1) := by decide +kernel
theorem dX1_number_48 : decode cX1_number 48 = .ok (.bipush 48, 2) := by decide +kernel
theorem dX1_number_50 : decode cX1_number 50 = .ok (.isub, 1) := by decide +kernel
theorem dX1_number_51 : decode cX1_number 51 = .ok (.istore_n 3, 1) := by decide +kernel
theorem dX1_number_52 : decode cX1_number 52 = .ok (.iinc 4 1, 3) := by decide +kernel
theorem dX1_number_55 : decode cX1_number 55 = .ok (.goto (-28), 3) := by decide +kernel
theorem dX1_number_58 : decode cX1_number 58 = .ok (.iload_n 3, 1) := by decide +kernel
theorem dX1_number_59 : decode cX1_number 59 = .ok (.iload_n 1, 1) := by decide +kernel
theorem dX1_number_60 : decode cX1_number 60 = .ok (.if_icmp .lt 8, 3) := by decide +kernel
theorem dX1_number_63 : decode cX1_number 63 = .ok (.iload_n 3, 1) := by decide +kernel
theorem dX1_number_64 : decode cX1_number 64 = .ok (.iload_n 2, 1) := by decide +kernel
theorem dX1_number_65 : decode cX1_number 65 = .ok (.if_icmp .le 8, 3) := by decide +kernel
theorem dX1_number_68 : decode cX1_number 68 = .ok (.aload_n 0, 1) := by decide +kernel
theorem dX1_number_69 : decode cX1_number 69 = .ok (.iconst 2, 1) := by decide +kernel
theorem dX1_number_70 : decode cX1_number 70 = .ok (.invokevirtual 57, 3) := by decide +kernel
theorem dX1_number_73 : decode cX1_number 73 = .ok (.iload_n 3, 1) := by decide +kernel
theorem dX1_number_74 : decode cX1_number 74 = .ok (.ireturn, 1) := by decide +kernel
theorem dX1_tag_0 : decode cX1_tag 0 = .ok (.aload_n 0, 1) := by decide +kernel
theorem dX1_tag_1 : decode cX1_tag 1 = .ok (.invokevirtual 48, 3) := by decide +kernel
theorem dX1_tag_4 : decode cX1_tag 4 = .ok (.aload_n 0, 1) := by decide +kernel
theorem dX1_tag_5 : decode cX1_tag 5 = .ok (.getfield 11, 3) := by decide +kernel
theorem dX1_tag_8 : decode cX1_tag 8 = .ok (.iconst 1, 1) := by decide +kernel
theorem dX1_tag_9 : decode cX1_tag 9 = .ok (.if_icmp .ne 30, 3) := by decide +kernel
theorem dX1_tag_12 : decode cX1_tag 12 = .ok (.aload_n 0, 1) := by decide +kernel
theorem dX1_tag_13 : decode cX1_tag 13 = .ok (.getfield 18, 3) := by decide +kernel
theorem dX1_tag_16 : decode cX1_tag 16 = .ok (.aload_n 0, 1) := by decide +kernel
theorem dX1_tag_17 : decode cX1_tag 17 = .ok (.getfield 15, 3) := by decide +kernel
theorem dX1_tag_20 : decode cX1_tag 20 = .ok (.isub, 1) := by decide +kernel
theorem dX1_tag_21 : decode cX1_tag 21 = .ok (.iconst 1, 1) := by decide +kernel
theorem dX1_tag_22 : decode cX1_tag 22 = .ok (.if_icmp .ne 17, 3) := by decide +kernel
theorem dX1_tag_25 : decode cX1_tag 25 = .ok (.aload_n 0, 1) := by decide +kernel
theorem dX1_tag_26 : decode cX1_tag 26 = .ok (.getfield 27, 3) := by decide +kernel
theorem dX1_tag_29 : decode cX1_tag 29 = .ok (.aload_n 0, 1) := by decide +kernel
theorem dX1_tag_30 : decode cX1_tag 30 = .ok (.getfield 15, 3) := by decide +kernel
theorem dX1_tag_33 : decode cX1_tag 33 = .ok (.caload, 1) := by decide +kernel
theorem dX1_tag_34 : decode cX1_tag 34 = .ok (.bipush 113, 2) := by decide +kernel
theorem dX1_tag_36 : decode cX1_tag 36 = .ok (.if_icmp .lt 10, 3) := by decide +kernel
theorem dX1_tag_39 : decode cX1_tag 39 = .ok (.aload_n 0, 1) := by decide +kernel
theorem dX1_tag_40 : decode cX1_tag 40 = .ok (.iconst 1, 1) := by decide +kernel
theorem dX1_tag_41 : decode cX1_tag 41 = .ok (.invokevirtual 57, 3) := by decide +kernel
theorem dX1_tag_44 : decode cX1_tag 44 = .ok (.iconst 0, 1) := by decide +kernel
theorem dX1_tag_45 : decode cX1_tag 45 = .ok (.ireturn, 1) := by decide +kernel
theorem dX1_tag_46 : decode cX1_tag 46 = .ok (.aload_n 0, 1) := by decide +kernel
theorem dX1_tag_47 : decode cX1_tag 47 = .ok (.getfield 27, 3) := by decide +kernel
theorem dX1_tag_50 : decode cX1_tag 50 = .ok (.aload_n 0, 1) := by decide +kernel
theorem dX1_tag_51 : decode cX1_tag 51 = .ok (.getfield 15, 3) := by decide +kernel
theorem dX1_tag_54 : decode cX1_tag 54 = .ok (.caload, 1) := by decide +kernel
theorem dX1_tag_55 : decode cX1_tag 55 = .ok (.bipush 97, 2) := by decide +kernel
theorem dX1_tag_57 : decode cX1_tag 57 = .ok (.isub, 1) := by decide +kernel
theorem dX1_tag_58 : decode cX1_tag 58 = .ok (.ireturn, 1) := by decide +kernel
theorem dX1_isWord_0 : decode cX1_isWord 0 = .ok (.aload_n 0, 1) := by decide +kernel
theorem dX1_isWord_1 : decode cX1_isWord 1 = .ok (.getfield 11, 3) := by decide +kernel
theorem dX1_isWord_4 : decode cX1_isWord 4 = .ok (.iconst 1, 1) := by decide +kernel
theorem dX1_isWord_5 : decode cX1_isWord 5 = .ok (.if_icmp .ne 19, 3) := by decide +kernel
theorem dX1_isWord_8 : decode cX1_isWord 8 = .ok (.aload_n 0, 1) := by decide +kernel
theorem dX1_isWord_9 : decode cX1_isWord 9 = .ok (.getfield 18, 3) := by decide +kernel
theorem dX1_isWord_12 : decode cX1_isWord 12 = .ok (.aload_n 0, 1) := by decide +kernel
theorem dX1_isWord_13 : decode cX1_isWord 13 = .ok (.getfield 15, 3) := by decide +kernel
theorem dX1_isWord_16 : decode cX1_isWord 16 = .ok (.isub, 1) := by decide +kernel
theorem dX1_isWord_17 : decode cX1_isWord 17 = .ok (.aload_n 1, 1) := by decide +kernel
theorem dX1_isWord_18 : decode cX1_isWord 18 = .ok (.invokevirtual 160, 3) := by decide +kernel
theorem dX1_isWord_21 : decode cX1_isWord 21 = .ok (.if_icmp .eq 5, 3) := by decide +kernel
theorem dX1_isWord_24 : decode cX1_isWord 24 = .ok (.iconst 0, 1) := by decide +kernel
theorem dX1_isWord_25 : decode cX1_isWord 25 = .ok (.ireturn, 1) := by decide +kernel
theorem dX1_isWord_26 : decode cX1_isWord 26 = .ok (.iconst 0, 1) := by decide +kernel
theorem dX1_isWord_27 : decode cX1_isWord 27 = .ok (.istore_n 2, 1) := by decide +kernel
theorem dX1_isWord_28 : decode cX1_isWord 28 = .ok (.iload_n 2, 1) := by decide +kernel
theorem dX1_isWord_29 : decode cX1_isWord 29 = .ok (.aload_n 1, 1) := by decide +kernel
theorem dX1_isWord_30 : decode cX1_isWord 30 = .ok (.invokevirtual 160, 3) := by decide +kernel
theorem dX1_isWord_33 : decode cX1_isWord 33 = .ok (.if_icmp .ge 30, 3) := by decide +kernel
theorem dX1_isWord_36 : decode cX1_isWord 36 = .ok (.aload_n 0, 1) := by decide +kernel
theorem dX1_isWord_37 : decode cX1_isWord 37 = .ok (.getfield 27, 3) := by decide +kernel
theorem dX1_isWord_40 : decode cX1_isWord 40 = .ok (.aload_n 0, 1) := by decide +kernel
theorem dX1_isWord_41 : decode cX1_isWord 41 = .ok (.getfield 15, 3) := by decide +kernel
theorem dX1_isWord_44 : decode cX1_isWord 44 = .ok (.iload_n 2, 1) := by decide +kernel
theorem dX1_isWord_45 : decode cX1_isWord 45 = .ok (.iadd, 1) := by decide +kernel
theorem dX1_isWord_46 : decode cX1_isWord 46 = .ok (.caload, 1) := by decide +kernel
theorem dX1_isWord_47 : decode cX1_isWord 47 = .ok (.aload_n 1, 1) := by decide +kernel
theorem dX1_isWord_48 : decode cX1_isWord 48 = .ok (.iload_n 2, 1) := by decide +kernel
theorem dX1_isWord_49 : decode cX1_isWord 49 = .ok (.invokevirtual 164, 3) := by decide +kernel
theorem dX1_isWord_52 : decode cX1_isWord 52 = .ok (.if_icmp .eq 5, 3) := by decide +kernel
theorem dX1_isWord_55 : decode cX1_isWord 55 = .ok (.iconst 0, 1) := by decide +kernel
theorem dX1_isWord_56 : decode cX1_isWord 56 = .ok (.ireturn, 1) := by decide +kernel
theorem dX1_isWord_57 : decode cX1_isWord 57 = .ok (.iinc 2 1, 3) := by decide +kernel
theorem dX1_isWord_60 : decode cX1_isWord 60 = .ok (.goto (-32), 3) := by decide +kernel
theorem dX1_isWord_63 : decode cX1_isWord 63 = .ok (.iconst 1, 1) := by decide +kernel
theorem dX1_isWord_64 : decode cX1_isWord 64 = .ok (.ireturn, 1) := by decide +kernel
theorem dX1_nextToken_0 : decode cX1_nextToken 0 = .ok (.aload_n 0, 1) := by decide +kernel
theorem dX1_nextToken_1 : decode cX1_nextToken 1 = .ok (.invokevirtual 65, 3) := by decide +kernel
theorem dX1_nextToken_4 : decode cX1_nextToken 4 = .ok (.ifCond .eq 4, 3) := by decide +kernel
theorem dX1_nextToken_7 : decode cX1_nextToken 7 = .ok (.return_, 1) := by decide +kernel
theorem dX1_nextToken_8 : decode cX1_nextToken 8 = .ok (.aload_n 0, 1) := by decide +kernel
theorem dX1_nextToken_9 : decode cX1_nextToken 9 = .ok (.getfield 11, 3) := by decide +kernel
theorem dX1_nextToken_12 : decode cX1_nextToken 12 = .ok (.iconst 1, 1) := by decide +kernel
theorem dX1_nextToken_13 : decode cX1_nextToken 13 = .ok (.if_icmp .eq 11, 3) := by decide +kernel
theorem dX1_nextToken_16 : decode cX1_nextToken 16 = .ok (.aload_n 0, 1) := by decide +kernel
theorem dX1_nextToken_17 : decode cX1_nextToken 17 = .ok (.getfield 11, 3) := by decide +kernel
theorem dX1_nextToken_20 : decode cX1_nextToken 20 = .ok (.iconst 2, 1) := by decide +kernel
theorem dX1_nextToken_21 : decode cX1_nextToken 21 = .ok (.if_icmp .ne 7, 3) := by decide +kernel
theorem dX1_nextToken_24 : decode cX1_nextToken 24 = .ok (.iconst 1, 1) := by decide +kernel
theorem dX1_nextToken_25 : decode cX1_nextToken 25 = .ok (.goto 4, 3) := by decide +kernel
theorem dX1_nextToken_28 : decode cX1_nextToken 28 = .ok (.iconst 0, 1) := by decide +kernel
theorem dX1_nextToken_29 : decode cX1_nextToken 29 = .ok (.istore_n 1, 1) := by decide +kernel
theorem dX1_nextToken_30 : decode cX1_nextToken 30 = .ok (.aload_n 0, 1) := by decide +kernel
theorem dX1_nextToken_31 : decode cX1_nextToken 31 = .ok (.getfield 18, 3) := by decide +kernel
theorem dX1_nextToken_34 : decode cX1_nextToken 34 = .ok (.istore_n 2, 1) := by decide +kernel
theorem dX1_nextToken_35 : decode cX1_nextToken 35 = .ok (.aload_n 0, 1) := by decide +kernel
theorem dX1_nextToken_36 : decode cX1_nextToken 36 = .ok (.aload_n 0, 1) := by decide +kernel
theorem dX1_nextToken_37 : decode cX1_nextToken 37 = .ok (.getfield 18, 3) := by decide +kernel
theorem dX1_nextToken_40 : decode cX1_nextToken 40 = .ok (.putfield 15, 3) := by decide +kernel
theorem dX1_nextToken_43 : decode cX1_nextToken 43 = .ok (.aload_n 0, 1) := by decide +kernel
theorem dX1_nextToken_44 : decode cX1_nextToken 44 = .ok (.getfield 15, 3) := by decide +kernel
theorem dX1_nextToken_47 : decode cX1_nextToken 47 = .ok (.aload_n 0, 1) := by decide +kernel
theorem dX1_nextToken_48 : decode cX1_nextToken 48 = .ok (.getfield 31, 3) := by decide +kernel
theorem dX1_nextToken_51 : decode cX1_nextToken 51 = .ok (.if_icmp .ge 31, 3) := by decide +kernel
theorem dX1_nextToken_54 : decode cX1_nextToken 54 = .ok (.aload_n 0, 1) := by decide +kernel
theorem dX1_nextToken_55 : decode cX1_nextToken 55 = .ok (.getfield 27, 3) := by decide +kernel
theorem dX1_nextToken_58 : decode cX1_nextToken 58 = .ok (.aload_n 0, 1) := by decide +kernel
theorem dX1_nextToken_59 : decode cX1_nextToken 59 = .ok (.getfield 15, 3) := by decide +kernel
theorem dX1_nextToken_62 : decode cX1_nextToken 62 = .ok (.caload, 1) := by decide +kernel
theorem dX1_nextToken_63 : decode cX1_nextToken 63 = .ok (.invokestatic 168, 3) := by decide +kernel
theorem dX1_nextToken_66 : decode cX1_nextToken 66 = .ok (.ifCond .eq 16, 3) := by decide +kernel
theorem dX1_nextToken_69 : decode cX1_nextToken 69 = .ok (.aload_n 0, 1) := by decide +kernel
theorem dX1_nextToken_70 : decode cX1_nextToken 70 = .ok (.dup, 1) := by decide +kernel
theorem dX1_nextToken_71 : decode cX1_nextToken 71 = .ok (.getfield 15, 3) := by decide +kernel
theorem dX1_nextToken_74 : decode cX1_nextToken 74 = .ok (.iconst 1, 1) := by decide +kernel
theorem dX1_nextToken_75 : decode cX1_nextToken 75 = .ok (.iadd, 1) := by decide +kernel
theorem dX1_nextToken_76 : decode cX1_nextToken 76 = .ok (.putfield 15, 3) := by decide +kernel
theorem dX1_nextToken_79 : decode cX1_nextToken 79 = .ok (.goto (-36), 3) := by decide +kernel
theorem dX1_nextToken_82 : decode cX1_nextToken 82 = .ok (.aload_n 0, 1) := by decide +kernel
theorem dX1_nextToken_83 : decode cX1_nextToken 83 = .ok (.aload_n 0, 1) := by decide +kernel
theorem dX1_nextToken_84 : decode cX1_nextToken 84 = .ok (.getfield 15, 3) := by decide +kernel
theorem dX1_nextToken_87 : decode cX1_nextToken 87 = .ok (.putfield 18, 3) := by decide +kernel
theorem dX1_nextToken_90 : decode cX1_nextToken 90 = .ok (.aload_n 0, 1) := by decide +kernel
theorem dX1_nextToken_91 : decode cX1_nextToken 91 = .ok (.iconst 0, 1) := by decide +kernel
theorem dX1_nextToken_92 : decode cX1_nextToken 92 = .ok (.putfield 11, 3) := by decide +kernel
theorem dX1_nextToken_95 : decode cX1_nextToken 95 = .ok (.aload_n 0, 1) := by decide +kernel
theorem dX1_nextToken_96 : decode cX1_nextToken 96 = .ok (.getfield 15, 3) := by decide +kernel
theorem dX1_nextToken_99 : decode cX1_nextToken 99 = .ok (.aload_n 0, 1) := by decide +kernel
theorem dX1_nextToken_100 : decode cX1_nextToken 100 = .ok (.getfield 31, 3) := by decide +kernel
theorem dX1_nextToken_103 : decode cX1_nextToken 103 = .ok (.if_icmp .ge 29, 3) := by decide +kernel
theorem dX1_nextToken_106 : decode cX1_nextToken 106 = .ok (.aload_n 0, 1) := by decide +kernel
theorem dX1_nextToken_107 : decode cX1_nextToken 107 = .ok (.aload_n 0, 1) := by decide +kernel
theorem dX1_nextToken_108 : decode cX1_nextToken 108 = .ok (.getfield 27, 3) := by decide +kernel
theorem dX1_nextToken_111 : decode cX1_nextToken 111 = .ok (.aload_n 0, 1) := by decide +kernel
theorem dX1_nextToken_112 : decode cX1_nextToken 112 = .ok (.getfield 15, 3) := by decide +kernel
theorem dX1_nextToken_115 : decode cX1_nextToken 115 = .ok (.caload, 1) := by decide +kernel
theorem dX1_nextToken_116 : decode cX1_nextToken 116 = .ok (.invokestatic 172, 3) := by decide +kernel
theorem dX1_nextToken_119 : decode cX1_nextToken 119 = .ok (.putfield 11, 3) := by decide +kernel
theorem dX1_nextToken_122 : decode cX1_nextToken 122 = .ok (.aload_n 0, 1) := by decide +kernel
theorem dX1_nextToken_123 : decode cX1_nextToken 123 = .ok (.dup, 1) := by decide +kernel
theorem dX1_nextToken_124 : decode cX1_nextToken 124 = .ok (.getfield 18, 3) := by decide +kernel
theorem dX1_nextToken_127 : decode cX1_nextToken 127 = .ok (.iconst 1, 1) := by decide +kernel
theorem dX1_nextToken_128 : decode cX1_nextToken 128 = .ok (.iadd, 1) := by decide +kernel
theorem dX1_nextToken_129 : decode cX1_nextToken 129 = .ok (.putfield 18, 3) := by decide +kernel
theorem dX1_nextToken_132 : decode cX1_nextToken 132 = .ok (.aload_n 0, 1) := by decide +kernel
theorem dX1_nextToken_133 : decode cX1_nextToken 133 = .ok (.getfield 11, 3) := by decide +kernel
theorem dX1_nextToken_136 : decode cX1_nextToken 136 = .ok (.iconst 1, 1) := by decide +kernel
theorem dX1_nextToken_137 : decode cX1_nextToken 137 = .ok (.if_icmp .eq 11, 3) := by decide +kernel
theorem dX1_nextToken_140 : decode cX1_nextToken 140 = .ok (.aload_n 0, 1) := by decide +kernel
theorem dX1_nextToken_141 : decode cX1_nextToken 141 = .ok (.getfield 11, 3) := by decide +kernel
theorem dX1_nextToken_144 : decode cX1_nextToken 144 = .ok (.iconst 2, 1) := by decide +kernel
theorem dX1_nextToken_145 : decode cX1_nextToken 145 = .ok (.if_icmp .ne 7, 3) := by decide +kernel
theorem dX1_nextToken_148 : decode cX1_nextToken 148 = .ok (.iconst 1, 1) := by decide +kernel
theorem dX1_nextToken_149 : decode cX1_nextToken 149 = .ok (.goto 4, 3) := by decide +kernel
theorem dX1_nextToken_152 : decode cX1_nextToken 152 = .ok (.iconst 0, 1) := by decide +kernel
theorem dX1_nextToken_153 : decode cX1_nextToken 153 = .ok (.istore_n 3, 1) := by decide +kernel
theorem dX1_nextToken_154 : decode cX1_nextToken 154 = .ok (.iload_n 3, 1) := by decide +kernel
theorem dX1_nextToken_155 : decode cX1_nextToken 155 = .ok (.ifCond .eq 46, 3) := by decide +kernel
theorem dX1_nextToken_158 : decode cX1_nextToken 158 = .ok (.aload_n 0, 1) := by decide +kernel
theorem dX1_nextToken_159 : decode cX1_nextToken 159 = .ok (.getfield 18, 3) := by decide +kernel
theorem dX1_nextToken_162 : decode cX1_nextToken 162 = .ok (.aload_n 0, 1) := by decide +kernel
theorem dX1_nextToken_163 : decode cX1_nextToken 163 = .ok (.getfield 31, 3) := by decide +kernel
theorem dX1_nextToken_166 : decode cX1_nextToken 166 = .ok (.if_icmp .ge 35, 3) := by decide +kernel
theorem dX1_nextToken_169 : decode cX1_nextToken 169 = .ok (.aload_n 0, 1) := by decide +kernel
theorem dX1_nextToken_170 : decode cX1_nextToken 170 = .ok (.getfield 27, 3) := by decide +kernel
theorem dX1_nextToken_173 : decode cX1_nextToken 173 = .ok (.aload_n 0, 1) := by decide +kernel
theorem dX1_nextToken_174 : decode cX1_nextToken 174 = .ok (.getfield 18, 3) := by decide +kernel
theorem dX1_nextToken_177 : decode cX1_nextToken 177 = .ok (.caload, 1) := by decide +kernel
theorem dX1_nextToken_178 : decode cX1_nextToken 178 = .ok (.invokestatic 172, 3) := by decide +kernel
theorem dX1_nextToken_181 : decode cX1_nextToken 181 = .ok (.aload_n 0, 1) := by decide +kernel
theorem dX1_nextToken_182 : decode cX1_nextToken 182 = .ok (.getfield 11, 3) := by decide +kernel
theorem dX1_nextToken_185 : decode cX1_nextToken 185 = .ok (.if_icmp .ne 16, 3) := by decide +kernel
theorem dX1_nextToken_188 : decode cX1_nextToken 188 = .ok (.aload_n 0, 1) := by decide +kernel
theorem dX1_nextToken_189 : decode cX1_nextToken 189 = .ok (.dup, 1) := by decide +kernel
theorem dX1_nextToken_190 : decode cX1_nextToken 190 = .ok (.getfield 18, 3) := by decide +kernel
theorem dX1_nextToken_193 : decode cX1_nextToken 193 = .ok (.iconst 1, 1) := by decide +kernel
theorem dX1_nextToken_194 : decode cX1_nextToken 194 = .ok (.iadd, 1) := by decide +kernel
theorem dX1_nextToken_195 : decode cX1_nextToken 195 = .ok (.putfield 18, 3) := by decide +kernel
theorem dX1_nextToken_198 : decode cX1_nextToken 198 = .ok (.goto (-44), 3) := by decide +kernel
theorem dX1_nextToken_201 : decode cX1_nextToken 201 = .ok (.iload_n 3, 1) := by decide +kernel
theorem dX1_nextToken_202 : decode cX1_nextToken 202 = .ok (.ifCond .eq 19, 3) := by decide +kernel
theorem dX1_nextToken_205 : decode cX1_nextToken 205 = .ok (.iload_n 1, 1) := by decide +kernel
theorem dX1_nextToken_206 : decode cX1_nextToken 206 = .ok (.ifCond .eq 15, 3) := by decide +kernel
theorem dX1_nextToken_209 : decode cX1_nextToken 209 = .ok (.aload_n 0, 1) := by decide +kernel
theorem dX1_nextToken_210 : decode cX1_nextToken 210 = .ok (.getfield 15, 3) := by decide +kernel
theorem dX1_nextToken_213 : decode cX1_nextToken 213 = .ok (.iload_n 2, 1) := by decide +kernel
theorem dX1_nextToken_214 : decode cX1_nextToken 214 = .ok (.if_icmp .ne 7, 3) := by decide +kernel
theorem dX1_nextToken_217 : decode cX1_nextToken 217 = .ok (.iconst 1, 1) := by decide +kernel
theorem dX1_nextToken_218 : decode cX1_nextToken 218 = .ok (.goto 4, 3) := by decide +kernel
theorem dX1_nextToken_221 : decode cX1_nextToken 221 = .ok (.iconst 0, 1) := by decide +kernel
theorem dX1_nextToken_222 : decode cX1_nextToken 222 = .ok (.istore 4, 2) := by decide +kernel
theorem dX1_nextToken_224 : decode cX1_nextToken 224 = .ok (.iload 4, 2) := by decide +kernel
theorem dX1_nextToken_226 : decode cX1_nextToken 226 = .ok (.ifCond .ne 24, 3) := by decide +kernel
theorem dX1_nextToken_229 : decode cX1_nextToken 229 = .ok (.aload_n 0, 1) := by decide +kernel
theorem dX1_nextToken_230 : decode cX1_nextToken 230 = .ok (.getfield 11, 3) := by decide +kernel
theorem dX1_nextToken_233 : decode cX1_nextToken 233 = .ok (.iconst 2, 1) := by decide +kernel
theorem dX1_nextToken_234 : decode cX1_nextToken 234 = .ok (.if_icmp .ne 21, 3) := by decide +kernel
theorem dX1_nextToken_237 : decode cX1_nextToken 237 = .ok (.aload_n 0, 1) := by decide +kernel
theorem dX1_nextToken_238 : decode cX1_nextToken 238 = .ok (.getfield 18, 3) := by decide +kernel
theorem dX1_nextToken_241 : decode cX1_nextToken 241 = .ok (.aload_n 0, 1) := by decide +kernel
theorem dX1_nextToken_242 : decode cX1_nextToken 242 = .ok (.getfield 15, 3) := by decide +kernel
theorem dX1_nextToken_245 : decode cX1_nextToken 245 = .ok (.isub, 1) := by decide +kernel
theorem dX1_nextToken_246 : decode cX1_nextToken 246 = .ok (.iconst 2, 1) := by decide +kernel
theorem dX1_nextToken_247 : decode cX1_nextToken 247 = .ok (.if_icmp .le 8, 3) := by decide +kernel
theorem dX1_nextToken_250 : decode cX1_nextToken 250 = .ok (.aload_n 0, 1) := by decide +kernel
theorem dX1_nextToken_251 : decode cX1_nextToken 251 = .ok (.iconst 4, 1) := by decide +kernel
theorem dX1_nextToken_252 : decode cX1_nextToken 252 = .ok (.putfield 11, 3) := by decide +kernel
theorem dX1_nextToken_255 : decode cX1_nextToken 255 = .ok (.return_, 1) := by decide +kernel
theorem dX1_isBlank_0 : decode cX1_isBlank 0 = .ok (.iload_n 0, 1) := by decide +kernel
theorem dX1_isBlank_1 : decode cX1_isBlank 1 = .ok (.bipush 32, 2) := by decide +kernel
theorem dX1_isBlank_3 : decode cX1_isBlank 3 = .ok (.if_icmp .eq 9, 3) := by decide +kernel
theorem dX1_isBlank_6 : decode cX1_isBlank 6 = .ok (.iload_n 0, 1) := by decide +kernel
theorem dX1_isBlank_7 : decode cX1_isBlank 7 = .ok (.bipush 10, 2) := by decide +kernel
theorem dX1_isBlank_9 : decode cX1_isBlank 9 = .ok (.if_icmp .ne 7, 3) := by decide +kernel
theorem dX1_isBlank_12 : decode cX1_isBlank 12 = .ok (.iconst 1, 1) := by decide +kernel
theorem dX1_isBlank_13 : decode cX1_isBlank 13 = .ok (.goto 4, 3) := by decide +kernel
theorem dX1_isBlank_16 : decode cX1_isBlank 16 = .ok (.iconst 0, 1) := by decide +kernel
theorem dX1_isBlank_17 : decode cX1_isBlank 17 = .ok (.ireturn, 1) := by decide +kernel
theorem dX1_typeOf_0 : decode cX1_typeOf 0 = .ok (.iload_n 0, 1) := by decide +kernel
theorem dX1_typeOf_1 : decode cX1_typeOf 1 = .ok (.bipush 97, 2) := by decide +kernel
theorem dX1_typeOf_3 : decode cX1_typeOf 3 = .ok (.if_icmp .lt 11, 3) := by decide +kernel
theorem dX1_typeOf_6 : decode cX1_typeOf 6 = .ok (.iload_n 0, 1) := by decide +kernel
theorem dX1_typeOf_7 : decode cX1_typeOf 7 = .ok (.bipush 122, 2) := by decide +kernel
theorem dX1_typeOf_9 : decode cX1_typeOf 9 = .ok (.if_icmp .gt 5, 3) := by decide +kernel
theorem dX1_typeOf_12 : decode cX1_typeOf 12 = .ok (.iconst 1, 1) := by decide +kernel
theorem dX1_typeOf_13 : decode cX1_typeOf 13 = .ok (.ireturn, 1) := by decide +kernel
theorem dX1_typeOf_14 : decode cX1_typeOf 14 = .ok (.iload_n 0, 1) := by decide +kernel
theorem dX1_typeOf_15 : decode cX1_typeOf 15 = .ok (.bipush 48, 2) := by decide +kernel
theorem dX1_typeOf_17 : decode cX1_typeOf 17 = .ok (.if_icmp .lt 11, 3) := by decide +kernel
theorem dX1_typeOf_20 : decode cX1_typeOf 20 = .ok (.iload_n 0, 1) := by decide +kernel
theorem dX1_typeOf_21 : decode cX1_typeOf 21 = .ok (.bipush 57, 2) := by decide +kernel
theorem dX1_typeOf_23 : decode cX1_typeOf 23 = .ok (.if_icmp .gt 5, 3) := by decide +kernel
theorem dX1_typeOf_26 : decode cX1_typeOf 26 = .ok (.iconst 2, 1) := by decide +kernel
theorem dX1_typeOf_27 : decode cX1_typeOf 27 = .ok (.ireturn, 1) := by decide +kernel
theorem dX1_typeOf_28 : decode cX1_typeOf 28 = .ok (.iload_n 0, 1) := by decide +kernel
theorem dX1_typeOf_29 : decode cX1_typeOf 29 = .ok (.bipush 59, 2) := by decide +kernel
theorem dX1_typeOf_31 : decode cX1_typeOf 31 = .ok (.if_icmp .ne 7, 3) := by decide +kernel
theorem dX1_typeOf_34 : decode cX1_typeOf 34 = .ok (.iconst 3, 1) := by decide +kernel
theorem dX1_typeOf_35 : decode cX1_typeOf 35 = .ok (.goto 4, 3) := by decide +kernel
theorem dX1_typeOf_38 : decode cX1_typeOf 38 = .ok (.iconst 4, 1) := by decide +kernel
theorem dX1_typeOf_39 : decode cX1_typeOf 39 = .ok (.ireturn, 1) := by decide +kernel
theorem dX1_failed_0 : decode cX1_failed 0 = .ok (.aload_n 0, 1) := by decide +kernel
theorem dX1_failed_1 : decode cX1_failed 1 = .ok (.getfield 21, 3) := by decide +kernel
theorem dX1_failed_4 : decode cX1_failed 4 = .ok (.ifCond .eq 7, 3) := by decide +kernel
theorem dX1_failed_7 : decode cX1_failed 7 = .ok (.iconst 1, 1) := by decide +kernel
theorem dX1_failed_8 : decode cX1_failed 8 = .ok (.goto 4, 3) := by decide +kernel
theorem dX1_failed_11 : decode cX1_failed 11 = .ok (.iconst 0, 1) := by decide +kernel
theorem dX1_failed_12 : decode cX1_failed 12 = .ok (.ireturn, 1) := by decide +kernel
theorem dX1_fail_0 : decode cX1_fail 0 = .ok (.aload_n 0, 1) := by decide +kernel
theorem dX1_fail_1 : decode cX1_fail 1 = .ok (.invokevirtual 65, 3) := by decide +kernel
theorem dX1_fail_4 : decode cX1_fail 4 = .ok (.ifCond .ne 16, 3) := by decide +kernel
theorem dX1_fail_7 : decode cX1_fail 7 = .ok (.aload_n 0, 1) := by decide +kernel
theorem dX1_fail_8 : decode cX1_fail 8 = .ok (.iload_n 1, 1) := by decide +kernel
theorem dX1_fail_9 : decode cX1_fail 9 = .ok (.putfield 21, 3) := by decide +kernel
theorem dX1_fail_12 : decode cX1_fail 12 = .ok (.aload_n 0, 1) := by decide +kernel
theorem dX1_fail_13 : decode cX1_fail 13 = .ok (.aload_n 0, 1) := by decide +kernel
theorem dX1_fail_14 : decode cX1_fail 14 = .ok (.getfield 15, 3) := by decide +kernel
theorem dX1_fail_17 : decode cX1_fail 17 = .ok (.putfield 24, 3) := by decide +kernel
theorem dX1_fail_20 : decode cX1_fail 20 = .ok (.return_, 1) := by decide +kernel
