/-! what each instruction decodes to, as printed -/
theorem dX2_init_0 : decode cX2_init 0 = .ok (.aload_n 0, 1) := by decide +kernel
theorem dX2_init_1 : decode cX2_init 1 = .ok (.invokespecial 5, 3) := by decide +kernel
theorem dX2_init_4 : decode cX2_init 4 = .ok (.aload_n 0, 1) := by decide +kernel
theorem dX2_init_5 : decode cX2_init 5 = .ok (.sipush 132, 3) := by decide +kernel
theorem dX2_init_8 : decode cX2_init 8 = .ok (.newarray .int, 2) := by decide +kernel
theorem dX2_init_10 : decode cX2_init 10 = .ok (.putfield 11, 3) := by decide +kernel
theorem dX2_init_13 : decode cX2_init 13 = .ok (.return_, 1) := by decide +kernel
theorem dX2_empty_0 : decode cX2_empty 0 = .ok (.iconst 0, 1) := by decide +kernel
theorem dX2_empty_1 : decode cX2_empty 1 = .ok (.istore_n 1, 1) := by decide +kernel
theorem dX2_empty_2 : decode cX2_empty 2 = .ok (.iload_n 1, 1) := by decide +kernel
theorem dX2_empty_3 : decode cX2_empty 3 = .ok (.sipush 132, 3) := by decide +kernel
theorem dX2_empty_6 : decode cX2_empty 6 = .ok (.if_icmp .ge 16, 3) := by decide +kernel
theorem dX2_empty_9 : decode cX2_empty 9 = .ok (.aload_n 0, 1) := by decide +kernel
theorem dX2_empty_10 : decode cX2_empty 10 = .ok (.getfield 11, 3) := by decide +kernel
theorem dX2_empty_13 : decode cX2_empty 13 = .ok (.iload_n 1, 1) := by decide +kernel
theorem dX2_empty_14 : decode cX2_empty 14 = .ok (.iconst 0, 1) := by decide +kernel
theorem dX2_empty_15 : decode cX2_empty 15 = .ok (.iastore, 1) := by decide +kernel
theorem dX2_empty_16 : decode cX2_empty 16 = .ok (.iinc 1 1, 3) := by decide +kernel
theorem dX2_empty_19 : decode cX2_empty 19 = .ok (.goto (-17), 3) := by decide +kernel
theorem dX2_empty_22 : decode cX2_empty 22 = .ok (.return_, 1) := by decide +kernel
theorem dX2_copyFrom_0 : decode cX2_copyFrom 0 = .ok (.aload_n 1, 1) := by decide +kernel
theorem dX2_copyFrom_1 : decode cX2_copyFrom 1 = .ok (.getfield 11, 3) := by decide +kernel
theorem dX2_copyFrom_4 : decode cX2_copyFrom 4 = .ok (.iconst 0, 1) := by decide +kernel
theorem dX2_copyFrom_5 : decode cX2_copyFrom 5 = .ok (.aload_n 0, 1) := by decide +kernel
theorem dX2_copyFrom_6 : decode cX2_copyFrom 6 = .ok (.getfield 11, 3) := by decide +kernel
theorem dX2_copyFrom_9 : decode cX2_copyFrom 9 = .ok (.iconst 0, 1) := by decide +kernel
theorem dX2_copyFrom_10 : decode cX2_copyFrom 10 = .ok (.sipush 132, 3) := by decide +kernel
theorem dX2_copyFrom_13 : decode cX2_copyFrom 13 = .ok (.invokestatic 15, 3) := by decide +kernel
theorem dX2_copyFrom_16 : decode cX2_copyFrom 16 = .ok (.return_, 1) := by decide +kernel
theorem dX2_sameAs_0 : decode cX2_sameAs 0 = .ok (.iconst 0, 1) := by decide +kernel
theorem dX2_sameAs_1 : decode cX2_sameAs 1 = .ok (.istore_n 2, 1) := by decide +kernel
theorem dX2_sameAs_2 : decode cX2_sameAs 2 = .ok (.iload_n 2, 1) := by decide +kernel
theorem dX2_sameAs_3 : decode cX2_sameAs 3 = .ok (.sipush 132, 3) := by decide +kernel
theorem dX2_sameAs_6 : decode cX2_sameAs 6 = .ok (.if_icmp .ge 26, 3) := by decide +kernel
theorem dX2_sameAs_9 : decode cX2_sameAs 9 = .ok (.aload_n 0, 1) := by decide +kernel
theorem dX2_sameAs_10 : decode cX2_sameAs 10 = .ok (.getfield 11, 3) := by decide +kernel
theorem dX2_sameAs_13 : decode cX2_sameAs 13 = .ok (.iload_n 2, 1) := by decide +kernel
theorem dX2_sameAs_14 : decode cX2_sameAs 14 = .ok (.iaload, 1) := by decide +kernel
theorem dX2_sameAs_15 : decode cX2_sameAs 15 = .ok (.aload_n 1, 1) := by decide +kernel
theorem dX2_sameAs_16 : decode cX2_sameAs 16 = .ok (.getfield 11, 3) := by decide +kernel
theorem dX2_sameAs_19 : decode cX2_sameAs 19 = .ok (.iload_n 2, 1) := by decide +kernel
theorem dX2_sameAs_20 : decode cX2_sameAs 20 = .ok (.iaload, 1) := by decide +kernel
theorem dX2_sameAs_21 : decode cX2_sameAs 21 = .ok (.if_icmp .eq 5, 3) := by decide +kernel
theorem dX2_sameAs_24 : decode cX2_sameAs 24 = .ok (.iconst 0, 1) := by decide +kernel
theorem dX2_sameAs_25 : decode cX2_sameAs 25 = .ok (.ireturn, 1) := by decide +kernel
theorem dX2_sameAs_26 : decode cX2_sameAs 26 = .ok (.iinc 2 1, 3) := by decide +kernel
theorem dX2_sameAs_29 : decode cX2_sameAs 29 = .ok (.goto (-27), 3) := by decide +kernel
theorem dX2_sameAs_32 : decode cX2_sameAs 32 = .ok (.iconst 1, 1) := by decide +kernel
theorem dX2_sameAs_33 : decode cX2_sameAs 33 = .ok (.ireturn, 1) := by decide +kernel
theorem dX2_absorb_0 : decode cX2_absorb 0 = .ok (.bipush 36, 2) := by decide +kernel
theorem dX2_absorb_2 : decode cX2_absorb 2 = .ok (.istore_n 2, 1) := by decide +kernel
theorem dX2_absorb_3 : decode cX2_absorb 3 = .ok (.iload_n 2, 1) := by decide +kernel
theorem dX2_absorb_4 : decode cX2_absorb 4 = .ok (.bipush 116, 2) := by decide +kernel
theorem dX2_absorb_6 : decode cX2_absorb 6 = .ok (.if_icmp .ge 15, 3) := by decide +kernel
theorem dX2_absorb_9 : decode cX2_absorb 9 = .ok (.aload_n 0, 1) := by decide +kernel
theorem dX2_absorb_10 : decode cX2_absorb 10 = .ok (.aload_n 1, 1) := by decide +kernel
theorem dX2_absorb_11 : decode cX2_absorb 11 = .ok (.iload_n 2, 1) := by decide +kernel
theorem dX2_absorb_12 : decode cX2_absorb 12 = .ok (.invokevirtual 21, 3) := by decide +kernel
theorem dX2_absorb_15 : decode cX2_absorb 15 = .ok (.iinc 2 1, 3) := by decide +kernel
theorem dX2_absorb_18 : decode cX2_absorb 18 = .ok (.goto (-15), 3) := by decide +kernel
theorem dX2_absorb_21 : decode cX2_absorb 21 = .ok (.iconst 0, 1) := by decide +kernel
theorem dX2_absorb_22 : decode cX2_absorb 22 = .ok (.istore_n 2, 1) := by decide +kernel
theorem dX2_absorb_23 : decode cX2_absorb 23 = .ok (.iload_n 2, 1) := by decide +kernel
theorem dX2_absorb_24 : decode cX2_absorb 24 = .ok (.bipush 36, 2) := by decide +kernel
theorem dX2_absorb_26 : decode cX2_absorb 26 = .ok (.if_icmp .ge 30, 3) := by decide +kernel
theorem dX2_absorb_29 : decode cX2_absorb 29 = .ok (.aload_n 0, 1) := by decide +kernel
theorem dX2_absorb_30 : decode cX2_absorb 30 = .ok (.getfield 11, 3) := by decide +kernel
theorem dX2_absorb_33 : decode cX2_absorb 33 = .ok (.iload_n 2, 1) := by decide +kernel
theorem dX2_absorb_34 : decode cX2_absorb 34 = .ok (.aload_n 0, 1) := by decide +kernel
theorem dX2_absorb_35 : decode cX2_absorb 35 = .ok (.getfield 11, 3) := by decide +kernel
theorem dX2_absorb_38 : decode cX2_absorb 38 = .ok (.iload_n 2, 1) := by decide +kernel
theorem dX2_absorb_39 : decode cX2_absorb 39 = .ok (.iaload, 1) := by decide +kernel
theorem dX2_absorb_40 : decode cX2_absorb 40 = .ok (.aload_n 1, 1) := by decide +kernel
theorem dX2_absorb_41 : decode cX2_absorb 41 = .ok (.getfield 11, 3) := by decide +kernel
theorem dX2_absorb_44 : decode cX2_absorb 44 = .ok (.iload_n 2, 1) := by decide +kernel
theorem dX2_absorb_45 : decode cX2_absorb 45 = .ok (.iaload, 1) := by decide +kernel
theorem dX2_absorb_46 : decode cX2_absorb 46 = .ok (.invokestatic 25, 3) := by decide +kernel
theorem dX2_absorb_49 : decode cX2_absorb 49 = .ok (.iastore, 1) := by decide +kernel
theorem dX2_absorb_50 : decode cX2_absorb 50 = .ok (.iinc 2 1, 3) := by decide +kernel
theorem dX2_absorb_53 : decode cX2_absorb 53 = .ok (.goto (-30), 3) := by decide +kernel
theorem dX2_absorb_56 : decode cX2_absorb 56 = .ok (.return_, 1) := by decide +kernel
theorem dX2_absorbDot_0 : decode cX2_absorbDot 0 = .ok (.iload_n 2, 1) := by decide +kernel
theorem dX2_absorbDot_1 : decode cX2_absorbDot 1 = .ok (.iconst 4, 1) := by decide +kernel
theorem dX2_absorbDot_2 : decode cX2_absorbDot 2 = .ok (.irem, 1) := by decide +kernel
theorem dX2_absorbDot_3 : decode cX2_absorbDot 3 = .ok (.istore_n 3, 1) := by decide +kernel
theorem dX2_absorbDot_4 : decode cX2_absorbDot 4 = .ok (.aload_n 0, 1) := by decide +kernel
theorem dX2_absorbDot_5 : decode cX2_absorbDot 5 = .ok (.getfield 11, 3) := by decide +kernel
theorem dX2_absorbDot_8 : decode cX2_absorbDot 8 = .ok (.iload_n 2, 1) := by decide +kernel
theorem dX2_absorbDot_9 : decode cX2_absorbDot 9 = .ok (.iaload, 1) := by decide +kernel
theorem dX2_absorbDot_10 : decode cX2_absorbDot 10 = .ok (.istore 4, 2) := by decide +kernel
theorem dX2_absorbDot_12 : decode cX2_absorbDot 12 = .ok (.aload_n 1, 1) := by decide +kernel
theorem dX2_absorbDot_13 : decode cX2_absorbDot 13 = .ok (.getfield 11, 3) := by decide +kernel
theorem dX2_absorbDot_16 : decode cX2_absorbDot 16 = .ok (.iload_n 2, 1) := by decide +kernel
theorem dX2_absorbDot_17 : decode cX2_absorbDot 17 = .ok (.iaload, 1) := by decide +kernel
theorem dX2_absorbDot_18 : decode cX2_absorbDot 18 = .ok (.istore 5, 2) := by decide +kernel
theorem dX2_absorbDot_20 : decode cX2_absorbDot 20 = .ok (.iload 5, 2) := by decide +kernel
theorem dX2_absorbDot_22 : decode cX2_absorbDot 22 = .ok (.aload_n 0, 1) := by decide +kernel
theorem dX2_absorbDot_23 : decode cX2_absorbDot 23 = .ok (.getfield 11, 3) := by decide +kernel
theorem dX2_absorbDot_26 : decode cX2_absorbDot 26 = .ok (.iload_n 3, 1) := by decide +kernel
theorem dX2_absorbDot_27 : decode cX2_absorbDot 27 = .ok (.iaload, 1) := by decide +kernel
theorem dX2_absorbDot_28 : decode cX2_absorbDot 28 = .ok (.if_icmp .le 35, 3) := by decide +kernel
theorem dX2_absorbDot_31 : decode cX2_absorbDot 31 = .ok (.aload_n 0, 1) := by decide +kernel
theorem dX2_absorbDot_32 : decode cX2_absorbDot 32 = .ok (.iload_n 2, 1) := by decide +kernel
theorem dX2_absorbDot_33 : decode cX2_absorbDot 33 = .ok (.iload 5, 2) := by decide +kernel
theorem dX2_absorbDot_35 : decode cX2_absorbDot 35 = .ok (.iload_n 2, 1) := by decide +kernel
theorem dX2_absorbDot_36 : decode cX2_absorbDot 36 = .ok (.bipush 100, 2) := by decide +kernel
theorem dX2_absorbDot_38 : decode cX2_absorbDot 38 = .ok (.if_icmp .ge 7, 3) := by decide +kernel
theorem dX2_absorbDot_41 : decode cX2_absorbDot 41 = .ok (.iconst 0, 1) := by decide +kernel
theorem dX2_absorbDot_42 : decode cX2_absorbDot 42 = .ok (.goto 15, 3) := by decide +kernel
theorem dX2_absorbDot_45 : decode cX2_absorbDot 45 = .ok (.aload_n 1, 1) := by decide +kernel
theorem dX2_absorbDot_46 : decode cX2_absorbDot 46 = .ok (.getfield 11, 3) := by decide +kernel
theorem dX2_absorbDot_49 : decode cX2_absorbDot 49 = .ok (.iload_n 2, 1) := by decide +kernel
theorem dX2_absorbDot_50 : decode cX2_absorbDot 50 = .ok (.bipush 116, 2) := by decide +kernel
theorem dX2_absorbDot_52 : decode cX2_absorbDot 52 = .ok (.iadd, 1) := by decide +kernel
theorem dX2_absorbDot_53 : decode cX2_absorbDot 53 = .ok (.bipush 100, 2) := by decide +kernel
theorem dX2_absorbDot_55 : decode cX2_absorbDot 55 = .ok (.isub, 1) := by decide +kernel
theorem dX2_absorbDot_56 : decode cX2_absorbDot 56 = .ok (.iaload, 1) := by decide +kernel
theorem dX2_absorbDot_57 : decode cX2_absorbDot 57 = .ok (.invokevirtual 31, 3) := by decide +kernel
theorem dX2_absorbDot_60 : decode cX2_absorbDot 60 = .ok (.goto 28, 3) := by decide +kernel
theorem dX2_absorbDot_63 : decode cX2_absorbDot 63 = .ok (.iload 4, 2) := by decide +kernel
theorem dX2_absorbDot_65 : decode cX2_absorbDot 65 = .ok (.iload 5, 2) := by decide +kernel
theorem dX2_absorbDot_67 : decode cX2_absorbDot 67 = .ok (.if_icmp .eq 21, 3) := by decide +kernel
theorem dX2_absorbDot_70 : decode cX2_absorbDot 70 = .ok (.iload 4, 2) := by decide +kernel
theorem dX2_absorbDot_72 : decode cX2_absorbDot 72 = .ok (.aload_n 1, 1) := by decide +kernel
theorem dX2_absorbDot_73 : decode cX2_absorbDot 73 = .ok (.getfield 11, 3) := by decide +kernel
theorem dX2_absorbDot_76 : decode cX2_absorbDot 76 = .ok (.iload_n 3, 1) := by decide +kernel
theorem dX2_absorbDot_77 : decode cX2_absorbDot 77 = .ok (.iaload, 1) := by decide +kernel
theorem dX2_absorbDot_78 : decode cX2_absorbDot 78 = .ok (.if_icmp .gt 10, 3) := by decide +kernel
theorem dX2_absorbDot_81 : decode cX2_absorbDot 81 = .ok (.aload_n 0, 1) := by decide +kernel
theorem dX2_absorbDot_82 : decode cX2_absorbDot 82 = .ok (.iload_n 2, 1) := by decide +kernel
theorem dX2_absorbDot_83 : decode cX2_absorbDot 83 = .ok (.iconst 0, 1) := by decide +kernel
theorem dX2_absorbDot_84 : decode cX2_absorbDot 84 = .ok (.iconst 0, 1) := by decide +kernel
theorem dX2_absorbDot_85 : decode cX2_absorbDot 85 = .ok (.invokevirtual 31, 3) := by decide +kernel
theorem dX2_absorbDot_88 : decode cX2_absorbDot 88 = .ok (.return_, 1) := by decide +kernel
theorem dX2_setDot_0 : decode cX2_setDot 0 = .ok (.aload_n 0, 1) := by decide +kernel
theorem dX2_setDot_1 : decode cX2_setDot 1 = .ok (.getfield 11, 3) := by decide +kernel
theorem dX2_setDot_4 : decode cX2_setDot 4 = .ok (.iload_n 1, 1) := by decide +kernel
theorem dX2_setDot_5 : decode cX2_setDot 5 = .ok (.iload_n 2, 1) := by decide +kernel
theorem dX2_setDot_6 : decode cX2_setDot 6 = .ok (.iastore, 1) := by decide +kernel
theorem dX2_setDot_7 : decode cX2_setDot 7 = .ok (.iload_n 1, 1) := by decide +kernel
theorem dX2_setDot_8 : decode cX2_setDot 8 = .ok (.bipush 100, 2) := by decide +kernel
theorem dX2_setDot_10 : decode cX2_setDot 10 = .ok (.if_icmp .lt 16, 3) := by decide +kernel
theorem dX2_setDot_13 : decode cX2_setDot 13 = .ok (.aload_n 0, 1) := by decide +kernel
theorem dX2_setDot_14 : decode cX2_setDot 14 = .ok (.getfield 11, 3) := by decide +kernel
theorem dX2_setDot_17 : decode cX2_setDot 17 = .ok (.iload_n 1, 1) := by decide +kernel
theorem dX2_setDot_18 : decode cX2_setDot 18 = .ok (.bipush 116, 2) := by decide +kernel
theorem dX2_setDot_20 : decode cX2_setDot 20 = .ok (.iadd, 1) := by decide +kernel
theorem dX2_setDot_21 : decode cX2_setDot 21 = .ok (.bipush 100, 2) := by decide +kernel
theorem dX2_setDot_23 : decode cX2_setDot 23 = .ok (.isub, 1) := by decide +kernel
theorem dX2_setDot_24 : decode cX2_setDot 24 = .ok (.iload_n 3, 1) := by decide +kernel
theorem dX2_setDot_25 : decode cX2_setDot 25 = .ok (.iastore, 1) := by decide +kernel
theorem dX2_setDot_26 : decode cX2_setDot 26 = .ok (.return_, 1) := by decide +kernel
theorem dX2_newsFor_0 : decode cX2_newsFor 0 = .ok (.iconst 0, 1) := by decide +kernel
theorem dX2_newsFor_1 : decode cX2_newsFor 1 = .ok (.istore_n 2, 1) := by decide +kernel
theorem dX2_newsFor_2 : decode cX2_newsFor 2 = .ok (.iconst 0, 1) := by decide +kernel
theorem dX2_newsFor_3 : decode cX2_newsFor 3 = .ok (.istore_n 3, 1) := by decide +kernel
theorem dX2_newsFor_4 : decode cX2_newsFor 4 = .ok (.iload_n 3, 1) := by decide +kernel
theorem dX2_newsFor_5 : decode cX2_newsFor 5 = .ok (.bipush 36, 2) := by decide +kernel
theorem dX2_newsFor_7 : decode cX2_newsFor 7 = .ok (.if_icmp .ge 27, 3) := by decide +kernel
theorem dX2_newsFor_10 : decode cX2_newsFor 10 = .ok (.aload_n 0, 1) := by decide +kernel
theorem dX2_newsFor_11 : decode cX2_newsFor 11 = .ok (.getfield 11, 3) := by decide +kernel
theorem dX2_newsFor_14 : decode cX2_newsFor 14 = .ok (.iload_n 3, 1) := by decide +kernel
theorem dX2_newsFor_15 : decode cX2_newsFor 15 = .ok (.iaload, 1) := by decide +kernel
theorem dX2_newsFor_16 : decode cX2_newsFor 16 = .ok (.aload_n 1, 1) := by decide +kernel
theorem dX2_newsFor_17 : decode cX2_newsFor 17 = .ok (.getfield 11, 3) := by decide +kernel
theorem dX2_newsFor_20 : decode cX2_newsFor 20 = .ok (.iload_n 3, 1) := by decide +kernel
theorem dX2_newsFor_21 : decode cX2_newsFor 21 = .ok (.iaload, 1) := by decide +kernel
theorem dX2_newsFor_22 : decode cX2_newsFor 22 = .ok (.if_icmp .le 6, 3) := by decide +kernel
theorem dX2_newsFor_25 : decode cX2_newsFor 25 = .ok (.iinc 2 1, 3) := by decide +kernel
theorem dX2_newsFor_28 : decode cX2_newsFor 28 = .ok (.iinc 3 1, 3) := by decide +kernel
theorem dX2_newsFor_31 : decode cX2_newsFor 31 = .ok (.goto (-27), 3) := by decide +kernel
theorem dX2_newsFor_34 : decode cX2_newsFor 34 = .ok (.bipush 36, 2) := by decide +kernel
theorem dX2_newsFor_36 : decode cX2_newsFor 36 = .ok (.istore_n 3, 1) := by decide +kernel
theorem dX2_newsFor_37 : decode cX2_newsFor 37 = .ok (.iload_n 3, 1) := by decide +kernel
theorem dX2_newsFor_38 : decode cX2_newsFor 38 = .ok (.bipush 116, 2) := by decide +kernel
theorem dX2_newsFor_40 : decode cX2_newsFor 40 = .ok (.if_icmp .ge 29, 3) := by decide +kernel
theorem dX2_newsFor_43 : decode cX2_newsFor 43 = .ok (.aload_n 0, 1) := by decide +kernel
theorem dX2_newsFor_44 : decode cX2_newsFor 44 = .ok (.getfield 11, 3) := by decide +kernel
theorem dX2_newsFor_47 : decode cX2_newsFor 47 = .ok (.iload_n 3, 1) := by decide +kernel
theorem dX2_newsFor_48 : decode cX2_newsFor 48 = .ok (.iaload, 1) := by decide +kernel
theorem dX2_newsFor_49 : decode cX2_newsFor 49 = .ok (.aload_n 1, 1) := by decide +kernel
theorem dX2_newsFor_50 : decode cX2_newsFor 50 = .ok (.getfield 11, 3) := by decide +kernel
theorem dX2_newsFor_53 : decode cX2_newsFor 53 = .ok (.iload_n 3, 1) := by decide +kernel
theorem dX2_newsFor_54 : decode cX2_newsFor 54 = .ok (.iconst 4, 1) := by decide +kernel
theorem dX2_newsFor_55 : decode cX2_newsFor 55 = .ok (.irem, 1) := by decide +kernel
theorem dX2_newsFor_56 : decode cX2_newsFor 56 = .ok (.iaload, 1) := by decide +kernel
theorem dX2_newsFor_57 : decode cX2_newsFor 57 = .ok (.if_icmp .le 6, 3) := by decide +kernel
theorem dX2_newsFor_60 : decode cX2_newsFor 60 = .ok (.iinc 2 1, 3) := by decide +kernel
theorem dX2_newsFor_63 : decode cX2_newsFor 63 = .ok (.iinc 3 1, 3) := by decide +kernel
theorem dX2_newsFor_66 : decode cX2_newsFor 66 = .ok (.goto (-29), 3) := by decide +kernel
theorem dX2_newsFor_69 : decode cX2_newsFor 69 = .ok (.iload_n 2, 1) := by decide +kernel
theorem dX2_newsFor_70 : decode cX2_newsFor 70 = .ok (.ireturn, 1) := by decide +kernel
theorem dX2_version_0 : decode cX2_version 0 = .ok (.aload_n 0, 1) := by decide +kernel
theorem dX2_version_1 : decode cX2_version 1 = .ok (.getfield 11, 3) := by decide +kernel
theorem dX2_version_4 : decode cX2_version 4 = .ok (.iload_n 1, 1) := by decide +kernel
theorem dX2_version_5 : decode cX2_version 5 = .ok (.iaload, 1) := by decide +kernel
theorem dX2_version_6 : decode cX2_version 6 = .ok (.ireturn, 1) := by decide +kernel
theorem dX2_sum_0 : decode cX2_sum 0 = .ok (.aload_n 0, 1) := by decide +kernel
theorem dX2_sum_1 : decode cX2_sum 1 = .ok (.getfield 11, 3) := by decide +kernel
theorem dX2_sum_4 : decode cX2_sum 4 = .ok (.iload_n 1, 1) := by decide +kernel
theorem dX2_sum_5 : decode cX2_sum 5 = .ok (.iload_n 2, 1) := by decide +kernel
theorem dX2_sum_6 : decode cX2_sum 6 = .ok (.iconst 4, 1) := by decide +kernel
theorem dX2_sum_7 : decode cX2_sum 7 = .ok (.imul, 1) := by decide +kernel
theorem dX2_sum_8 : decode cX2_sum 8 = .ok (.iadd, 1) := by decide +kernel
theorem dX2_sum_9 : decode cX2_sum 9 = .ok (.iload_n 3, 1) := by decide +kernel
theorem dX2_sum_10 : decode cX2_sum 10 = .ok (.iadd, 1) := by decide +kernel
theorem dX2_sum_11 : decode cX2_sum 11 = .ok (.iaload, 1) := by decide +kernel
theorem dX2_sum_12 : decode cX2_sum 12 = .ok (.ireturn, 1) := by decide +kernel
theorem dX2_addToSum_0 : decode cX2_addToSum 0 = .ok (.aload_n 0, 1) := by decide +kernel
theorem dX2_addToSum_1 : decode cX2_addToSum 1 = .ok (.getfield 11, 3) := by decide +kernel
theorem dX2_addToSum_4 : decode cX2_addToSum 4 = .ok (.iload_n 1, 1) := by decide +kernel
theorem dX2_addToSum_5 : decode cX2_addToSum 5 = .ok (.iload_n 2, 1) := by decide +kernel
theorem dX2_addToSum_6 : decode cX2_addToSum 6 = .ok (.iconst 4, 1) := by decide +kernel
theorem dX2_addToSum_7 : decode cX2_addToSum 7 = .ok (.imul, 1) := by decide +kernel
theorem dX2_addToSum_8 : decode cX2_addToSum 8 = .ok (.iadd, 1) := by decide +kernel
theorem dX2_addToSum_9 : decode cX2_addToSum 9 = .ok (.iload_n 3, 1) := by decide +kernel
theorem dX2_addToSum_10 : decode cX2_addToSum 10 = .ok (.iadd, 1) := by decide +kernel
theorem dX2_addToSum_11 : decode cX2_addToSum 11 = .ok (.dup2, 1) := by decide +kernel
theorem dX2_addToSum_12 : decode cX2_addToSum 12 = .ok (.iaload, 1) := by decide +kernel
theorem dX2_addToSum_13 : decode cX2_addToSum 13 = .ok (.iload 4, 2) := by decide +kernel
theorem dX2_addToSum_15 : decode cX2_addToSum 15 = .ok (.iadd, 1) := by decide +kernel
theorem dX2_addToSum_16 : decode cX2_addToSum 16 = .ok (.iastore, 1) := by decide +kernel
theorem dX2_addToSum_17 : decode cX2_addToSum 17 = .ok (.return_, 1) := by decide +kernel
theorem dX2_total_0 : decode cX2_total 0 = .ok (.iconst 0, 1) := by decide +kernel
theorem dX2_total_1 : decode cX2_total 1 = .ok (.istore_n 2, 1) := by decide +kernel
theorem dX2_total_2 : decode cX2_total 2 = .ok (.iconst 0, 1) := by decide +kernel
theorem dX2_total_3 : decode cX2_total 3 = .ok (.istore_n 3, 1) := by decide +kernel
theorem dX2_total_4 : decode cX2_total 4 = .ok (.iload_n 3, 1) := by decide +kernel
theorem dX2_total_5 : decode cX2_total 5 = .ok (.iconst 4, 1) := by decide +kernel
theorem dX2_total_6 : decode cX2_total 6 = .ok (.if_icmp .ge 28, 3) := by decide +kernel
theorem dX2_total_9 : decode cX2_total 9 = .ok (.iload_n 2, 1) := by decide +kernel
theorem dX2_total_10 : decode cX2_total 10 = .ok (.aload_n 0, 1) := by decide +kernel
theorem dX2_total_11 : decode cX2_total 11 = .ok (.iconst 4, 1) := by decide +kernel
theorem dX2_total_12 : decode cX2_total 12 = .ok (.iload_n 1, 1) := by decide +kernel
theorem dX2_total_13 : decode cX2_total 13 = .ok (.iload_n 3, 1) := by decide +kernel
theorem dX2_total_14 : decode cX2_total 14 = .ok (.invokevirtual 35, 3) := by decide +kernel
theorem dX2_total_17 : decode cX2_total 17 = .ok (.aload_n 0, 1) := by decide +kernel
theorem dX2_total_18 : decode cX2_total 18 = .ok (.bipush 20, 2) := by decide +kernel
theorem dX2_total_20 : decode cX2_total 20 = .ok (.iload_n 1, 1) := by decide +kernel
theorem dX2_total_21 : decode cX2_total 21 = .ok (.iload_n 3, 1) := by decide +kernel
theorem dX2_total_22 : decode cX2_total 22 = .ok (.invokevirtual 35, 3) := by decide +kernel
theorem dX2_total_25 : decode cX2_total 25 = .ok (.isub, 1) := by decide +kernel
theorem dX2_total_26 : decode cX2_total 26 = .ok (.iadd, 1) := by decide +kernel
theorem dX2_total_27 : decode cX2_total 27 = .ok (.istore_n 2, 1) := by decide +kernel
theorem dX2_total_28 : decode cX2_total 28 = .ok (.iinc 3 1, 3) := by decide +kernel
theorem dX2_total_31 : decode cX2_total 31 = .ok (.goto (-27), 3) := by decide +kernel
theorem dX2_total_34 : decode cX2_total 34 = .ok (.iload_n 2, 1) := by decide +kernel
theorem dX2_total_35 : decode cX2_total 35 = .ok (.ireturn, 1) := by decide +kernel
theorem dX2_dotOfTag_0 : decode cX2_dotOfTag 0 = .ok (.aload_n 0, 1) := by decide +kernel
theorem dX2_dotOfTag_1 : decode cX2_dotOfTag 1 = .ok (.getfield 11, 3) := by decide +kernel
theorem dX2_dotOfTag_4 : decode cX2_dotOfTag 4 = .ok (.bipush 36, 2) := by decide +kernel
theorem dX2_dotOfTag_6 : decode cX2_dotOfTag 6 = .ok (.iload_n 1, 1) := by decide +kernel
theorem dX2_dotOfTag_7 : decode cX2_dotOfTag 7 = .ok (.iconst 4, 1) := by decide +kernel
theorem dX2_dotOfTag_8 : decode cX2_dotOfTag 8 = .ok (.imul, 1) := by decide +kernel
theorem dX2_dotOfTag_9 : decode cX2_dotOfTag 9 = .ok (.iadd, 1) := by decide +kernel
theorem dX2_dotOfTag_10 : decode cX2_dotOfTag 10 = .ok (.iload_n 2, 1) := by decide +kernel
theorem dX2_dotOfTag_11 : decode cX2_dotOfTag 11 = .ok (.iadd, 1) := by decide +kernel
theorem dX2_dotOfTag_12 : decode cX2_dotOfTag 12 = .ok (.iaload, 1) := by decide +kernel
theorem dX2_dotOfTag_13 : decode cX2_dotOfTag 13 = .ok (.ireturn, 1) := by decide +kernel
theorem dX2_dotsOfTag_0 : decode cX2_dotsOfTag 0 = .ok (.aload_n 0, 1) := by decide +kernel
theorem dX2_dotsOfTag_1 : decode cX2_dotsOfTag 1 = .ok (.bipush 36, 2) := by decide +kernel
theorem dX2_dotsOfTag_3 : decode cX2_dotsOfTag 3 = .ok (.iload_n 1, 1) := by decide +kernel
theorem dX2_dotsOfTag_4 : decode cX2_dotsOfTag 4 = .ok (.iconst 4, 1) := by decide +kernel
theorem dX2_dotsOfTag_5 : decode cX2_dotsOfTag 5 = .ok (.imul, 1) := by decide +kernel
theorem dX2_dotsOfTag_6 : decode cX2_dotsOfTag 6 = .ok (.iadd, 1) := by decide +kernel
theorem dX2_dotsOfTag_7 : decode cX2_dotsOfTag 7 = .ok (.invokevirtual 39, 3) := by decide +kernel
theorem dX2_dotsOfTag_10 : decode cX2_dotsOfTag 10 = .ok (.ireturn, 1) := by decide +kernel
theorem dX2_entries_0 : decode cX2_entries 0 = .ok (.aload_n 0, 1) := by decide +kernel
theorem dX2_entries_1 : decode cX2_entries 1 = .ok (.bipush 100, 2) := by decide +kernel
theorem dX2_entries_3 : decode cX2_entries 3 = .ok (.iload_n 1, 1) := by decide +kernel
theorem dX2_entries_4 : decode cX2_entries 4 = .ok (.iconst 4, 1) := by decide +kernel
theorem dX2_entries_5 : decode cX2_entries 5 = .ok (.imul, 1) := by decide +kernel
theorem dX2_entries_6 : decode cX2_entries 6 = .ok (.iadd, 1) := by decide +kernel
theorem dX2_entries_7 : decode cX2_entries 7 = .ok (.invokevirtual 39, 3) := by decide +kernel
theorem dX2_entries_10 : decode cX2_entries 10 = .ok (.ireturn, 1) := by decide +kernel
theorem dX2_dotsFrom_0 : decode cX2_dotsFrom 0 = .ok (.iconst 0, 1) := by decide +kernel
theorem dX2_dotsFrom_1 : decode cX2_dotsFrom 1 = .ok (.istore_n 2, 1) := by decide +kernel
theorem dX2_dotsFrom_2 : decode cX2_dotsFrom 2 = .ok (.iconst 0, 1) := by decide +kernel
theorem dX2_dotsFrom_3 : decode cX2_dotsFrom 3 = .ok (.istore_n 3, 1) := by decide +kernel
theorem dX2_dotsFrom_4 : decode cX2_dotsFrom 4 = .ok (.iload_n 3, 1) := by decide +kernel
theorem dX2_dotsFrom_5 : decode cX2_dotsFrom 5 = .ok (.iconst 4, 1) := by decide +kernel
theorem dX2_dotsFrom_6 : decode cX2_dotsFrom 6 = .ok (.if_icmp .ge 23, 3) := by decide +kernel
theorem dX2_dotsFrom_9 : decode cX2_dotsFrom 9 = .ok (.aload_n 0, 1) := by decide +kernel
theorem dX2_dotsFrom_10 : decode cX2_dotsFrom 10 = .ok (.getfield 11, 3) := by decide +kernel
theorem dX2_dotsFrom_13 : decode cX2_dotsFrom 13 = .ok (.iload_n 1, 1) := by decide +kernel
theorem dX2_dotsFrom_14 : decode cX2_dotsFrom 14 = .ok (.iload_n 3, 1) := by decide +kernel
theorem dX2_dotsFrom_15 : decode cX2_dotsFrom 15 = .ok (.iadd, 1) := by decide +kernel
theorem dX2_dotsFrom_16 : decode cX2_dotsFrom 16 = .ok (.iaload, 1) := by decide +kernel
theorem dX2_dotsFrom_17 : decode cX2_dotsFrom 17 = .ok (.ifCond .eq 6, 3) := by decide +kernel
theorem dX2_dotsFrom_20 : decode cX2_dotsFrom 20 = .ok (.iinc 2 1, 3) := by decide +kernel
theorem dX2_dotsFrom_23 : decode cX2_dotsFrom 23 = .ok (.iinc 3 1, 3) := by decide +kernel
theorem dX2_dotsFrom_26 : decode cX2_dotsFrom 26 = .ok (.goto (-22), 3) := by decide +kernel
theorem dX2_dotsFrom_29 : decode cX2_dotsFrom 29 = .ok (.iload_n 2, 1) := by decide +kernel
theorem dX2_dotsFrom_30 : decode cX2_dotsFrom 30 = .ok (.ireturn, 1) := by decide +kernel
theorem dX2_valueBy_0 : decode cX2_valueBy 0 = .ok (.iload_n 1, 1) := by decide +kernel
theorem dX2_valueBy_1 : decode cX2_valueBy 1 = .ok (.iconst 4, 1) := by decide +kernel
theorem dX2_valueBy_2 : decode cX2_valueBy 2 = .ok (.imul, 1) := by decide +kernel
theorem dX2_valueBy_3 : decode cX2_valueBy 3 = .ok (.iload_n 2, 1) := by decide +kernel
theorem dX2_valueBy_4 : decode cX2_valueBy 4 = .ok (.iadd, 1) := by decide +kernel
theorem dX2_valueBy_5 : decode cX2_valueBy 5 = .ok (.istore_n 3, 1) := by decide +kernel
theorem dX2_valueBy_6 : decode cX2_valueBy 6 = .ok (.aload_n 0, 1) := by decide +kernel
theorem dX2_valueBy_7 : decode cX2_valueBy 7 = .ok (.getfield 11, 3) := by decide +kernel
theorem dX2_valueBy_10 : decode cX2_valueBy 10 = .ok (.bipush 100, 2) := by decide +kernel
theorem dX2_valueBy_12 : decode cX2_valueBy 12 = .ok (.iload_n 3, 1) := by decide +kernel
theorem dX2_valueBy_13 : decode cX2_valueBy 13 = .ok (.iadd, 1) := by decide +kernel
theorem dX2_valueBy_14 : decode cX2_valueBy 14 = .ok (.iaload, 1) := by decide +kernel
theorem dX2_valueBy_15 : decode cX2_valueBy 15 = .ok (.ifCond .ne 7, 3) := by decide +kernel
theorem dX2_valueBy_18 : decode cX2_valueBy 18 = .ok (.iconst (-1), 1) := by decide +kernel
theorem dX2_valueBy_19 : decode cX2_valueBy 19 = .ok (.goto 12, 3) := by decide +kernel
theorem dX2_valueBy_22 : decode cX2_valueBy 22 = .ok (.aload_n 0, 1) := by decide +kernel
theorem dX2_valueBy_23 : decode cX2_valueBy 23 = .ok (.getfield 11, 3) := by decide +kernel
theorem dX2_valueBy_26 : decode cX2_valueBy 26 = .ok (.bipush 116, 2) := by decide +kernel
theorem dX2_valueBy_28 : decode cX2_valueBy 28 = .ok (.iload_n 3, 1) := by decide +kernel
theorem dX2_valueBy_29 : decode cX2_valueBy 29 = .ok (.iadd, 1) := by decide +kernel
theorem dX2_valueBy_30 : decode cX2_valueBy 30 = .ok (.iaload, 1) := by decide +kernel
theorem dX2_valueBy_31 : decode cX2_valueBy 31 = .ok (.ireturn, 1) := by decide +kernel
theorem dX2_presentTags_0 : decode cX2_presentTags 0 = .ok (.iconst 0, 1) := by decide +kernel
theorem dX2_presentTags_1 : decode cX2_presentTags 1 = .ok (.istore_n 1, 1) := by decide +kernel
theorem dX2_presentTags_2 : decode cX2_presentTags 2 = .ok (.iconst 0, 1) := by decide +kernel
theorem dX2_presentTags_3 : decode cX2_presentTags 3 = .ok (.istore_n 2, 1) := by decide +kernel
theorem dX2_presentTags_4 : decode cX2_presentTags 4 = .ok (.iload_n 2, 1) := by decide +kernel
theorem dX2_presentTags_5 : decode cX2_presentTags 5 = .ok (.bipush 16, 2) := by decide +kernel
theorem dX2_presentTags_7 : decode cX2_presentTags 7 = .ok (.if_icmp .ge 20, 3) := by decide +kernel
theorem dX2_presentTags_10 : decode cX2_presentTags 10 = .ok (.aload_n 0, 1) := by decide +kernel
theorem dX2_presentTags_11 : decode cX2_presentTags 11 = .ok (.iload_n 2, 1) := by decide +kernel
theorem dX2_presentTags_12 : decode cX2_presentTags 12 = .ok (.invokevirtual 43, 3) := by decide +kernel
theorem dX2_presentTags_15 : decode cX2_presentTags 15 = .ok (.ifCond .le 6, 3) := by decide +kernel
theorem dX2_presentTags_18 : decode cX2_presentTags 18 = .ok (.iinc 1 1, 3) := by decide +kernel
theorem dX2_presentTags_21 : decode cX2_presentTags 21 = .ok (.iinc 2 1, 3) := by decide +kernel
theorem dX2_presentTags_24 : decode cX2_presentTags 24 = .ok (.goto (-20), 3) := by decide +kernel
theorem dX2_presentTags_27 : decode cX2_presentTags 27 = .ok (.iload_n 1, 1) := by decide +kernel
theorem dX2_presentTags_28 : decode cX2_presentTags 28 = .ok (.ireturn, 1) := by decide +kernel
theorem dX2_presentTag_0 : decode cX2_presentTag 0 = .ok (.iconst 0, 1) := by decide +kernel
theorem dX2_presentTag_1 : decode cX2_presentTag 1 = .ok (.istore_n 2, 1) := by decide +kernel
theorem dX2_presentTag_2 : decode cX2_presentTag 2 = .ok (.iconst 0, 1) := by decide +kernel
theorem dX2_presentTag_3 : decode cX2_presentTag 3 = .ok (.istore_n 3, 1) := by decide +kernel
theorem dX2_presentTag_4 : decode cX2_presentTag 4 = .ok (.iload_n 3, 1) := by decide +kernel
theorem dX2_presentTag_5 : decode cX2_presentTag 5 = .ok (.bipush 16, 2) := by decide +kernel
theorem dX2_presentTag_7 : decode cX2_presentTag 7 = .ok (.if_icmp .ge 27, 3) := by decide +kernel
theorem dX2_presentTag_10 : decode cX2_presentTag 10 = .ok (.aload_n 0, 1) := by decide +kernel
theorem dX2_presentTag_11 : decode cX2_presentTag 11 = .ok (.iload_n 3, 1) := by decide +kernel
theorem dX2_presentTag_12 : decode cX2_presentTag 12 = .ok (.invokevirtual 43, 3) := by decide +kernel
theorem dX2_presentTag_15 : decode cX2_presentTag 15 = .ok (.ifCond .le 13, 3) := by decide +kernel
theorem dX2_presentTag_18 : decode cX2_presentTag 18 = .ok (.iload_n 2, 1) := by decide +kernel
theorem dX2_presentTag_19 : decode cX2_presentTag 19 = .ok (.iload_n 1, 1) := by decide +kernel
theorem dX2_presentTag_20 : decode cX2_presentTag 20 = .ok (.if_icmp .ne 5, 3) := by decide +kernel
theorem dX2_presentTag_23 : decode cX2_presentTag 23 = .ok (.iload_n 3, 1) := by decide +kernel
theorem dX2_presentTag_24 : decode cX2_presentTag 24 = .ok (.ireturn, 1) := by decide +kernel
theorem dX2_presentTag_25 : decode cX2_presentTag 25 = .ok (.iinc 2 1, 3) := by decide +kernel
theorem dX2_presentTag_28 : decode cX2_presentTag 28 = .ok (.iinc 3 1, 3) := by decide +kernel
theorem dX2_presentTag_31 : decode cX2_presentTag 31 = .ok (.goto (-27), 3) := by decide +kernel
theorem dX2_presentTag_34 : decode cX2_presentTag 34 = .ok (.iconst (-1), 1) := by decide +kernel
theorem dX2_presentTag_35 : decode cX2_presentTag 35 = .ok (.ireturn, 1) := by decide +kernel
theorem dX2_tagsMissingIn_0 : decode cX2_tagsMissingIn 0 = .ok (.iconst 0, 1) := by decide +kernel
theorem dX2_tagsMissingIn_1 : decode cX2_tagsMissingIn 1 = .ok (.istore_n 2, 1) := by decide +kernel
theorem dX2_tagsMissingIn_2 : decode cX2_tagsMissingIn 2 = .ok (.iconst 0, 1) := by decide +kernel
theorem dX2_tagsMissingIn_3 : decode cX2_tagsMissingIn 3 = .ok (.istore_n 3, 1) := by decide +kernel
theorem dX2_tagsMissingIn_4 : decode cX2_tagsMissingIn 4 = .ok (.iload_n 3, 1) := by decide +kernel
theorem dX2_tagsMissingIn_5 : decode cX2_tagsMissingIn 5 = .ok (.bipush 16, 2) := by decide +kernel
theorem dX2_tagsMissingIn_7 : decode cX2_tagsMissingIn 7 = .ok (.if_icmp .ge 28, 3) := by decide +kernel
theorem dX2_tagsMissingIn_10 : decode cX2_tagsMissingIn 10 = .ok (.aload_n 0, 1) := by decide +kernel
theorem dX2_tagsMissingIn_11 : decode cX2_tagsMissingIn 11 = .ok (.iload_n 3, 1) := by decide +kernel
theorem dX2_tagsMissingIn_12 : decode cX2_tagsMissingIn 12 = .ok (.invokevirtual 43, 3) := by decide +kernel
theorem dX2_tagsMissingIn_15 : decode cX2_tagsMissingIn 15 = .ok (.ifCond .le 14, 3) := by decide +kernel
theorem dX2_tagsMissingIn_18 : decode cX2_tagsMissingIn 18 = .ok (.aload_n 1, 1) := by decide +kernel
theorem dX2_tagsMissingIn_19 : decode cX2_tagsMissingIn 19 = .ok (.iload_n 3, 1) := by decide +kernel
theorem dX2_tagsMissingIn_20 : decode cX2_tagsMissingIn 20 = .ok (.invokevirtual 43, 3) := by decide +kernel
theorem dX2_tagsMissingIn_23 : decode cX2_tagsMissingIn 23 = .ok (.ifCond .ne 6, 3) := by decide +kernel
theorem dX2_tagsMissingIn_26 : decode cX2_tagsMissingIn 26 = .ok (.iinc 2 1, 3) := by decide +kernel
theorem dX2_tagsMissingIn_29 : decode cX2_tagsMissingIn 29 = .ok (.iinc 3 1, 3) := by decide +kernel
theorem dX2_tagsMissingIn_32 : decode cX2_tagsMissingIn 32 = .ok (.goto (-28), 3) := by decide +kernel
theorem dX2_tagsMissingIn_35 : decode cX2_tagsMissingIn 35 = .ok (.iload_n 2, 1) := by decide +kernel
theorem dX2_tagsMissingIn_36 : decode cX2_tagsMissingIn 36 = .ok (.ireturn, 1) := by decide +kernel
theorem dX2_registersInConflict_0 : decode cX2_registersInConflict 0 = .ok (.iconst 0, 1) := by decide +kernel
theorem dX2_registersInConflict_1 : decode cX2_registersInConflict 1 = .ok (.istore_n 1, 1) := by decide +kernel
theorem dX2_registersInConflict_2 : decode cX2_registersInConflict 2 = .ok (.iconst 0, 1) := by decide +kernel
theorem dX2_registersInConflict_3 : decode cX2_registersInConflict 3 = .ok (.istore_n 2, 1) := by decide +kernel
theorem dX2_registersInConflict_4 : decode cX2_registersInConflict 4 = .ok (.iload_n 2, 1) := by decide +kernel
theorem dX2_registersInConflict_5 : decode cX2_registersInConflict 5 = .ok (.iconst 4, 1) := by decide +kernel
theorem dX2_registersInConflict_6 : decode cX2_registersInConflict 6 = .ok (.if_icmp .ge 21, 3) := by decide +kernel
theorem dX2_registersInConflict_9 : decode cX2_registersInConflict 9 = .ok (.aload_n 0, 1) := by decide +kernel
theorem dX2_registersInConflict_10 : decode cX2_registersInConflict 10 = .ok (.iload_n 2, 1) := by decide +kernel
theorem dX2_registersInConflict_11 : decode cX2_registersInConflict 11 = .ok (.invokevirtual 46, 3) := by decide +kernel
theorem dX2_registersInConflict_14 : decode cX2_registersInConflict 14 = .ok (.iconst 1, 1) := by decide +kernel
theorem dX2_registersInConflict_15 : decode cX2_registersInConflict 15 = .ok (.if_icmp .le 6, 3) := by decide +kernel
theorem dX2_registersInConflict_18 : decode cX2_registersInConflict 18 = .ok (.iinc 1 1, 3) := by decide +kernel
theorem dX2_registersInConflict_21 : decode cX2_registersInConflict 21 = .ok (.iinc 2 1, 3) := by decide +kernel
theorem dX2_registersInConflict_24 : decode cX2_registersInConflict 24 = .ok (.goto (-20), 3) := by decide +kernel
theorem dX2_registersInConflict_27 : decode cX2_registersInConflict 27 = .ok (.iload_n 1, 1) := by decide +kernel
theorem dX2_registersInConflict_28 : decode cX2_registersInConflict 28 = .ok (.ireturn, 1) := by decide +kernel
theorem dX2_putTag_0 : decode cX2_putTag 0 = .ok (.aload_n 0, 1) := by decide +kernel
theorem dX2_putTag_1 : decode cX2_putTag 1 = .ok (.bipush 36, 2) := by decide +kernel
theorem dX2_putTag_3 : decode cX2_putTag 3 = .ok (.iload_n 2, 1) := by decide +kernel
theorem dX2_putTag_4 : decode cX2_putTag 4 = .ok (.iconst 4, 1) := by decide +kernel
theorem dX2_putTag_5 : decode cX2_putTag 5 = .ok (.imul, 1) := by decide +kernel
theorem dX2_putTag_6 : decode cX2_putTag 6 = .ok (.iadd, 1) := by decide +kernel
theorem dX2_putTag_7 : decode cX2_putTag 7 = .ok (.iload_n 1, 1) := by decide +kernel
theorem dX2_putTag_8 : decode cX2_putTag 8 = .ok (.iconst 0, 1) := by decide +kernel
theorem dX2_putTag_9 : decode cX2_putTag 9 = .ok (.invokevirtual 49, 3) := by decide +kernel
theorem dX2_putTag_12 : decode cX2_putTag 12 = .ok (.return_, 1) := by decide +kernel
theorem dX2_clearTag_0 : decode cX2_clearTag 0 = .ok (.iconst 0, 1) := by decide +kernel
theorem dX2_clearTag_1 : decode cX2_clearTag 1 = .ok (.istore_n 2, 1) := by decide +kernel
theorem dX2_clearTag_2 : decode cX2_clearTag 2 = .ok (.iload_n 2, 1) := by decide +kernel
theorem dX2_clearTag_3 : decode cX2_clearTag 3 = .ok (.iconst 4, 1) := by decide +kernel
theorem dX2_clearTag_4 : decode cX2_clearTag 4 = .ok (.if_icmp .ge 23, 3) := by decide +kernel
theorem dX2_clearTag_7 : decode cX2_clearTag 7 = .ok (.aload_n 0, 1) := by decide +kernel
theorem dX2_clearTag_8 : decode cX2_clearTag 8 = .ok (.bipush 36, 2) := by decide +kernel
theorem dX2_clearTag_10 : decode cX2_clearTag 10 = .ok (.iload_n 1, 1) := by decide +kernel
theorem dX2_clearTag_11 : decode cX2_clearTag 11 = .ok (.iconst 4, 1) := by decide +kernel
theorem dX2_clearTag_12 : decode cX2_clearTag 12 = .ok (.imul, 1) := by decide +kernel
theorem dX2_clearTag_13 : decode cX2_clearTag 13 = .ok (.iadd, 1) := by decide +kernel
theorem dX2_clearTag_14 : decode cX2_clearTag 14 = .ok (.iload_n 2, 1) := by decide +kernel
theorem dX2_clearTag_15 : decode cX2_clearTag 15 = .ok (.iadd, 1) := by decide +kernel
theorem dX2_clearTag_16 : decode cX2_clearTag 16 = .ok (.iconst 0, 1) := by decide +kernel
theorem dX2_clearTag_17 : decode cX2_clearTag 17 = .ok (.iconst 0, 1) := by decide +kernel
theorem dX2_clearTag_18 : decode cX2_clearTag 18 = .ok (.invokevirtual 31, 3) := by decide +kernel
theorem dX2_clearTag_21 : decode cX2_clearTag 21 = .ok (.iinc 2 1, 3) := by decide +kernel
theorem dX2_clearTag_24 : decode cX2_clearTag 24 = .ok (.goto (-22), 3) := by decide +kernel
theorem dX2_clearTag_27 : decode cX2_clearTag 27 = .ok (.return_, 1) := by decide +kernel
theorem dX2_putEntry_0 : decode cX2_putEntry 0 = .ok (.aload_n 0, 1) := by decide +kernel
theorem dX2_putEntry_1 : decode cX2_putEntry 1 = .ok (.bipush 100, 2) := by decide +kernel
theorem dX2_putEntry_3 : decode cX2_putEntry 3 = .ok (.iload_n 2, 1) := by decide +kernel
theorem dX2_putEntry_4 : decode cX2_putEntry 4 = .ok (.iconst 4, 1) := by decide +kernel
theorem dX2_putEntry_5 : decode cX2_putEntry 5 = .ok (.imul, 1) := by decide +kernel
theorem dX2_putEntry_6 : decode cX2_putEntry 6 = .ok (.iadd, 1) := by decide +kernel
theorem dX2_putEntry_7 : decode cX2_putEntry 7 = .ok (.iload_n 1, 1) := by decide +kernel
theorem dX2_putEntry_8 : decode cX2_putEntry 8 = .ok (.iload_n 3, 1) := by decide +kernel
theorem dX2_putEntry_9 : decode cX2_putEntry 9 = .ok (.invokevirtual 49, 3) := by decide +kernel
theorem dX2_putEntry_12 : decode cX2_putEntry 12 = .ok (.return_, 1) := by decide +kernel
theorem dX2_putNewDot_0 : decode cX2_putNewDot 0 = .ok (.aload_n 0, 1) := by decide +kernel
theorem dX2_putNewDot_1 : decode cX2_putNewDot 1 = .ok (.getfield 11, 3) := by decide +kernel
theorem dX2_putNewDot_4 : decode cX2_putNewDot 4 = .ok (.iload_n 2, 1) := by decide +kernel
theorem dX2_putNewDot_5 : decode cX2_putNewDot 5 = .ok (.dup2, 1) := by decide +kernel
theorem dX2_putNewDot_6 : decode cX2_putNewDot 6 = .ok (.iaload, 1) := by decide +kernel
theorem dX2_putNewDot_7 : decode cX2_putNewDot 7 = .ok (.iconst 1, 1) := by decide +kernel
theorem dX2_putNewDot_8 : decode cX2_putNewDot 8 = .ok (.iadd, 1) := by decide +kernel
theorem dX2_putNewDot_9 : decode cX2_putNewDot 9 = .ok (.iastore, 1) := by decide +kernel
theorem dX2_putNewDot_10 : decode cX2_putNewDot 10 = .ok (.iconst 0, 1) := by decide +kernel
theorem dX2_putNewDot_11 : decode cX2_putNewDot 11 = .ok (.istore 4, 2) := by decide +kernel
theorem dX2_putNewDot_13 : decode cX2_putNewDot 13 = .ok (.iload 4, 2) := by decide +kernel
theorem dX2_putNewDot_15 : decode cX2_putNewDot 15 = .ok (.iconst 4, 1) := by decide +kernel
theorem dX2_putNewDot_16 : decode cX2_putNewDot 16 = .ok (.if_icmp .ge 55, 3) := by decide +kernel
theorem dX2_putNewDot_19 : decode cX2_putNewDot 19 = .ok (.iload 4, 2) := by decide +kernel
theorem dX2_putNewDot_21 : decode cX2_putNewDot 21 = .ok (.iload_n 2, 1) := by decide +kernel
theorem dX2_putNewDot_22 : decode cX2_putNewDot 22 = .ok (.if_icmp .ne 7, 3) := by decide +kernel
theorem dX2_putNewDot_25 : decode cX2_putNewDot 25 = .ok (.iconst 1, 1) := by decide +kernel
theorem dX2_putNewDot_26 : decode cX2_putNewDot 26 = .ok (.goto 4, 3) := by decide +kernel
theorem dX2_putNewDot_29 : decode cX2_putNewDot 29 = .ok (.iconst 0, 1) := by decide +kernel
theorem dX2_putNewDot_30 : decode cX2_putNewDot 30 = .ok (.istore 5, 2) := by decide +kernel
theorem dX2_putNewDot_32 : decode cX2_putNewDot 32 = .ok (.aload_n 0, 1) := by decide +kernel
theorem dX2_putNewDot_33 : decode cX2_putNewDot 33 = .ok (.iload_n 1, 1) := by decide +kernel
theorem dX2_putNewDot_34 : decode cX2_putNewDot 34 = .ok (.iload 4, 2) := by decide +kernel
theorem dX2_putNewDot_36 : decode cX2_putNewDot 36 = .ok (.iadd, 1) := by decide +kernel
theorem dX2_putNewDot_37 : decode cX2_putNewDot 37 = .ok (.iload 5, 2) := by decide +kernel
theorem dX2_putNewDot_39 : decode cX2_putNewDot 39 = .ok (.ifCond .eq 12, 3) := by decide +kernel
theorem dX2_putNewDot_42 : decode cX2_putNewDot 42 = .ok (.aload_n 0, 1) := by decide +kernel
theorem dX2_putNewDot_43 : decode cX2_putNewDot 43 = .ok (.getfield 11, 3) := by decide +kernel
theorem dX2_putNewDot_46 : decode cX2_putNewDot 46 = .ok (.iload_n 2, 1) := by decide +kernel
theorem dX2_putNewDot_47 : decode cX2_putNewDot 47 = .ok (.iaload, 1) := by decide +kernel
theorem dX2_putNewDot_48 : decode cX2_putNewDot 48 = .ok (.goto 4, 3) := by decide +kernel
theorem dX2_putNewDot_51 : decode cX2_putNewDot 51 = .ok (.iconst 0, 1) := by decide +kernel
theorem dX2_putNewDot_52 : decode cX2_putNewDot 52 = .ok (.iload 5, 2) := by decide +kernel
theorem dX2_putNewDot_54 : decode cX2_putNewDot 54 = .ok (.ifCond .eq 7, 3) := by decide +kernel
theorem dX2_putNewDot_57 : decode cX2_putNewDot 57 = .ok (.iload_n 3, 1) := by decide +kernel
theorem dX2_putNewDot_58 : decode cX2_putNewDot 58 = .ok (.goto 4, 3) := by decide +kernel
theorem dX2_putNewDot_61 : decode cX2_putNewDot 61 = .ok (.iconst 0, 1) := by decide +kernel
theorem dX2_putNewDot_62 : decode cX2_putNewDot 62 = .ok (.invokevirtual 31, 3) := by decide +kernel
theorem dX2_putNewDot_65 : decode cX2_putNewDot 65 = .ok (.iinc 4 1, 3) := by decide +kernel
theorem dX2_putNewDot_68 : decode cX2_putNewDot 68 = .ok (.goto (-55), 3) := by decide +kernel
theorem dX2_putNewDot_71 : decode cX2_putNewDot 71 = .ok (.return_, 1) := by decide +kernel
