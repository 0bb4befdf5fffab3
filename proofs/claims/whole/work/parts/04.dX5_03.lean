/-! what each instruction decodes to, as printed -/
theorem dX5_covers_13 : decode cX5_covers 13 = .ok (.invokevirtual 111, 3) := by decide +kernel
theorem dX5_covers_16 : decode cX5_covers 16 = .ok (.invokevirtual 216, 3) := by decide +kernel
theorem dX5_covers_19 : decode cX5_covers 19 = .ok (.goto 7, 3) := by decide +kernel
theorem dX5_covers_22 : decode cX5_covers 22 = .ok (.aload_n 0, 1) := by decide +kernel
theorem dX5_covers_23 : decode cX5_covers 23 = .ok (.invokevirtual 220, 3) := by decide +kernel
theorem dX5_covers_26 : decode cX5_covers 26 = .ok (.ireturn, 1) := by decide +kernel
theorem dX5_areConcurrent_0 : decode cX5_areConcurrent 0 = .ok (.aload_n 0, 1) := by decide +kernel
theorem dX5_areConcurrent_1 : decode cX5_areConcurrent 1 = .ok (.iload_n 1, 1) := by decide +kernel
theorem dX5_areConcurrent_2 : decode cX5_areConcurrent 2 = .ok (.iload_n 2, 1) := by decide +kernel
theorem dX5_areConcurrent_3 : decode cX5_areConcurrent 3 = .ok (.invokevirtual 213, 3) := by decide +kernel
theorem dX5_areConcurrent_6 : decode cX5_areConcurrent 6 = .ok (.ifCond .eq 33, 3) := by decide +kernel
theorem dX5_areConcurrent_9 : decode cX5_areConcurrent 9 = .ok (.aload_n 0, 1) := by decide +kernel
theorem dX5_areConcurrent_10 : decode cX5_areConcurrent 10 = .ok (.aload_n 0, 1) := by decide +kernel
theorem dX5_areConcurrent_11 : decode cX5_areConcurrent 11 = .ok (.iload_n 2, 1) := by decide +kernel
theorem dX5_areConcurrent_12 : decode cX5_areConcurrent 12 = .ok (.iload_n 1, 1) := by decide +kernel
theorem dX5_areConcurrent_13 : decode cX5_areConcurrent 13 = .ok (.invokevirtual 111, 3) := by decide +kernel
theorem dX5_areConcurrent_16 : decode cX5_areConcurrent 16 = .ok (.ifCond .ne 16, 3) := by decide +kernel
theorem dX5_areConcurrent_19 : decode cX5_areConcurrent 19 = .ok (.aload_n 0, 1) := by decide +kernel
theorem dX5_areConcurrent_20 : decode cX5_areConcurrent 20 = .ok (.iload_n 1, 1) := by decide +kernel
theorem dX5_areConcurrent_21 : decode cX5_areConcurrent 21 = .ok (.iload_n 2, 1) := by decide +kernel
theorem dX5_areConcurrent_22 : decode cX5_areConcurrent 22 = .ok (.invokevirtual 111, 3) := by decide +kernel
theorem dX5_areConcurrent_25 : decode cX5_areConcurrent 25 = .ok (.ifCond .ne 7, 3) := by decide +kernel
theorem dX5_areConcurrent_28 : decode cX5_areConcurrent 28 = .ok (.iconst 1, 1) := by decide +kernel
theorem dX5_areConcurrent_29 : decode cX5_areConcurrent 29 = .ok (.goto 4, 3) := by decide +kernel
theorem dX5_areConcurrent_32 : decode cX5_areConcurrent 32 = .ok (.iconst 0, 1) := by decide +kernel
theorem dX5_areConcurrent_33 : decode cX5_areConcurrent 33 = .ok (.invokevirtual 216, 3) := by decide +kernel
theorem dX5_areConcurrent_36 : decode cX5_areConcurrent 36 = .ok (.goto 7, 3) := by decide +kernel
theorem dX5_areConcurrent_39 : decode cX5_areConcurrent 39 = .ok (.aload_n 0, 1) := by decide +kernel
theorem dX5_areConcurrent_40 : decode cX5_areConcurrent 40 = .ok (.invokevirtual 220, 3) := by decide +kernel
theorem dX5_areConcurrent_43 : decode cX5_areConcurrent 43 = .ok (.ireturn, 1) := by decide +kernel
theorem dX5_differentStates_0 : decode cX5_differentStates 0 = .ok (.iconst 0, 1) := by decide +kernel
theorem dX5_differentStates_1 : decode cX5_differentStates 1 = .ok (.istore_n 1, 1) := by decide +kernel
theorem dX5_differentStates_2 : decode cX5_differentStates 2 = .ok (.iconst 0, 1) := by decide +kernel
theorem dX5_differentStates_3 : decode cX5_differentStates 3 = .ok (.istore_n 2, 1) := by decide +kernel
theorem dX5_differentStates_4 : decode cX5_differentStates 4 = .ok (.iload_n 2, 1) := by decide +kernel
theorem dX5_differentStates_5 : decode cX5_differentStates 5 = .ok (.aload_n 0, 1) := by decide +kernel
theorem dX5_differentStates_6 : decode cX5_differentStates 6 = .ok (.getfield 13, 3) := by decide +kernel
theorem dX5_differentStates_9 : decode cX5_differentStates 9 = .ok (.iconst 0, 1) := by decide +kernel
theorem dX5_differentStates_10 : decode cX5_differentStates 10 = .ok (.iaload, 1) := by decide +kernel
theorem dX5_differentStates_11 : decode cX5_differentStates 11 = .ok (.if_icmp .ge 58, 3) := by decide +kernel
theorem dX5_differentStates_14 : decode cX5_differentStates 14 = .ok (.iconst 0, 1) := by decide +kernel
theorem dX5_differentStates_15 : decode cX5_differentStates 15 = .ok (.istore_n 3, 1) := by decide +kernel
theorem dX5_differentStates_16 : decode cX5_differentStates 16 = .ok (.iconst 0, 1) := by decide +kernel
theorem dX5_differentStates_17 : decode cX5_differentStates 17 = .ok (.istore 4, 2) := by decide +kernel
theorem dX5_differentStates_19 : decode cX5_differentStates 19 = .ok (.iload 4, 2) := by decide +kernel
theorem dX5_differentStates_21 : decode cX5_differentStates 21 = .ok (.iload_n 2, 1) := by decide +kernel
theorem dX5_differentStates_22 : decode cX5_differentStates 22 = .ok (.if_icmp .ge 29, 3) := by decide +kernel
theorem dX5_differentStates_25 : decode cX5_differentStates 25 = .ok (.iload_n 3, 1) := by decide +kernel
theorem dX5_differentStates_26 : decode cX5_differentStates 26 = .ok (.ifCond .ne 13, 3) := by decide +kernel
theorem dX5_differentStates_29 : decode cX5_differentStates 29 = .ok (.aload_n 0, 1) := by decide +kernel
theorem dX5_differentStates_30 : decode cX5_differentStates 30 = .ok (.iload 4, 2) := by decide +kernel
theorem dX5_differentStates_32 : decode cX5_differentStates 32 = .ok (.iload_n 2, 1) := by decide +kernel
theorem dX5_differentStates_33 : decode cX5_differentStates 33 = .ok (.invokevirtual 107, 3) := by decide +kernel
theorem dX5_differentStates_36 : decode cX5_differentStates 36 = .ok (.ifCond .eq 7, 3) := by decide +kernel
theorem dX5_differentStates_39 : decode cX5_differentStates 39 = .ok (.iconst 1, 1) := by decide +kernel
theorem dX5_differentStates_40 : decode cX5_differentStates 40 = .ok (.goto 4, 3) := by decide +kernel
theorem dX5_differentStates_43 : decode cX5_differentStates 43 = .ok (.iconst 0, 1) := by decide +kernel
theorem dX5_differentStates_44 : decode cX5_differentStates 44 = .ok (.istore_n 3, 1) := by decide +kernel
theorem dX5_differentStates_45 : decode cX5_differentStates 45 = .ok (.iinc 4 1, 3) := by decide +kernel
theorem dX5_differentStates_48 : decode cX5_differentStates 48 = .ok (.goto (-29), 3) := by decide +kernel
theorem dX5_differentStates_51 : decode cX5_differentStates 51 = .ok (.iload_n 1, 1) := by decide +kernel
theorem dX5_differentStates_52 : decode cX5_differentStates 52 = .ok (.iload_n 3, 1) := by decide +kernel
theorem dX5_differentStates_53 : decode cX5_differentStates 53 = .ok (.ifCond .eq 7, 3) := by decide +kernel
theorem dX5_differentStates_56 : decode cX5_differentStates 56 = .ok (.iconst 0, 1) := by decide +kernel
theorem dX5_differentStates_57 : decode cX5_differentStates 57 = .ok (.goto 4, 3) := by decide +kernel
theorem dX5_differentStates_60 : decode cX5_differentStates 60 = .ok (.iconst 1, 1) := by decide +kernel
theorem dX5_differentStates_61 : decode cX5_differentStates 61 = .ok (.iadd, 1) := by decide +kernel
theorem dX5_differentStates_62 : decode cX5_differentStates 62 = .ok (.istore_n 1, 1) := by decide +kernel
theorem dX5_differentStates_63 : decode cX5_differentStates 63 = .ok (.iinc 2 1, 3) := by decide +kernel
theorem dX5_differentStates_66 : decode cX5_differentStates 66 = .ok (.goto (-62), 3) := by decide +kernel
theorem dX5_differentStates_69 : decode cX5_differentStates 69 = .ok (.aload_n 0, 1) := by decide +kernel
theorem dX5_differentStates_70 : decode cX5_differentStates 70 = .ok (.iload_n 1, 1) := by decide +kernel
theorem dX5_differentStates_71 : decode cX5_differentStates 71 = .ok (.invokevirtual 198, 3) := by decide +kernel
theorem dX5_differentStates_74 : decode cX5_differentStates 74 = .ok (.ireturn, 1) := by decide +kernel
theorem dX5_counterValue_0 : decode cX5_counterValue 0 = .ok (.aload_n 0, 1) := by decide +kernel
theorem dX5_counterValue_1 : decode cX5_counterValue 1 = .ok (.iload_n 1, 1) := by decide +kernel
theorem dX5_counterValue_2 : decode cX5_counterValue 2 = .ok (.invokevirtual 210, 3) := by decide +kernel
theorem dX5_counterValue_5 : decode cX5_counterValue 5 = .ok (.ifCond .eq 24, 3) := by decide +kernel
theorem dX5_counterValue_8 : decode cX5_counterValue 8 = .ok (.aload_n 0, 1) := by decide +kernel
theorem dX5_counterValue_9 : decode cX5_counterValue 9 = .ok (.iload_n 2, 1) := by decide +kernel
theorem dX5_counterValue_10 : decode cX5_counterValue 10 = .ok (.invokevirtual 224, 3) := by decide +kernel
theorem dX5_counterValue_13 : decode cX5_counterValue 13 = .ok (.ifCond .eq 16, 3) := by decide +kernel
theorem dX5_counterValue_16 : decode cX5_counterValue 16 = .ok (.aload_n 0, 1) := by decide +kernel
theorem dX5_counterValue_17 : decode cX5_counterValue 17 = .ok (.aload_n 0, 1) := by decide +kernel
theorem dX5_counterValue_18 : decode cX5_counterValue 18 = .ok (.iload_n 1, 1) := by decide +kernel
theorem dX5_counterValue_19 : decode cX5_counterValue 19 = .ok (.iload_n 2, 1) := by decide +kernel
theorem dX5_counterValue_20 : decode cX5_counterValue 20 = .ok (.invokevirtual 227, 3) := by decide +kernel
theorem dX5_counterValue_23 : decode cX5_counterValue 23 = .ok (.invokevirtual 198, 3) := by decide +kernel
theorem dX5_counterValue_26 : decode cX5_counterValue 26 = .ok (.goto 8, 3) := by decide +kernel
theorem dX5_counterValue_29 : decode cX5_counterValue 29 = .ok (.aload_n 0, 1) := by decide +kernel
theorem dX5_counterValue_30 : decode cX5_counterValue 30 = .ok (.iconst 1, 1) := by decide +kernel
theorem dX5_counterValue_31 : decode cX5_counterValue 31 = .ok (.invokevirtual 192, 3) := by decide +kernel
theorem dX5_counterValue_34 : decode cX5_counterValue 34 = .ok (.ireturn, 1) := by decide +kernel
theorem dX5_increments_0 : decode cX5_increments 0 = .ok (.aload_n 0, 1) := by decide +kernel
theorem dX5_increments_1 : decode cX5_increments 1 = .ok (.iload_n 1, 1) := by decide +kernel
theorem dX5_increments_2 : decode cX5_increments 2 = .ok (.iload_n 3, 1) := by decide +kernel
theorem dX5_increments_3 : decode cX5_increments 3 = .ok (.invokevirtual 213, 3) := by decide +kernel
theorem dX5_increments_6 : decode cX5_increments 6 = .ok (.ifCond .eq 29, 3) := by decide +kernel
theorem dX5_increments_9 : decode cX5_increments 9 = .ok (.aload_n 0, 1) := by decide +kernel
theorem dX5_increments_10 : decode cX5_increments 10 = .ok (.iload_n 2, 1) := by decide +kernel
theorem dX5_increments_11 : decode cX5_increments 11 = .ok (.invokevirtual 224, 3) := by decide +kernel
theorem dX5_increments_14 : decode cX5_increments 14 = .ok (.ifCond .eq 21, 3) := by decide +kernel
theorem dX5_increments_17 : decode cX5_increments 17 = .ok (.aload_n 0, 1) := by decide +kernel
theorem dX5_increments_18 : decode cX5_increments 18 = .ok (.aload_n 0, 1) := by decide +kernel
theorem dX5_increments_19 : decode cX5_increments 19 = .ok (.getfield 13, 3) := by decide +kernel
theorem dX5_increments_22 : decode cX5_increments 22 = .ok (.iload_n 1, 1) := by decide +kernel
theorem dX5_increments_23 : decode cX5_increments 23 = .ok (.iload_n 2, 1) := by decide +kernel
theorem dX5_increments_24 : decode cX5_increments 24 = .ok (.iload_n 3, 1) := by decide +kernel
theorem dX5_increments_25 : decode cX5_increments 25 = .ok (.invokestatic 36, 3) := by decide +kernel
theorem dX5_increments_28 : decode cX5_increments 28 = .ok (.iaload, 1) := by decide +kernel
theorem dX5_increments_29 : decode cX5_increments 29 = .ok (.invokevirtual 198, 3) := by decide +kernel
theorem dX5_increments_32 : decode cX5_increments 32 = .ok (.goto 8, 3) := by decide +kernel
theorem dX5_increments_35 : decode cX5_increments 35 = .ok (.aload_n 0, 1) := by decide +kernel
theorem dX5_increments_36 : decode cX5_increments 36 = .ok (.iconst 1, 1) := by decide +kernel
theorem dX5_increments_37 : decode cX5_increments 37 = .ok (.invokevirtual 192, 3) := by decide +kernel
theorem dX5_increments_40 : decode cX5_increments 40 = .ok (.ireturn, 1) := by decide +kernel
theorem dX5_decrements_0 : decode cX5_decrements 0 = .ok (.aload_n 0, 1) := by decide +kernel
theorem dX5_decrements_1 : decode cX5_decrements 1 = .ok (.iload_n 1, 1) := by decide +kernel
theorem dX5_decrements_2 : decode cX5_decrements 2 = .ok (.iload_n 3, 1) := by decide +kernel
theorem dX5_decrements_3 : decode cX5_decrements 3 = .ok (.invokevirtual 213, 3) := by decide +kernel
theorem dX5_decrements_6 : decode cX5_decrements 6 = .ok (.ifCond .eq 29, 3) := by decide +kernel
theorem dX5_decrements_9 : decode cX5_decrements 9 = .ok (.aload_n 0, 1) := by decide +kernel
theorem dX5_decrements_10 : decode cX5_decrements 10 = .ok (.iload_n 2, 1) := by decide +kernel
theorem dX5_decrements_11 : decode cX5_decrements 11 = .ok (.invokevirtual 224, 3) := by decide +kernel
theorem dX5_decrements_14 : decode cX5_decrements 14 = .ok (.ifCond .eq 21, 3) := by decide +kernel
theorem dX5_decrements_17 : decode cX5_decrements 17 = .ok (.aload_n 0, 1) := by decide +kernel
theorem dX5_decrements_18 : decode cX5_decrements 18 = .ok (.aload_n 0, 1) := by decide +kernel
theorem dX5_decrements_19 : decode cX5_decrements 19 = .ok (.getfield 13, 3) := by decide +kernel
theorem dX5_decrements_22 : decode cX5_decrements 22 = .ok (.iload_n 1, 1) := by decide +kernel
theorem dX5_decrements_23 : decode cX5_decrements 23 = .ok (.iload_n 2, 1) := by decide +kernel
theorem dX5_decrements_24 : decode cX5_decrements 24 = .ok (.iload_n 3, 1) := by decide +kernel
theorem dX5_decrements_25 : decode cX5_decrements 25 = .ok (.invokestatic 40, 3) := by decide +kernel
theorem dX5_decrements_28 : decode cX5_decrements 28 = .ok (.iaload, 1) := by decide +kernel
theorem dX5_decrements_29 : decode cX5_decrements 29 = .ok (.invokevirtual 198, 3) := by decide +kernel
theorem dX5_decrements_32 : decode cX5_decrements 32 = .ok (.goto 8, 3) := by decide +kernel
theorem dX5_decrements_35 : decode cX5_decrements 35 = .ok (.aload_n 0, 1) := by decide +kernel
theorem dX5_decrements_36 : decode cX5_decrements 36 = .ok (.iconst 1, 1) := by decide +kernel
theorem dX5_decrements_37 : decode cX5_decrements 37 = .ok (.invokevirtual 192, 3) := by decide +kernel
theorem dX5_decrements_40 : decode cX5_decrements 40 = .ok (.ireturn, 1) := by decide +kernel
theorem dX5_hasTag_0 : decode cX5_hasTag 0 = .ok (.aload_n 0, 1) := by decide +kernel
theorem dX5_hasTag_1 : decode cX5_hasTag 1 = .ok (.iload_n 1, 1) := by decide +kernel
theorem dX5_hasTag_2 : decode cX5_hasTag 2 = .ok (.invokevirtual 210, 3) := by decide +kernel
theorem dX5_hasTag_5 : decode cX5_hasTag 5 = .ok (.ifCond .eq 31, 3) := by decide +kernel
theorem dX5_hasTag_8 : decode cX5_hasTag 8 = .ok (.iload_n 2, 1) := by decide +kernel
theorem dX5_hasTag_9 : decode cX5_hasTag 9 = .ok (.invokestatic 230, 3) := by decide +kernel
theorem dX5_hasTag_12 : decode cX5_hasTag 12 = .ok (.ifCond .eq 24, 3) := by decide +kernel
theorem dX5_hasTag_15 : decode cX5_hasTag 15 = .ok (.aload_n 0, 1) := by decide +kernel
theorem dX5_hasTag_16 : decode cX5_hasTag 16 = .ok (.aload_n 0, 1) := by decide +kernel
theorem dX5_hasTag_17 : decode cX5_hasTag 17 = .ok (.iload_n 1, 1) := by decide +kernel
theorem dX5_hasTag_18 : decode cX5_hasTag 18 = .ok (.iload_n 2, 1) := by decide +kernel
theorem dX5_hasTag_19 : decode cX5_hasTag 19 = .ok (.invokevirtual 78, 3) := by decide +kernel
theorem dX5_hasTag_22 : decode cX5_hasTag 22 = .ok (.ifCond .le 7, 3) := by decide +kernel
theorem dX5_hasTag_25 : decode cX5_hasTag 25 = .ok (.iconst 1, 1) := by decide +kernel
theorem dX5_hasTag_26 : decode cX5_hasTag 26 = .ok (.goto 4, 3) := by decide +kernel
theorem dX5_hasTag_29 : decode cX5_hasTag 29 = .ok (.iconst 0, 1) := by decide +kernel
theorem dX5_hasTag_30 : decode cX5_hasTag 30 = .ok (.invokevirtual 216, 3) := by decide +kernel
theorem dX5_hasTag_33 : decode cX5_hasTag 33 = .ok (.goto 7, 3) := by decide +kernel
theorem dX5_hasTag_36 : decode cX5_hasTag 36 = .ok (.aload_n 0, 1) := by decide +kernel
theorem dX5_hasTag_37 : decode cX5_hasTag 37 = .ok (.invokevirtual 220, 3) := by decide +kernel
theorem dX5_hasTag_40 : decode cX5_hasTag 40 = .ok (.ireturn, 1) := by decide +kernel
theorem dX5_liveDots_0 : decode cX5_liveDots 0 = .ok (.aload_n 0, 1) := by decide +kernel
theorem dX5_liveDots_1 : decode cX5_liveDots 1 = .ok (.iload_n 1, 1) := by decide +kernel
theorem dX5_liveDots_2 : decode cX5_liveDots 2 = .ok (.invokevirtual 210, 3) := by decide +kernel
theorem dX5_liveDots_5 : decode cX5_liveDots 5 = .ok (.ifCond .eq 23, 3) := by decide +kernel
theorem dX5_liveDots_8 : decode cX5_liveDots 8 = .ok (.iload_n 2, 1) := by decide +kernel
theorem dX5_liveDots_9 : decode cX5_liveDots 9 = .ok (.invokestatic 230, 3) := by decide +kernel
theorem dX5_liveDots_12 : decode cX5_liveDots 12 = .ok (.ifCond .eq 16, 3) := by decide +kernel
theorem dX5_liveDots_15 : decode cX5_liveDots 15 = .ok (.aload_n 0, 1) := by decide +kernel
theorem dX5_liveDots_16 : decode cX5_liveDots 16 = .ok (.aload_n 0, 1) := by decide +kernel
theorem dX5_liveDots_17 : decode cX5_liveDots 17 = .ok (.iload_n 1, 1) := by decide +kernel
theorem dX5_liveDots_18 : decode cX5_liveDots 18 = .ok (.iload_n 2, 1) := by decide +kernel
theorem dX5_liveDots_19 : decode cX5_liveDots 19 = .ok (.invokevirtual 78, 3) := by decide +kernel
theorem dX5_liveDots_22 : decode cX5_liveDots 22 = .ok (.invokevirtual 198, 3) := by decide +kernel
theorem dX5_liveDots_25 : decode cX5_liveDots 25 = .ok (.goto 8, 3) := by decide +kernel
theorem dX5_liveDots_28 : decode cX5_liveDots 28 = .ok (.aload_n 0, 1) := by decide +kernel
theorem dX5_liveDots_29 : decode cX5_liveDots 29 = .ok (.iconst 1, 1) := by decide +kernel
theorem dX5_liveDots_30 : decode cX5_liveDots 30 = .ok (.invokevirtual 192, 3) := by decide +kernel
theorem dX5_liveDots_33 : decode cX5_liveDots 33 = .ok (.ireturn, 1) := by decide +kernel
theorem dX5_tagDot_0 : decode cX5_tagDot 0 = .ok (.aload_n 0, 1) := by decide +kernel
theorem dX5_tagDot_1 : decode cX5_tagDot 1 = .ok (.iload_n 1, 1) := by decide +kernel
theorem dX5_tagDot_2 : decode cX5_tagDot 2 = .ok (.iload_n 3, 1) := by decide +kernel
theorem dX5_tagDot_3 : decode cX5_tagDot 3 = .ok (.invokevirtual 213, 3) := by decide +kernel
theorem dX5_tagDot_6 : decode cX5_tagDot 6 = .ok (.ifCond .eq 28, 3) := by decide +kernel
theorem dX5_tagDot_9 : decode cX5_tagDot 9 = .ok (.iload_n 2, 1) := by decide +kernel
theorem dX5_tagDot_10 : decode cX5_tagDot 10 = .ok (.invokestatic 230, 3) := by decide +kernel
theorem dX5_tagDot_13 : decode cX5_tagDot 13 = .ok (.ifCond .eq 21, 3) := by decide +kernel
theorem dX5_tagDot_16 : decode cX5_tagDot 16 = .ok (.aload_n 0, 1) := by decide +kernel
theorem dX5_tagDot_17 : decode cX5_tagDot 17 = .ok (.aload_n 0, 1) := by decide +kernel
theorem dX5_tagDot_18 : decode cX5_tagDot 18 = .ok (.getfield 13, 3) := by decide +kernel
theorem dX5_tagDot_21 : decode cX5_tagDot 21 = .ok (.iload_n 1, 1) := by decide +kernel
theorem dX5_tagDot_22 : decode cX5_tagDot 22 = .ok (.iload_n 2, 1) := by decide +kernel
theorem dX5_tagDot_23 : decode cX5_tagDot 23 = .ok (.iload_n 3, 1) := by decide +kernel
theorem dX5_tagDot_24 : decode cX5_tagDot 24 = .ok (.invokestatic 75, 3) := by decide +kernel
theorem dX5_tagDot_27 : decode cX5_tagDot 27 = .ok (.iaload, 1) := by decide +kernel
theorem dX5_tagDot_28 : decode cX5_tagDot 28 = .ok (.invokevirtual 198, 3) := by decide +kernel
theorem dX5_tagDot_31 : decode cX5_tagDot 31 = .ok (.goto 8, 3) := by decide +kernel
theorem dX5_tagDot_34 : decode cX5_tagDot 34 = .ok (.aload_n 0, 1) := by decide +kernel
theorem dX5_tagDot_35 : decode cX5_tagDot 35 = .ok (.iconst 1, 1) := by decide +kernel
theorem dX5_tagDot_36 : decode cX5_tagDot 36 = .ok (.invokevirtual 192, 3) := by decide +kernel
theorem dX5_tagDot_39 : decode cX5_tagDot 39 = .ok (.ireturn, 1) := by decide +kernel
theorem dX5_tagCount_0 : decode cX5_tagCount 0 = .ok (.aload_n 0, 1) := by decide +kernel
theorem dX5_tagCount_1 : decode cX5_tagCount 1 = .ok (.iload_n 1, 1) := by decide +kernel
theorem dX5_tagCount_2 : decode cX5_tagCount 2 = .ok (.invokevirtual 210, 3) := by decide +kernel
theorem dX5_tagCount_5 : decode cX5_tagCount 5 = .ok (.ifCond .eq 15, 3) := by decide +kernel
theorem dX5_tagCount_8 : decode cX5_tagCount 8 = .ok (.aload_n 0, 1) := by decide +kernel
theorem dX5_tagCount_9 : decode cX5_tagCount 9 = .ok (.aload_n 0, 1) := by decide +kernel
theorem dX5_tagCount_10 : decode cX5_tagCount 10 = .ok (.iload_n 1, 1) := by decide +kernel
theorem dX5_tagCount_11 : decode cX5_tagCount 11 = .ok (.invokevirtual 233, 3) := by decide +kernel
theorem dX5_tagCount_14 : decode cX5_tagCount 14 = .ok (.invokevirtual 198, 3) := by decide +kernel
theorem dX5_tagCount_17 : decode cX5_tagCount 17 = .ok (.goto 8, 3) := by decide +kernel
theorem dX5_tagCount_20 : decode cX5_tagCount 20 = .ok (.aload_n 0, 1) := by decide +kernel
theorem dX5_tagCount_21 : decode cX5_tagCount 21 = .ok (.iconst 1, 1) := by decide +kernel
theorem dX5_tagCount_22 : decode cX5_tagCount 22 = .ok (.invokevirtual 192, 3) := by decide +kernel
theorem dX5_tagCount_25 : decode cX5_tagCount 25 = .ok (.ireturn, 1) := by decide +kernel
theorem dX5_tagAt_0 : decode cX5_tagAt 0 = .ok (.aload_n 0, 1) := by decide +kernel
theorem dX5_tagAt_1 : decode cX5_tagAt 1 = .ok (.iload_n 1, 1) := by decide +kernel
theorem dX5_tagAt_2 : decode cX5_tagAt 2 = .ok (.invokevirtual 210, 3) := by decide +kernel
theorem dX5_tagAt_5 : decode cX5_tagAt 5 = .ok (.ifCond .eq 7, 3) := by decide +kernel
theorem dX5_tagAt_8 : decode cX5_tagAt 8 = .ok (.iload_n 2, 1) := by decide +kernel
theorem dX5_tagAt_9 : decode cX5_tagAt 9 = .ok (.ifCond .ge 9, 3) := by decide +kernel
theorem dX5_tagAt_12 : decode cX5_tagAt 12 = .ok (.aload_n 0, 1) := by decide +kernel
theorem dX5_tagAt_13 : decode cX5_tagAt 13 = .ok (.iconst 1, 1) := by decide +kernel
theorem dX5_tagAt_14 : decode cX5_tagAt 14 = .ok (.invokevirtual 192, 3) := by decide +kernel
theorem dX5_tagAt_17 : decode cX5_tagAt 17 = .ok (.ireturn, 1) := by decide +kernel
theorem dX5_tagAt_18 : decode cX5_tagAt 18 = .ok (.iload_n 2, 1) := by decide +kernel
theorem dX5_tagAt_19 : decode cX5_tagAt 19 = .ok (.istore_n 3, 1) := by decide +kernel
theorem dX5_tagAt_20 : decode cX5_tagAt 20 = .ok (.iconst 0, 1) := by decide +kernel
theorem dX5_tagAt_21 : decode cX5_tagAt 21 = .ok (.istore 4, 2) := by decide +kernel
theorem dX5_tagAt_23 : decode cX5_tagAt 23 = .ok (.iload 4, 2) := by decide +kernel
theorem dX5_tagAt_25 : decode cX5_tagAt 25 = .ok (.bipush 16, 2) := by decide +kernel
theorem dX5_tagAt_27 : decode cX5_tagAt 27 = .ok (.if_icmp .ge 33, 3) := by decide +kernel
theorem dX5_tagAt_30 : decode cX5_tagAt 30 = .ok (.aload_n 0, 1) := by decide +kernel
theorem dX5_tagAt_31 : decode cX5_tagAt 31 = .ok (.iload_n 1, 1) := by decide +kernel
theorem dX5_tagAt_32 : decode cX5_tagAt 32 = .ok (.iload 4, 2) := by decide +kernel
theorem dX5_tagAt_34 : decode cX5_tagAt 34 = .ok (.invokevirtual 78, 3) := by decide +kernel
theorem dX5_tagAt_37 : decode cX5_tagAt 37 = .ok (.ifCond .le 17, 3) := by decide +kernel
theorem dX5_tagAt_40 : decode cX5_tagAt 40 = .ok (.iload_n 3, 1) := by decide +kernel
theorem dX5_tagAt_41 : decode cX5_tagAt 41 = .ok (.ifCond .ne 10, 3) := by decide +kernel
theorem dX5_tagAt_44 : decode cX5_tagAt 44 = .ok (.aload_n 0, 1) := by decide +kernel
theorem dX5_tagAt_45 : decode cX5_tagAt 45 = .ok (.iload 4, 2) := by decide +kernel
theorem dX5_tagAt_47 : decode cX5_tagAt 47 = .ok (.invokevirtual 198, 3) := by decide +kernel
theorem dX5_tagAt_50 : decode cX5_tagAt 50 = .ok (.ireturn, 1) := by decide +kernel
theorem dX5_tagAt_51 : decode cX5_tagAt 51 = .ok (.iinc 3 (-1), 3) := by decide +kernel
theorem dX5_tagAt_54 : decode cX5_tagAt 54 = .ok (.iinc 4 1, 3) := by decide +kernel
theorem dX5_tagAt_57 : decode cX5_tagAt 57 = .ok (.goto (-34), 3) := by decide +kernel
theorem dX5_tagAt_60 : decode cX5_tagAt 60 = .ok (.aload_n 0, 1) := by decide +kernel
theorem dX5_tagAt_61 : decode cX5_tagAt 61 = .ok (.iconst 1, 1) := by decide +kernel
theorem dX5_tagAt_62 : decode cX5_tagAt 62 = .ok (.invokevirtual 192, 3) := by decide +kernel
theorem dX5_tagAt_65 : decode cX5_tagAt 65 = .ok (.ireturn, 1) := by decide +kernel
theorem dX5_entryCount_0 : decode cX5_entryCount 0 = .ok (.aload_n 0, 1) := by decide +kernel
theorem dX5_entryCount_1 : decode cX5_entryCount 1 = .ok (.iload_n 1, 1) := by decide +kernel
theorem dX5_entryCount_2 : decode cX5_entryCount 2 = .ok (.invokevirtual 210, 3) := by decide +kernel
theorem dX5_entryCount_5 : decode cX5_entryCount 5 = .ok (.ifCond .eq 24, 3) := by decide +kernel
theorem dX5_entryCount_8 : decode cX5_entryCount 8 = .ok (.aload_n 0, 1) := by decide +kernel
theorem dX5_entryCount_9 : decode cX5_entryCount 9 = .ok (.iload_n 2, 1) := by decide +kernel
theorem dX5_entryCount_10 : decode cX5_entryCount 10 = .ok (.invokevirtual 236, 3) := by decide +kernel
theorem dX5_entryCount_13 : decode cX5_entryCount 13 = .ok (.ifCond .eq 16, 3) := by decide +kernel
theorem dX5_entryCount_16 : decode cX5_entryCount 16 = .ok (.aload_n 0, 1) := by decide +kernel
theorem dX5_entryCount_17 : decode cX5_entryCount 17 = .ok (.aload_n 0, 1) := by decide +kernel
theorem dX5_entryCount_18 : decode cX5_entryCount 18 = .ok (.iload_n 1, 1) := by decide +kernel
theorem dX5_entryCount_19 : decode cX5_entryCount 19 = .ok (.iload_n 2, 1) := by decide +kernel
theorem dX5_entryCount_20 : decode cX5_entryCount 20 = .ok (.invokevirtual 87, 3) := by decide +kernel
theorem dX5_entryCount_23 : decode cX5_entryCount 23 = .ok (.invokevirtual 198, 3) := by decide +kernel
theorem dX5_entryCount_26 : decode cX5_entryCount 26 = .ok (.goto 8, 3) := by decide +kernel
theorem dX5_entryCount_29 : decode cX5_entryCount 29 = .ok (.aload_n 0, 1) := by decide +kernel
theorem dX5_entryCount_30 : decode cX5_entryCount 30 = .ok (.iconst 1, 1) := by decide +kernel
theorem dX5_entryCount_31 : decode cX5_entryCount 31 = .ok (.invokevirtual 192, 3) := by decide +kernel
theorem dX5_entryCount_34 : decode cX5_entryCount 34 = .ok (.ireturn, 1) := by decide +kernel
theorem dX5_entryOf_0 : decode cX5_entryOf 0 = .ok (.aload_n 0, 1) := by decide +kernel
theorem dX5_entryOf_1 : decode cX5_entryOf 1 = .ok (.getfield 13, 3) := by decide +kernel
theorem dX5_entryOf_4 : decode cX5_entryOf 4 = .ok (.iload_n 1, 1) := by decide +kernel
theorem dX5_entryOf_5 : decode cX5_entryOf 5 = .ok (.iload_n 2, 1) := by decide +kernel
theorem dX5_entryOf_6 : decode cX5_entryOf 6 = .ok (.iload_n 3, 1) := by decide +kernel
theorem dX5_entryOf_7 : decode cX5_entryOf 7 = .ok (.invokestatic 84, 3) := by decide +kernel
theorem dX5_entryOf_10 : decode cX5_entryOf 10 = .ok (.iaload, 1) := by decide +kernel
theorem dX5_entryOf_11 : decode cX5_entryOf 11 = .ok (.ifCond .le 17, 3) := by decide +kernel
theorem dX5_entryOf_14 : decode cX5_entryOf 14 = .ok (.aload_n 0, 1) := by decide +kernel
theorem dX5_entryOf_15 : decode cX5_entryOf 15 = .ok (.getfield 13, 3) := by decide +kernel
theorem dX5_entryOf_18 : decode cX5_entryOf 18 = .ok (.iload_n 1, 1) := by decide +kernel
theorem dX5_entryOf_19 : decode cX5_entryOf 19 = .ok (.iload_n 2, 1) := by decide +kernel
theorem dX5_entryOf_20 : decode cX5_entryOf 20 = .ok (.iload_n 3, 1) := by decide +kernel
theorem dX5_entryOf_21 : decode cX5_entryOf 21 = .ok (.invokestatic 90, 3) := by decide +kernel
theorem dX5_entryOf_24 : decode cX5_entryOf 24 = .ok (.iaload, 1) := by decide +kernel
theorem dX5_entryOf_25 : decode cX5_entryOf 25 = .ok (.goto 4, 3) := by decide +kernel
theorem dX5_entryOf_28 : decode cX5_entryOf 28 = .ok (.iconst (-1), 1) := by decide +kernel
theorem dX5_entryOf_29 : decode cX5_entryOf 29 = .ok (.ireturn, 1) := by decide +kernel
theorem dX5_entryValue_0 : decode cX5_entryValue 0 = .ok (.aload_n 0, 1) := by decide +kernel
theorem dX5_entryValue_1 : decode cX5_entryValue 1 = .ok (.iload_n 1, 1) := by decide +kernel
theorem dX5_entryValue_2 : decode cX5_entryValue 2 = .ok (.iload_n 3, 1) := by decide +kernel
theorem dX5_entryValue_3 : decode cX5_entryValue 3 = .ok (.invokevirtual 213, 3) := by decide +kernel
theorem dX5_entryValue_6 : decode cX5_entryValue 6 = .ok (.ifCond .eq 25, 3) := by decide +kernel
theorem dX5_entryValue_9 : decode cX5_entryValue 9 = .ok (.aload_n 0, 1) := by decide +kernel
theorem dX5_entryValue_10 : decode cX5_entryValue 10 = .ok (.iload_n 2, 1) := by decide +kernel
theorem dX5_entryValue_11 : decode cX5_entryValue 11 = .ok (.invokevirtual 236, 3) := by decide +kernel
theorem dX5_entryValue_14 : decode cX5_entryValue 14 = .ok (.ifCond .eq 17, 3) := by decide +kernel
theorem dX5_entryValue_17 : decode cX5_entryValue 17 = .ok (.aload_n 0, 1) := by decide +kernel
theorem dX5_entryValue_18 : decode cX5_entryValue 18 = .ok (.aload_n 0, 1) := by decide +kernel
theorem dX5_entryValue_19 : decode cX5_entryValue 19 = .ok (.iload_n 1, 1) := by decide +kernel
theorem dX5_entryValue_20 : decode cX5_entryValue 20 = .ok (.iload_n 2, 1) := by decide +kernel
theorem dX5_entryValue_21 : decode cX5_entryValue 21 = .ok (.iload_n 3, 1) := by decide +kernel
theorem dX5_entryValue_22 : decode cX5_entryValue 22 = .ok (.invokevirtual 239, 3) := by decide +kernel
theorem dX5_entryValue_25 : decode cX5_entryValue 25 = .ok (.invokevirtual 198, 3) := by decide +kernel
theorem dX5_entryValue_28 : decode cX5_entryValue 28 = .ok (.goto 8, 3) := by decide +kernel
theorem dX5_entryValue_31 : decode cX5_entryValue 31 = .ok (.aload_n 0, 1) := by decide +kernel
theorem dX5_entryValue_32 : decode cX5_entryValue 32 = .ok (.iconst 1, 1) := by decide +kernel
theorem dX5_entryValue_33 : decode cX5_entryValue 33 = .ok (.invokevirtual 192, 3) := by decide +kernel
theorem dX5_entryValue_36 : decode cX5_entryValue 36 = .ok (.ireturn, 1) := by decide +kernel
theorem dX5_greatestValue_0 : decode cX5_greatestValue 0 = .ok (.aload_n 0, 1) := by decide +kernel
theorem dX5_greatestValue_1 : decode cX5_greatestValue 1 = .ok (.iload_n 1, 1) := by decide +kernel
theorem dX5_greatestValue_2 : decode cX5_greatestValue 2 = .ok (.invokevirtual 210, 3) := by decide +kernel
theorem dX5_greatestValue_5 : decode cX5_greatestValue 5 = .ok (.ifCond .eq 11, 3) := by decide +kernel
theorem dX5_greatestValue_8 : decode cX5_greatestValue 8 = .ok (.aload_n 0, 1) := by decide +kernel
theorem dX5_greatestValue_9 : decode cX5_greatestValue 9 = .ok (.iload_n 2, 1) := by decide +kernel
theorem dX5_greatestValue_10 : decode cX5_greatestValue 10 = .ok (.invokevirtual 236, 3) := by decide +kernel
theorem dX5_greatestValue_13 : decode cX5_greatestValue 13 = .ok (.ifCond .ne 9, 3) := by decide +kernel
theorem dX5_greatestValue_16 : decode cX5_greatestValue 16 = .ok (.aload_n 0, 1) := by decide +kernel
theorem dX5_greatestValue_17 : decode cX5_greatestValue 17 = .ok (.iconst 1, 1) := by decide +kernel
theorem dX5_greatestValue_18 : decode cX5_greatestValue 18 = .ok (.invokevirtual 192, 3) := by decide +kernel
theorem dX5_greatestValue_21 : decode cX5_greatestValue 21 = .ok (.ireturn, 1) := by decide +kernel
theorem dX5_greatestValue_22 : decode cX5_greatestValue 22 = .ok (.iconst (-1), 1) := by decide +kernel
theorem dX5_greatestValue_23 : decode cX5_greatestValue 23 = .ok (.istore_n 3, 1) := by decide +kernel
theorem dX5_greatestValue_24 : decode cX5_greatestValue 24 = .ok (.iconst 0, 1) := by decide +kernel
theorem dX5_greatestValue_25 : decode cX5_greatestValue 25 = .ok (.istore 4, 2) := by decide +kernel
theorem dX5_greatestValue_27 : decode cX5_greatestValue 27 = .ok (.iload 4, 2) := by decide +kernel
theorem dX5_greatestValue_29 : decode cX5_greatestValue 29 = .ok (.iconst 4, 1) := by decide +kernel
theorem dX5_greatestValue_30 : decode cX5_greatestValue 30 = .ok (.if_icmp .ge 32, 3) := by decide +kernel
theorem dX5_greatestValue_33 : decode cX5_greatestValue 33 = .ok (.aload_n 0, 1) := by decide +kernel
theorem dX5_greatestValue_34 : decode cX5_greatestValue 34 = .ok (.iload_n 1, 1) := by decide +kernel
theorem dX5_greatestValue_35 : decode cX5_greatestValue 35 = .ok (.iload_n 2, 1) := by decide +kernel
theorem dX5_greatestValue_36 : decode cX5_greatestValue 36 = .ok (.iload 4, 2) := by decide +kernel
theorem dX5_greatestValue_38 : decode cX5_greatestValue 38 = .ok (.invokevirtual 239, 3) := by decide +kernel
theorem dX5_greatestValue_41 : decode cX5_greatestValue 41 = .ok (.istore 5, 2) := by decide +kernel
theorem dX5_greatestValue_43 : decode cX5_greatestValue 43 = .ok (.iload 5, 2) := by decide +kernel
theorem dX5_greatestValue_45 : decode cX5_greatestValue 45 = .ok (.iload_n 3, 1) := by decide +kernel
theorem dX5_greatestValue_46 : decode cX5_greatestValue 46 = .ok (.if_icmp .le 8, 3) := by decide +kernel
theorem dX5_greatestValue_49 : decode cX5_greatestValue 49 = .ok (.iload 5, 2) := by decide +kernel
theorem dX5_greatestValue_51 : decode cX5_greatestValue 51 = .ok (.goto 4, 3) := by decide +kernel
theorem dX5_greatestValue_54 : decode cX5_greatestValue 54 = .ok (.iload_n 3, 1) := by decide +kernel
theorem dX5_greatestValue_55 : decode cX5_greatestValue 55 = .ok (.istore_n 3, 1) := by decide +kernel
theorem dX5_greatestValue_56 : decode cX5_greatestValue 56 = .ok (.iinc 4 1, 3) := by decide +kernel
theorem dX5_greatestValue_59 : decode cX5_greatestValue 59 = .ok (.goto (-32), 3) := by decide +kernel
theorem dX5_greatestValue_62 : decode cX5_greatestValue 62 = .ok (.aload_n 0, 1) := by decide +kernel
theorem dX5_greatestValue_63 : decode cX5_greatestValue 63 = .ok (.iload_n 3, 1) := by decide +kernel
theorem dX5_greatestValue_64 : decode cX5_greatestValue 64 = .ok (.invokevirtual 198, 3) := by decide +kernel
theorem dX5_greatestValue_67 : decode cX5_greatestValue 67 = .ok (.ireturn, 1) := by decide +kernel
theorem dX5_conflicts_0 : decode cX5_conflicts 0 = .ok (.aload_n 0, 1) := by decide +kernel
theorem dX5_conflicts_1 : decode cX5_conflicts 1 = .ok (.iload_n 1, 1) := by decide +kernel
theorem dX5_conflicts_2 : decode cX5_conflicts 2 = .ok (.invokevirtual 210, 3) := by decide +kernel
theorem dX5_conflicts_5 : decode cX5_conflicts 5 = .ok (.ifCond .eq 15, 3) := by decide +kernel
theorem dX5_conflicts_8 : decode cX5_conflicts 8 = .ok (.aload_n 0, 1) := by decide +kernel
theorem dX5_conflicts_9 : decode cX5_conflicts 9 = .ok (.aload_n 0, 1) := by decide +kernel
theorem dX5_conflicts_10 : decode cX5_conflicts 10 = .ok (.iload_n 1, 1) := by decide +kernel
theorem dX5_conflicts_11 : decode cX5_conflicts 11 = .ok (.invokevirtual 242, 3) := by decide +kernel
theorem dX5_conflicts_14 : decode cX5_conflicts 14 = .ok (.invokevirtual 198, 3) := by decide +kernel
theorem dX5_conflicts_17 : decode cX5_conflicts 17 = .ok (.goto 8, 3) := by decide +kernel
theorem dX5_conflicts_20 : decode cX5_conflicts 20 = .ok (.aload_n 0, 1) := by decide +kernel
theorem dX5_conflicts_21 : decode cX5_conflicts 21 = .ok (.iconst 1, 1) := by decide +kernel
theorem dX5_conflicts_22 : decode cX5_conflicts 22 = .ok (.invokevirtual 192, 3) := by decide +kernel
theorem dX5_conflicts_25 : decode cX5_conflicts 25 = .ok (.ireturn, 1) := by decide +kernel
theorem dX5_unseenDots_0 : decode cX5_unseenDots 0 = .ok (.aload_n 0, 1) := by decide +kernel
theorem dX5_unseenDots_1 : decode cX5_unseenDots 1 = .ok (.iload_n 1, 1) := by decide +kernel
theorem dX5_unseenDots_2 : decode cX5_unseenDots 2 = .ok (.iload_n 2, 1) := by decide +kernel
theorem dX5_unseenDots_3 : decode cX5_unseenDots 3 = .ok (.invokevirtual 213, 3) := by decide +kernel
theorem dX5_unseenDots_6 : decode cX5_unseenDots 6 = .ok (.ifCond .ne 9, 3) := by decide +kernel
theorem dX5_unseenDots_9 : decode cX5_unseenDots 9 = .ok (.aload_n 0, 1) := by decide +kernel
theorem dX5_unseenDots_10 : decode cX5_unseenDots 10 = .ok (.iconst 1, 1) := by decide +kernel
theorem dX5_unseenDots_11 : decode cX5_unseenDots 11 = .ok (.invokevirtual 192, 3) := by decide +kernel
theorem dX5_unseenDots_14 : decode cX5_unseenDots 14 = .ok (.ireturn, 1) := by decide +kernel
theorem dX5_unseenDots_15 : decode cX5_unseenDots 15 = .ok (.iconst 0, 1) := by decide +kernel
theorem dX5_unseenDots_16 : decode cX5_unseenDots 16 = .ok (.istore_n 3, 1) := by decide +kernel
theorem dX5_unseenDots_17 : decode cX5_unseenDots 17 = .ok (.iconst 0, 1) := by decide +kernel
theorem dX5_unseenDots_18 : decode cX5_unseenDots 18 = .ok (.istore 4, 2) := by decide +kernel
theorem dX5_unseenDots_20 : decode cX5_unseenDots 20 = .ok (.iload 4, 2) := by decide +kernel
theorem dX5_unseenDots_22 : decode cX5_unseenDots 22 = .ok (.iconst 4, 1) := by decide +kernel
theorem dX5_unseenDots_23 : decode cX5_unseenDots 23 = .ok (.if_icmp .ge 48, 3) := by decide +kernel
theorem dX5_unseenDots_26 : decode cX5_unseenDots 26 = .ok (.aload_n 0, 1) := by decide +kernel
theorem dX5_unseenDots_27 : decode cX5_unseenDots 27 = .ok (.getfield 13, 3) := by decide +kernel
theorem dX5_unseenDots_30 : decode cX5_unseenDots 30 = .ok (.iload_n 1, 1) := by decide +kernel
theorem dX5_unseenDots_31 : decode cX5_unseenDots 31 = .ok (.iload 4, 2) := by decide +kernel
theorem dX5_unseenDots_33 : decode cX5_unseenDots 33 = .ok (.invokestatic 72, 3) := by decide +kernel
theorem dX5_unseenDots_36 : decode cX5_unseenDots 36 = .ok (.iaload, 1) := by decide +kernel
theorem dX5_unseenDots_37 : decode cX5_unseenDots 37 = .ok (.aload_n 0, 1) := by decide +kernel
theorem dX5_unseenDots_38 : decode cX5_unseenDots 38 = .ok (.getfield 13, 3) := by decide +kernel
theorem dX5_unseenDots_41 : decode cX5_unseenDots 41 = .ok (.iload_n 2, 1) := by decide +kernel
theorem dX5_unseenDots_42 : decode cX5_unseenDots 42 = .ok (.iload 4, 2) := by decide +kernel
theorem dX5_unseenDots_44 : decode cX5_unseenDots 44 = .ok (.invokestatic 72, 3) := by decide +kernel
theorem dX5_unseenDots_47 : decode cX5_unseenDots 47 = .ok (.iaload, 1) := by decide +kernel
theorem dX5_unseenDots_48 : decode cX5_unseenDots 48 = .ok (.isub, 1) := by decide +kernel
theorem dX5_unseenDots_49 : decode cX5_unseenDots 49 = .ok (.istore 5, 2) := by decide +kernel
theorem dX5_unseenDots_51 : decode cX5_unseenDots 51 = .ok (.iload_n 3, 1) := by decide +kernel
theorem dX5_unseenDots_52 : decode cX5_unseenDots 52 = .ok (.iload 5, 2) := by decide +kernel
theorem dX5_unseenDots_54 : decode cX5_unseenDots 54 = .ok (.ifCond .le 8, 3) := by decide +kernel
theorem dX5_unseenDots_57 : decode cX5_unseenDots 57 = .ok (.iload 5, 2) := by decide +kernel
theorem dX5_unseenDots_59 : decode cX5_unseenDots 59 = .ok (.goto 4, 3) := by decide +kernel
theorem dX5_unseenDots_62 : decode cX5_unseenDots 62 = .ok (.iconst 0, 1) := by decide +kernel
theorem dX5_unseenDots_63 : decode cX5_unseenDots 63 = .ok (.iadd, 1) := by decide +kernel
theorem dX5_unseenDots_64 : decode cX5_unseenDots 64 = .ok (.istore_n 3, 1) := by decide +kernel
theorem dX5_unseenDots_65 : decode cX5_unseenDots 65 = .ok (.iinc 4 1, 3) := by decide +kernel
theorem dX5_unseenDots_68 : decode cX5_unseenDots 68 = .ok (.goto (-48), 3) := by decide +kernel
theorem dX5_unseenDots_71 : decode cX5_unseenDots 71 = .ok (.aload_n 0, 1) := by decide +kernel
theorem dX5_unseenDots_72 : decode cX5_unseenDots 72 = .ok (.iload_n 3, 1) := by decide +kernel
theorem dX5_unseenDots_73 : decode cX5_unseenDots 73 = .ok (.invokevirtual 198, 3) := by decide +kernel
theorem dX5_unseenDots_76 : decode cX5_unseenDots 76 = .ok (.ireturn, 1) := by decide +kernel
theorem dX5_greater_0 : decode cX5_greater 0 = .ok (.aload_n 0, 1) := by decide +kernel
theorem dX5_greater_1 : decode cX5_greater 1 = .ok (.getfield 13, 3) := by decide +kernel
theorem dX5_greater_4 : decode cX5_greater 4 = .ok (.iload_n 1, 1) := by decide +kernel
theorem dX5_greater_5 : decode cX5_greater 5 = .ok (.iaload, 1) := by decide +kernel
theorem dX5_greater_6 : decode cX5_greater 6 = .ok (.aload_n 0, 1) := by decide +kernel
theorem dX5_greater_7 : decode cX5_greater 7 = .ok (.getfield 13, 3) := by decide +kernel
theorem dX5_greater_10 : decode cX5_greater 10 = .ok (.iload_n 2, 1) := by decide +kernel
theorem dX5_greater_11 : decode cX5_greater 11 = .ok (.iaload, 1) := by decide +kernel
theorem dX5_greater_12 : decode cX5_greater 12 = .ok (.if_icmp .le 7, 3) := by decide +kernel
theorem dX5_greater_15 : decode cX5_greater 15 = .ok (.iconst 1, 1) := by decide +kernel
theorem dX5_greater_16 : decode cX5_greater 16 = .ok (.goto 4, 3) := by decide +kernel
theorem dX5_greater_19 : decode cX5_greater 19 = .ok (.iconst 0, 1) := by decide +kernel
theorem dX5_greater_20 : decode cX5_greater 20 = .ok (.ireturn, 1) := by decide +kernel
theorem dX5_deltaSize_0 : decode cX5_deltaSize 0 = .ok (.aload_n 0, 1) := by decide +kernel
theorem dX5_deltaSize_1 : decode cX5_deltaSize 1 = .ok (.iload_n 1, 1) := by decide +kernel
theorem dX5_deltaSize_2 : decode cX5_deltaSize 2 = .ok (.iload_n 2, 1) := by decide +kernel
theorem dX5_deltaSize_3 : decode cX5_deltaSize 3 = .ok (.invokevirtual 213, 3) := by decide +kernel
theorem dX5_deltaSize_6 : decode cX5_deltaSize 6 = .ok (.ifCond .ne 9, 3) := by decide +kernel
theorem dX5_deltaSize_9 : decode cX5_deltaSize 9 = .ok (.aload_n 0, 1) := by decide +kernel
theorem dX5_deltaSize_10 : decode cX5_deltaSize 10 = .ok (.iconst 1, 1) := by decide +kernel
theorem dX5_deltaSize_11 : decode cX5_deltaSize 11 = .ok (.invokevirtual 192, 3) := by decide +kernel
theorem dX5_deltaSize_14 : decode cX5_deltaSize 14 = .ok (.ireturn, 1) := by decide +kernel
theorem dX5_deltaSize_15 : decode cX5_deltaSize 15 = .ok (.iconst 0, 1) := by decide +kernel
theorem dX5_deltaSize_16 : decode cX5_deltaSize 16 = .ok (.istore_n 3, 1) := by decide +kernel
theorem dX5_deltaSize_17 : decode cX5_deltaSize 17 = .ok (.iconst 0, 1) := by decide +kernel
theorem dX5_deltaSize_18 : decode cX5_deltaSize 18 = .ok (.istore 4, 2) := by decide +kernel
theorem dX5_deltaSize_20 : decode cX5_deltaSize 20 = .ok (.iload 4, 2) := by decide +kernel
theorem dX5_deltaSize_22 : decode cX5_deltaSize 22 = .ok (.iconst 4, 1) := by decide +kernel
theorem dX5_deltaSize_23 : decode cX5_deltaSize 23 = .ok (.if_icmp .ge 162, 3) := by decide +kernel
theorem dX5_deltaSize_26 : decode cX5_deltaSize 26 = .ok (.iload_n 3, 1) := by decide +kernel
theorem dX5_deltaSize_27 : decode cX5_deltaSize 27 = .ok (.aload_n 0, 1) := by decide +kernel
theorem dX5_deltaSize_28 : decode cX5_deltaSize 28 = .ok (.iload_n 1, 1) := by decide +kernel
theorem dX5_deltaSize_29 : decode cX5_deltaSize 29 = .ok (.iload 4, 2) := by decide +kernel
theorem dX5_deltaSize_31 : decode cX5_deltaSize 31 = .ok (.invokestatic 72, 3) := by decide +kernel
theorem dX5_deltaSize_34 : decode cX5_deltaSize 34 = .ok (.iload_n 2, 1) := by decide +kernel
theorem dX5_deltaSize_35 : decode cX5_deltaSize 35 = .ok (.iload 4, 2) := by decide +kernel
theorem dX5_deltaSize_37 : decode cX5_deltaSize 37 = .ok (.invokestatic 72, 3) := by decide +kernel
theorem dX5_deltaSize_40 : decode cX5_deltaSize 40 = .ok (.invokevirtual 245, 3) := by decide +kernel
theorem dX5_deltaSize_43 : decode cX5_deltaSize 43 = .ok (.iadd, 1) := by decide +kernel
theorem dX5_deltaSize_44 : decode cX5_deltaSize 44 = .ok (.istore_n 3, 1) := by decide +kernel
theorem dX5_deltaSize_45 : decode cX5_deltaSize 45 = .ok (.iconst 0, 1) := by decide +kernel
theorem dX5_deltaSize_46 : decode cX5_deltaSize 46 = .ok (.istore 5, 2) := by decide +kernel
theorem dX5_deltaSize_48 : decode cX5_deltaSize 48 = .ok (.iload 5, 2) := by decide +kernel
theorem dX5_deltaSize_50 : decode cX5_deltaSize 50 = .ok (.iconst 4, 1) := by decide +kernel
theorem dX5_deltaSize_51 : decode cX5_deltaSize 51 = .ok (.if_icmp .ge 55, 3) := by decide +kernel
theorem dX5_deltaSize_54 : decode cX5_deltaSize 54 = .ok (.iload_n 3, 1) := by decide +kernel
theorem dX5_deltaSize_55 : decode cX5_deltaSize 55 = .ok (.aload_n 0, 1) := by decide +kernel
theorem dX5_deltaSize_56 : decode cX5_deltaSize 56 = .ok (.iload_n 1, 1) := by decide +kernel
theorem dX5_deltaSize_57 : decode cX5_deltaSize 57 = .ok (.iload 5, 2) := by decide +kernel
theorem dX5_deltaSize_59 : decode cX5_deltaSize 59 = .ok (.iload 4, 2) := by decide +kernel
theorem dX5_deltaSize_61 : decode cX5_deltaSize 61 = .ok (.invokestatic 36, 3) := by decide +kernel
theorem dX5_deltaSize_64 : decode cX5_deltaSize 64 = .ok (.iload_n 2, 1) := by decide +kernel
theorem dX5_deltaSize_65 : decode cX5_deltaSize 65 = .ok (.iload 5, 2) := by decide +kernel
theorem dX5_deltaSize_67 : decode cX5_deltaSize 67 = .ok (.iload 4, 2) := by decide +kernel
theorem dX5_deltaSize_69 : decode cX5_deltaSize 69 = .ok (.invokestatic 36, 3) := by decide +kernel
theorem dX5_deltaSize_72 : decode cX5_deltaSize 72 = .ok (.invokevirtual 245, 3) := by decide +kernel
theorem dX5_deltaSize_75 : decode cX5_deltaSize 75 = .ok (.iadd, 1) := by decide +kernel
theorem dX5_deltaSize_76 : decode cX5_deltaSize 76 = .ok (.istore_n 3, 1) := by decide +kernel
theorem dX5_deltaSize_77 : decode cX5_deltaSize 77 = .ok (.iload_n 3, 1) := by decide +kernel
theorem dX5_deltaSize_78 : decode cX5_deltaSize 78 = .ok (.aload_n 0, 1) := by decide +kernel
theorem dX5_deltaSize_79 : decode cX5_deltaSize 79 = .ok (.iload_n 1, 1) := by decide +kernel
theorem dX5_deltaSize_80 : decode cX5_deltaSize 80 = .ok (.iload 5, 2) := by decide +kernel
theorem dX5_deltaSize_82 : decode cX5_deltaSize 82 = .ok (.iload 4, 2) := by decide +kernel
theorem dX5_deltaSize_84 : decode cX5_deltaSize 84 = .ok (.invokestatic 40, 3) := by decide +kernel
theorem dX5_deltaSize_87 : decode cX5_deltaSize 87 = .ok (.iload_n 2, 1) := by decide +kernel
theorem dX5_deltaSize_88 : decode cX5_deltaSize 88 = .ok (.iload 5, 2) := by decide +kernel
theorem dX5_deltaSize_90 : decode cX5_deltaSize 90 = .ok (.iload 4, 2) := by decide +kernel
theorem dX5_deltaSize_92 : decode cX5_deltaSize 92 = .ok (.invokestatic 40, 3) := by decide +kernel
theorem dX5_deltaSize_95 : decode cX5_deltaSize 95 = .ok (.invokevirtual 245, 3) := by decide +kernel
theorem dX5_deltaSize_98 : decode cX5_deltaSize 98 = .ok (.iadd, 1) := by decide +kernel
theorem dX5_deltaSize_99 : decode cX5_deltaSize 99 = .ok (.istore_n 3, 1) := by decide +kernel
theorem dX5_deltaSize_100 : decode cX5_deltaSize 100 = .ok (.iinc 5 1, 3) := by decide +kernel
theorem dX5_deltaSize_103 : decode cX5_deltaSize 103 = .ok (.goto (-55), 3) := by decide +kernel
theorem dX5_deltaSize_106 : decode cX5_deltaSize 106 = .ok (.iconst 0, 1) := by decide +kernel
theorem dX5_deltaSize_107 : decode cX5_deltaSize 107 = .ok (.istore 5, 2) := by decide +kernel
theorem dX5_deltaSize_109 : decode cX5_deltaSize 109 = .ok (.iload 5, 2) := by decide +kernel
theorem dX5_deltaSize_111 : decode cX5_deltaSize 111 = .ok (.bipush 16, 2) := by decide +kernel
theorem dX5_deltaSize_113 : decode cX5_deltaSize 113 = .ok (.if_icmp .ge 30, 3) := by decide +kernel
theorem dX5_deltaSize_116 : decode cX5_deltaSize 116 = .ok (.iload_n 3, 1) := by decide +kernel
theorem dX5_deltaSize_117 : decode cX5_deltaSize 117 = .ok (.aload_n 0, 1) := by decide +kernel
theorem dX5_deltaSize_118 : decode cX5_deltaSize 118 = .ok (.iload_n 1, 1) := by decide +kernel
theorem dX5_deltaSize_119 : decode cX5_deltaSize 119 = .ok (.iload 5, 2) := by decide +kernel
theorem dX5_deltaSize_121 : decode cX5_deltaSize 121 = .ok (.iload 4, 2) := by decide +kernel
theorem dX5_deltaSize_123 : decode cX5_deltaSize 123 = .ok (.invokestatic 75, 3) := by decide +kernel
theorem dX5_deltaSize_126 : decode cX5_deltaSize 126 = .ok (.iload_n 2, 1) := by decide +kernel
theorem dX5_deltaSize_127 : decode cX5_deltaSize 127 = .ok (.iload 4, 2) := by decide +kernel
theorem dX5_deltaSize_129 : decode cX5_deltaSize 129 = .ok (.invokestatic 72, 3) := by decide +kernel
theorem dX5_deltaSize_132 : decode cX5_deltaSize 132 = .ok (.invokevirtual 245, 3) := by decide +kernel
theorem dX5_deltaSize_135 : decode cX5_deltaSize 135 = .ok (.iadd, 1) := by decide +kernel
theorem dX5_deltaSize_136 : decode cX5_deltaSize 136 = .ok (.istore_n 3, 1) := by decide +kernel
theorem dX5_deltaSize_137 : decode cX5_deltaSize 137 = .ok (.iinc 5 1, 3) := by decide +kernel
theorem dX5_deltaSize_140 : decode cX5_deltaSize 140 = .ok (.goto (-31), 3) := by decide +kernel
theorem dX5_deltaSize_143 : decode cX5_deltaSize 143 = .ok (.iconst 0, 1) := by decide +kernel
theorem dX5_deltaSize_144 : decode cX5_deltaSize 144 = .ok (.istore 5, 2) := by decide +kernel
theorem dX5_deltaSize_146 : decode cX5_deltaSize 146 = .ok (.iload 5, 2) := by decide +kernel
theorem dX5_deltaSize_148 : decode cX5_deltaSize 148 = .ok (.iconst 4, 1) := by decide +kernel
theorem dX5_deltaSize_149 : decode cX5_deltaSize 149 = .ok (.if_icmp .ge 30, 3) := by decide +kernel
theorem dX5_deltaSize_152 : decode cX5_deltaSize 152 = .ok (.iload_n 3, 1) := by decide +kernel
theorem dX5_deltaSize_153 : decode cX5_deltaSize 153 = .ok (.aload_n 0, 1) := by decide +kernel
theorem dX5_deltaSize_154 : decode cX5_deltaSize 154 = .ok (.iload_n 1, 1) := by decide +kernel
theorem dX5_deltaSize_155 : decode cX5_deltaSize 155 = .ok (.iload 5, 2) := by decide +kernel
theorem dX5_deltaSize_157 : decode cX5_deltaSize 157 = .ok (.iload 4, 2) := by decide +kernel
theorem dX5_deltaSize_159 : decode cX5_deltaSize 159 = .ok (.invokestatic 84, 3) := by decide +kernel
theorem dX5_deltaSize_162 : decode cX5_deltaSize 162 = .ok (.iload_n 2, 1) := by decide +kernel
theorem dX5_deltaSize_163 : decode cX5_deltaSize 163 = .ok (.iload 4, 2) := by decide +kernel
theorem dX5_deltaSize_165 : decode cX5_deltaSize 165 = .ok (.invokestatic 72, 3) := by decide +kernel
theorem dX5_deltaSize_168 : decode cX5_deltaSize 168 = .ok (.invokevirtual 245, 3) := by decide +kernel
theorem dX5_deltaSize_171 : decode cX5_deltaSize 171 = .ok (.iadd, 1) := by decide +kernel
theorem dX5_deltaSize_172 : decode cX5_deltaSize 172 = .ok (.istore_n 3, 1) := by decide +kernel
theorem dX5_deltaSize_173 : decode cX5_deltaSize 173 = .ok (.iinc 5 1, 3) := by decide +kernel
theorem dX5_deltaSize_176 : decode cX5_deltaSize 176 = .ok (.goto (-30), 3) := by decide +kernel
theorem dX5_deltaSize_179 : decode cX5_deltaSize 179 = .ok (.iinc 4 1, 3) := by decide +kernel
theorem dX5_deltaSize_182 : decode cX5_deltaSize 182 = .ok (.goto (-162), 3) := by decide +kernel
theorem dX5_deltaSize_185 : decode cX5_deltaSize 185 = .ok (.aload_n 0, 1) := by decide +kernel
theorem dX5_deltaSize_186 : decode cX5_deltaSize 186 = .ok (.iload_n 3, 1) := by decide +kernel
theorem dX5_deltaSize_187 : decode cX5_deltaSize 187 = .ok (.invokevirtual 198, 3) := by decide +kernel
theorem dX5_deltaSize_190 : decode cX5_deltaSize 190 = .ok (.ireturn, 1) := by decide +kernel
theorem dX5_tagsOnlyIn_0 : decode cX5_tagsOnlyIn 0 = .ok (.iconst 0, 1) := by decide +kernel
theorem dX5_tagsOnlyIn_1 : decode cX5_tagsOnlyIn 1 = .ok (.istore_n 3, 1) := by decide +kernel
theorem dX5_tagsOnlyIn_2 : decode cX5_tagsOnlyIn 2 = .ok (.iconst 0, 1) := by decide +kernel
theorem dX5_tagsOnlyIn_3 : decode cX5_tagsOnlyIn 3 = .ok (.istore 4, 2) := by decide +kernel
theorem dX5_tagsOnlyIn_5 : decode cX5_tagsOnlyIn 5 = .ok (.iload 4, 2) := by decide +kernel
theorem dX5_tagsOnlyIn_7 : decode cX5_tagsOnlyIn 7 = .ok (.bipush 16, 2) := by decide +kernel
theorem dX5_tagsOnlyIn_9 : decode cX5_tagsOnlyIn 9 = .ok (.if_icmp .ge 37, 3) := by decide +kernel
theorem dX5_tagsOnlyIn_12 : decode cX5_tagsOnlyIn 12 = .ok (.iload_n 3, 1) := by decide +kernel
theorem dX5_tagsOnlyIn_13 : decode cX5_tagsOnlyIn 13 = .ok (.aload_n 0, 1) := by decide +kernel
theorem dX5_tagsOnlyIn_14 : decode cX5_tagsOnlyIn 14 = .ok (.iload_n 1, 1) := by decide +kernel
theorem dX5_tagsOnlyIn_15 : decode cX5_tagsOnlyIn 15 = .ok (.iload 4, 2) := by decide +kernel
theorem dX5_tagsOnlyIn_17 : decode cX5_tagsOnlyIn 17 = .ok (.invokevirtual 78, 3) := by decide +kernel
theorem dX5_tagsOnlyIn_20 : decode cX5_tagsOnlyIn 20 = .ok (.ifCond .le 17, 3) := by decide +kernel
theorem dX5_tagsOnlyIn_23 : decode cX5_tagsOnlyIn 23 = .ok (.aload_n 0, 1) := by decide +kernel
theorem dX5_tagsOnlyIn_24 : decode cX5_tagsOnlyIn 24 = .ok (.iload_n 2, 1) := by decide +kernel
theorem dX5_tagsOnlyIn_25 : decode cX5_tagsOnlyIn 25 = .ok (.iload 4, 2) := by decide +kernel
theorem dX5_tagsOnlyIn_27 : decode cX5_tagsOnlyIn 27 = .ok (.invokevirtual 78, 3) := by decide +kernel
theorem dX5_tagsOnlyIn_30 : decode cX5_tagsOnlyIn 30 = .ok (.ifCond .ne 7, 3) := by decide +kernel
theorem dX5_tagsOnlyIn_33 : decode cX5_tagsOnlyIn 33 = .ok (.iconst 1, 1) := by decide +kernel
theorem dX5_tagsOnlyIn_34 : decode cX5_tagsOnlyIn 34 = .ok (.goto 4, 3) := by decide +kernel
theorem dX5_tagsOnlyIn_37 : decode cX5_tagsOnlyIn 37 = .ok (.iconst 0, 1) := by decide +kernel
theorem dX5_tagsOnlyIn_38 : decode cX5_tagsOnlyIn 38 = .ok (.iadd, 1) := by decide +kernel
theorem dX5_tagsOnlyIn_39 : decode cX5_tagsOnlyIn 39 = .ok (.istore_n 3, 1) := by decide +kernel
theorem dX5_tagsOnlyIn_40 : decode cX5_tagsOnlyIn 40 = .ok (.iinc 4 1, 3) := by decide +kernel
theorem dX5_tagsOnlyIn_43 : decode cX5_tagsOnlyIn 43 = .ok (.goto (-38), 3) := by decide +kernel
theorem dX5_tagsOnlyIn_46 : decode cX5_tagsOnlyIn 46 = .ok (.iload_n 3, 1) := by decide +kernel
theorem dX5_tagsOnlyIn_47 : decode cX5_tagsOnlyIn 47 = .ok (.ireturn, 1) := by decide +kernel
theorem dX5_tagsGained_0 : decode cX5_tagsGained 0 = .ok (.aload_n 0, 1) := by decide +kernel
theorem dX5_tagsGained_1 : decode cX5_tagsGained 1 = .ok (.iload_n 1, 1) := by decide +kernel
theorem dX5_tagsGained_2 : decode cX5_tagsGained 2 = .ok (.iload_n 2, 1) := by decide +kernel
theorem dX5_tagsGained_3 : decode cX5_tagsGained 3 = .ok (.invokevirtual 213, 3) := by decide +kernel
theorem dX5_tagsGained_6 : decode cX5_tagsGained 6 = .ok (.ifCond .ne 9, 3) := by decide +kernel
theorem dX5_tagsGained_9 : decode cX5_tagsGained 9 = .ok (.aload_n 0, 1) := by decide +kernel
theorem dX5_tagsGained_10 : decode cX5_tagsGained 10 = .ok (.iconst 1, 1) := by decide +kernel
theorem dX5_tagsGained_11 : decode cX5_tagsGained 11 = .ok (.invokevirtual 192, 3) := by decide +kernel
theorem dX5_tagsGained_14 : decode cX5_tagsGained 14 = .ok (.ireturn, 1) := by decide +kernel
theorem dX5_tagsGained_15 : decode cX5_tagsGained 15 = .ok (.aload_n 0, 1) := by decide +kernel
theorem dX5_tagsGained_16 : decode cX5_tagsGained 16 = .ok (.bipush 10, 2) := by decide +kernel
theorem dX5_tagsGained_18 : decode cX5_tagsGained 18 = .ok (.iload_n 1, 1) := by decide +kernel
theorem dX5_tagsGained_19 : decode cX5_tagsGained 19 = .ok (.invokevirtual 104, 3) := by decide +kernel
theorem dX5_tagsGained_22 : decode cX5_tagsGained 22 = .ok (.aload_n 0, 1) := by decide +kernel
theorem dX5_tagsGained_23 : decode cX5_tagsGained 23 = .ok (.bipush 10, 2) := by decide +kernel
theorem dX5_tagsGained_25 : decode cX5_tagsGained 25 = .ok (.iload_n 2, 1) := by decide +kernel
theorem dX5_tagsGained_26 : decode cX5_tagsGained 26 = .ok (.invokevirtual 51, 3) := by decide +kernel
theorem dX5_tagsGained_29 : decode cX5_tagsGained 29 = .ok (.aload_n 0, 1) := by decide +kernel
theorem dX5_tagsGained_30 : decode cX5_tagsGained 30 = .ok (.aload_n 0, 1) := by decide +kernel
theorem dX5_tagsGained_31 : decode cX5_tagsGained 31 = .ok (.bipush 10, 2) := by decide +kernel
theorem dX5_tagsGained_33 : decode cX5_tagsGained 33 = .ok (.iload_n 1, 1) := by decide +kernel
theorem dX5_tagsGained_34 : decode cX5_tagsGained 34 = .ok (.invokevirtual 248, 3) := by decide +kernel
theorem dX5_tagsGained_37 : decode cX5_tagsGained 37 = .ok (.invokevirtual 198, 3) := by decide +kernel
theorem dX5_tagsGained_40 : decode cX5_tagsGained 40 = .ok (.ireturn, 1) := by decide +kernel
theorem dX5_tagsLost_0 : decode cX5_tagsLost 0 = .ok (.aload_n 0, 1) := by decide +kernel
theorem dX5_tagsLost_1 : decode cX5_tagsLost 1 = .ok (.iload_n 1, 1) := by decide +kernel
theorem dX5_tagsLost_2 : decode cX5_tagsLost 2 = .ok (.iload_n 2, 1) := by decide +kernel
theorem dX5_tagsLost_3 : decode cX5_tagsLost 3 = .ok (.invokevirtual 213, 3) := by decide +kernel
theorem dX5_tagsLost_6 : decode cX5_tagsLost 6 = .ok (.ifCond .ne 9, 3) := by decide +kernel
theorem dX5_tagsLost_9 : decode cX5_tagsLost 9 = .ok (.aload_n 0, 1) := by decide +kernel
theorem dX5_tagsLost_10 : decode cX5_tagsLost 10 = .ok (.iconst 1, 1) := by decide +kernel
theorem dX5_tagsLost_11 : decode cX5_tagsLost 11 = .ok (.invokevirtual 192, 3) := by decide +kernel
theorem dX5_tagsLost_14 : decode cX5_tagsLost 14 = .ok (.ireturn, 1) := by decide +kernel
theorem dX5_tagsLost_15 : decode cX5_tagsLost 15 = .ok (.aload_n 0, 1) := by decide +kernel
theorem dX5_tagsLost_16 : decode cX5_tagsLost 16 = .ok (.bipush 10, 2) := by decide +kernel
theorem dX5_tagsLost_18 : decode cX5_tagsLost 18 = .ok (.iload_n 1, 1) := by decide +kernel
theorem dX5_tagsLost_19 : decode cX5_tagsLost 19 = .ok (.invokevirtual 104, 3) := by decide +kernel
theorem dX5_tagsLost_22 : decode cX5_tagsLost 22 = .ok (.aload_n 0, 1) := by decide +kernel
theorem dX5_tagsLost_23 : decode cX5_tagsLost 23 = .ok (.bipush 10, 2) := by decide +kernel
theorem dX5_tagsLost_25 : decode cX5_tagsLost 25 = .ok (.iload_n 2, 1) := by decide +kernel
theorem dX5_tagsLost_26 : decode cX5_tagsLost 26 = .ok (.invokevirtual 51, 3) := by decide +kernel
theorem dX5_tagsLost_29 : decode cX5_tagsLost 29 = .ok (.aload_n 0, 1) := by decide +kernel
theorem dX5_tagsLost_30 : decode cX5_tagsLost 30 = .ok (.aload_n 0, 1) := by decide +kernel
theorem dX5_tagsLost_31 : decode cX5_tagsLost 31 = .ok (.iload_n 1, 1) := by decide +kernel
theorem dX5_tagsLost_32 : decode cX5_tagsLost 32 = .ok (.bipush 10, 2) := by decide +kernel
theorem dX5_tagsLost_34 : decode cX5_tagsLost 34 = .ok (.invokevirtual 248, 3) := by decide +kernel
theorem dX5_tagsLost_37 : decode cX5_tagsLost 37 = .ok (.invokevirtual 198, 3) := by decide +kernel
theorem dX5_tagsLost_40 : decode cX5_tagsLost 40 = .ok (.ireturn, 1) := by decide +kernel
theorem dX5_mergedValue_0 : decode cX5_mergedValue 0 = .ok (.aload_n 0, 1) := by decide +kernel
theorem dX5_mergedValue_1 : decode cX5_mergedValue 1 = .ok (.iload_n 1, 1) := by decide +kernel
theorem dX5_mergedValue_2 : decode cX5_mergedValue 2 = .ok (.invokevirtual 224, 3) := by decide +kernel
theorem dX5_mergedValue_5 : decode cX5_mergedValue 5 = .ok (.ifCond .ne 9, 3) := by decide +kernel
theorem dX5_mergedValue_8 : decode cX5_mergedValue 8 = .ok (.aload_n 0, 1) := by decide +kernel
theorem dX5_mergedValue_9 : decode cX5_mergedValue 9 = .ok (.iconst 1, 1) := by decide +kernel
theorem dX5_mergedValue_10 : decode cX5_mergedValue 10 = .ok (.invokevirtual 192, 3) := by decide +kernel
theorem dX5_mergedValue_13 : decode cX5_mergedValue 13 = .ok (.ireturn, 1) := by decide +kernel
theorem dX5_mergedValue_14 : decode cX5_mergedValue 14 = .ok (.aload_n 0, 1) := by decide +kernel
theorem dX5_mergedValue_15 : decode cX5_mergedValue 15 = .ok (.invokevirtual 251, 3) := by decide +kernel
theorem dX5_mergedValue_18 : decode cX5_mergedValue 18 = .ok (.aload_n 0, 1) := by decide +kernel
theorem dX5_mergedValue_19 : decode cX5_mergedValue 19 = .ok (.aload_n 0, 1) := by decide +kernel
theorem dX5_mergedValue_20 : decode cX5_mergedValue 20 = .ok (.bipush 10, 2) := by decide +kernel
theorem dX5_mergedValue_22 : decode cX5_mergedValue 22 = .ok (.iload_n 1, 1) := by decide +kernel
theorem dX5_mergedValue_23 : decode cX5_mergedValue 23 = .ok (.invokevirtual 227, 3) := by decide +kernel
theorem dX5_mergedValue_26 : decode cX5_mergedValue 26 = .ok (.invokevirtual 198, 3) := by decide +kernel
theorem dX5_mergedValue_29 : decode cX5_mergedValue 29 = .ok (.ireturn, 1) := by decide +kernel
theorem dX5_mergedTags_0 : decode cX5_mergedTags 0 = .ok (.aload_n 0, 1) := by decide +kernel
theorem dX5_mergedTags_1 : decode cX5_mergedTags 1 = .ok (.invokevirtual 251, 3) := by decide +kernel
theorem dX5_mergedTags_4 : decode cX5_mergedTags 4 = .ok (.aload_n 0, 1) := by decide +kernel
theorem dX5_mergedTags_5 : decode cX5_mergedTags 5 = .ok (.aload_n 0, 1) := by decide +kernel
theorem dX5_mergedTags_6 : decode cX5_mergedTags 6 = .ok (.bipush 10, 2) := by decide +kernel
theorem dX5_mergedTags_8 : decode cX5_mergedTags 8 = .ok (.invokevirtual 233, 3) := by decide +kernel
theorem dX5_mergedTags_11 : decode cX5_mergedTags 11 = .ok (.invokevirtual 198, 3) := by decide +kernel
theorem dX5_mergedTags_14 : decode cX5_mergedTags 14 = .ok (.ireturn, 1) := by decide +kernel
theorem dX5_mergedConflicts_0 : decode cX5_mergedConflicts 0 = .ok (.aload_n 0, 1) := by decide +kernel
theorem dX5_mergedConflicts_1 : decode cX5_mergedConflicts 1 = .ok (.invokevirtual 251, 3) := by decide +kernel
theorem dX5_mergedConflicts_4 : decode cX5_mergedConflicts 4 = .ok (.aload_n 0, 1) := by decide +kernel
theorem dX5_mergedConflicts_5 : decode cX5_mergedConflicts 5 = .ok (.aload_n 0, 1) := by decide +kernel
theorem dX5_mergedConflicts_6 : decode cX5_mergedConflicts 6 = .ok (.bipush 10, 2) := by decide +kernel
theorem dX5_mergedConflicts_8 : decode cX5_mergedConflicts 8 = .ok (.invokevirtual 242, 3) := by decide +kernel
theorem dX5_mergedConflicts_11 : decode cX5_mergedConflicts 11 = .ok (.invokevirtual 198, 3) := by decide +kernel
theorem dX5_mergedConflicts_14 : decode cX5_mergedConflicts 14 = .ok (.ireturn, 1) := by decide +kernel
theorem dX5_convergenceErrors_0 : decode cX5_convergenceErrors 0 = .ok (.aload_n 0, 1) := by decide +kernel
theorem dX5_convergenceErrors_1 : decode cX5_convergenceErrors 1 = .ok (.invokevirtual 251, 3) := by decide +kernel
theorem dX5_convergenceErrors_4 : decode cX5_convergenceErrors 4 = .ok (.aload_n 0, 1) := by decide +kernel
theorem dX5_convergenceErrors_5 : decode cX5_convergenceErrors 5 = .ok (.invokevirtual 254, 3) := by decide +kernel
theorem dX5_convergenceErrors_8 : decode cX5_convergenceErrors 8 = .ok (.aload_n 0, 1) := by decide +kernel
theorem dX5_convergenceErrors_9 : decode cX5_convergenceErrors 9 = .ok (.aload_n 0, 1) := by decide +kernel
theorem dX5_convergenceErrors_10 : decode cX5_convergenceErrors 10 = .ok (.bipush 10, 2) := by decide +kernel
theorem dX5_convergenceErrors_12 : decode cX5_convergenceErrors 12 = .ok (.bipush 11, 2) := by decide +kernel
theorem dX5_convergenceErrors_14 : decode cX5_convergenceErrors 14 = .ok (.invokevirtual 107, 3) := by decide +kernel
theorem dX5_convergenceErrors_17 : decode cX5_convergenceErrors 17 = .ok (.ifCond .eq 7, 3) := by decide +kernel
theorem dX5_convergenceErrors_20 : decode cX5_convergenceErrors 20 = .ok (.iconst 0, 1) := by decide +kernel
theorem dX5_convergenceErrors_21 : decode cX5_convergenceErrors 21 = .ok (.goto 4, 3) := by decide +kernel
theorem dX5_convergenceErrors_24 : decode cX5_convergenceErrors 24 = .ok (.iconst 1, 1) := by decide +kernel
theorem dX5_convergenceErrors_25 : decode cX5_convergenceErrors 25 = .ok (.invokevirtual 198, 3) := by decide +kernel
theorem dX5_convergenceErrors_28 : decode cX5_convergenceErrors 28 = .ok (.ireturn, 1) := by decide +kernel
theorem dX5_meanTags_0 : decode cX5_meanTags 0 = .ok (.aload_n 0, 1) := by decide +kernel
theorem dX5_meanTags_1 : decode cX5_meanTags 1 = .ok (.iconst 0, 1) := by decide +kernel
theorem dX5_meanTags_2 : decode cX5_meanTags 2 = .ok (.putfield 61, 3) := by decide +kernel
theorem dX5_meanTags_5 : decode cX5_meanTags 5 = .ok (.iconst 0, 1) := by decide +kernel
theorem dX5_meanTags_6 : decode cX5_meanTags 6 = .ok (.istore_n 1, 1) := by decide +kernel
theorem dX5_meanTags_7 : decode cX5_meanTags 7 = .ok (.iconst 0, 1) := by decide +kernel
theorem dX5_meanTags_8 : decode cX5_meanTags 8 = .ok (.istore_n 2, 1) := by decide +kernel
theorem dX5_meanTags_9 : decode cX5_meanTags 9 = .ok (.iload_n 2, 1) := by decide +kernel
theorem dX5_meanTags_10 : decode cX5_meanTags 10 = .ok (.aload_n 0, 1) := by decide +kernel
theorem dX5_meanTags_11 : decode cX5_meanTags 11 = .ok (.getfield 13, 3) := by decide +kernel
theorem dX5_meanTags_14 : decode cX5_meanTags 14 = .ok (.iconst 0, 1) := by decide +kernel
theorem dX5_meanTags_15 : decode cX5_meanTags 15 = .ok (.iaload, 1) := by decide +kernel
theorem dX5_meanTags_16 : decode cX5_meanTags 16 = .ok (.if_icmp .ge 17, 3) := by decide +kernel
theorem dX5_meanTags_19 : decode cX5_meanTags 19 = .ok (.iload_n 1, 1) := by decide +kernel
theorem dX5_meanTags_20 : decode cX5_meanTags 20 = .ok (.aload_n 0, 1) := by decide +kernel
theorem dX5_meanTags_21 : decode cX5_meanTags 21 = .ok (.iload_n 2, 1) := by decide +kernel
theorem dX5_meanTags_22 : decode cX5_meanTags 22 = .ok (.invokevirtual 233, 3) := by decide +kernel
theorem dX5_meanTags_25 : decode cX5_meanTags 25 = .ok (.iadd, 1) := by decide +kernel
theorem dX5_meanTags_26 : decode cX5_meanTags 26 = .ok (.istore_n 1, 1) := by decide +kernel
theorem dX5_meanTags_27 : decode cX5_meanTags 27 = .ok (.iinc 2 1, 3) := by decide +kernel
theorem dX5_meanTags_30 : decode cX5_meanTags 30 = .ok (.goto (-21), 3) := by decide +kernel
theorem dX5_meanTags_33 : decode cX5_meanTags 33 = .ok (.iload_n 1, 1) := by decide +kernel
theorem dX5_meanTags_34 : decode cX5_meanTags 34 = .ok (.i2d, 1) := by decide +kernel
theorem dX5_meanTags_35 : decode cX5_meanTags 35 = .ok (.aload_n 0, 1) := by decide +kernel
theorem dX5_meanTags_36 : decode cX5_meanTags 36 = .ok (.getfield 13, 3) := by decide +kernel
theorem dX5_meanTags_39 : decode cX5_meanTags 39 = .ok (.iconst 0, 1) := by decide +kernel
theorem dX5_meanTags_40 : decode cX5_meanTags 40 = .ok (.iaload, 1) := by decide +kernel
theorem dX5_meanTags_41 : decode cX5_meanTags 41 = .ok (.i2d, 1) := by decide +kernel
theorem dX5_meanTags_42 : decode cX5_meanTags 42 = .ok (.ddiv, 1) := by decide +kernel
theorem dX5_meanTags_43 : decode cX5_meanTags 43 = .ok (.dreturn, 1) := by decide +kernel
theorem dX5_completeShare_0 : decode cX5_completeShare 0 = .ok (.aload_n 0, 1) := by decide +kernel
theorem dX5_completeShare_1 : decode cX5_completeShare 1 = .ok (.iconst 0, 1) := by decide +kernel
theorem dX5_completeShare_2 : decode cX5_completeShare 2 = .ok (.putfield 61, 3) := by decide +kernel
theorem dX5_completeShare_5 : decode cX5_completeShare 5 = .ok (.iconst 0, 1) := by decide +kernel
theorem dX5_completeShare_6 : decode cX5_completeShare 6 = .ok (.istore_n 1, 1) := by decide +kernel
theorem dX5_completeShare_7 : decode cX5_completeShare 7 = .ok (.iconst 0, 1) := by decide +kernel
theorem dX5_completeShare_8 : decode cX5_completeShare 8 = .ok (.istore_n 2, 1) := by decide +kernel
theorem dX5_completeShare_9 : decode cX5_completeShare 9 = .ok (.iload_n 2, 1) := by decide +kernel
theorem dX5_completeShare_10 : decode cX5_completeShare 10 = .ok (.aload_n 0, 1) := by decide +kernel
theorem dX5_completeShare_11 : decode cX5_completeShare 11 = .ok (.getfield 13, 3) := by decide +kernel
theorem dX5_completeShare_14 : decode cX5_completeShare 14 = .ok (.iconst 0, 1) := by decide +kernel
theorem dX5_completeShare_15 : decode cX5_completeShare 15 = .ok (.iaload, 1) := by decide +kernel
theorem dX5_completeShare_16 : decode cX5_completeShare 16 = .ok (.if_icmp .ge 63, 3) := by decide +kernel
theorem dX5_completeShare_19 : decode cX5_completeShare 19 = .ok (.iconst 1, 1) := by decide +kernel
theorem dX5_completeShare_20 : decode cX5_completeShare 20 = .ok (.istore_n 3, 1) := by decide +kernel
theorem dX5_completeShare_21 : decode cX5_completeShare 21 = .ok (.iconst 0, 1) := by decide +kernel
theorem dX5_completeShare_22 : decode cX5_completeShare 22 = .ok (.istore 4, 2) := by decide +kernel
theorem dX5_completeShare_24 : decode cX5_completeShare 24 = .ok (.iload 4, 2) := by decide +kernel
theorem dX5_completeShare_26 : decode cX5_completeShare 26 = .ok (.aload_n 0, 1) := by decide +kernel
theorem dX5_completeShare_27 : decode cX5_completeShare 27 = .ok (.getfield 13, 3) := by decide +kernel
theorem dX5_completeShare_30 : decode cX5_completeShare 30 = .ok (.iconst 0, 1) := by decide +kernel
theorem dX5_completeShare_31 : decode cX5_completeShare 31 = .ok (.iaload, 1) := by decide +kernel
theorem dX5_completeShare_32 : decode cX5_completeShare 32 = .ok (.if_icmp .ge 29, 3) := by decide +kernel
theorem dX5_completeShare_35 : decode cX5_completeShare 35 = .ok (.iload_n 3, 1) := by decide +kernel
theorem dX5_completeShare_36 : decode cX5_completeShare 36 = .ok (.ifCond .eq 17, 3) := by decide +kernel
theorem dX5_completeShare_39 : decode cX5_completeShare 39 = .ok (.aload_n 0, 1) := by decide +kernel
theorem dX5_completeShare_40 : decode cX5_completeShare 40 = .ok (.iload 4, 2) := by decide +kernel
