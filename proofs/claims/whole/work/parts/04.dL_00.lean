/-! what each instruction decodes to, as printed -/
theorem dL_append_0 : decode cL_append 0 = .ok (.aload 6, 2) := by decide +kernel
theorem dL_append_2 : decode cL_append 2 = .ok (.iconst 0, 1) := by decide +kernel
theorem dL_append_3 : decode cL_append 3 = .ok (.aload_n 0, 1) := by decide +kernel
theorem dL_append_4 : decode cL_append 4 = .ok (.iload_n 1, 1) := by decide +kernel
theorem dL_append_5 : decode cL_append 5 = .ok (.iload_n 2, 1) := by decide +kernel
theorem dL_append_6 : decode cL_append 6 = .ok (.iload_n 3, 1) := by decide +kernel
theorem dL_append_7 : decode cL_append 7 = .ok (.iload 4, 2) := by decide +kernel
theorem dL_append_9 : decode cL_append 9 = .ok (.iload 5, 2) := by decide +kernel
theorem dL_append_11 : decode cL_append 11 = .ok (.invokevirtual 7, 3) := by decide +kernel
theorem dL_append_14 : decode cL_append 14 = .ok (.i2l, 1) := by decide +kernel
theorem dL_append_15 : decode cL_append 15 = .ok (.lastore, 1) := by decide +kernel
theorem dL_append_16 : decode cL_append 16 = .ok (.goto 7, 3) := by decide +kernel
theorem dL_append_19 : decode cL_append 19 = .ok (.astore 7, 2) := by decide +kernel
theorem dL_append_21 : decode cL_append 21 = .ok (.iconst 1, 1) := by decide +kernel
theorem dL_append_22 : decode cL_append 22 = .ok (.ireturn, 1) := by decide +kernel
theorem dL_append_23 : decode cL_append 23 = .ok (.iconst 0, 1) := by decide +kernel
theorem dL_append_24 : decode cL_append 24 = .ok (.ireturn, 1) := by decide +kernel
theorem dL_load_0 : decode cL_load 0 = .ok (.aload_n 2, 1) := by decide +kernel
theorem dL_load_1 : decode cL_load 1 = .ok (.iconst 0, 1) := by decide +kernel
theorem dL_load_2 : decode cL_load 2 = .ok (.aload_n 0, 1) := by decide +kernel
theorem dL_load_3 : decode cL_load 3 = .ok (.iload_n 1, 1) := by decide +kernel
theorem dL_load_4 : decode cL_load 4 = .ok (.invokevirtual 15, 3) := by decide +kernel
theorem dL_load_7 : decode cL_load 7 = .ok (.i2l, 1) := by decide +kernel
theorem dL_load_8 : decode cL_load 8 = .ok (.lastore, 1) := by decide +kernel
theorem dL_load_9 : decode cL_load 9 = .ok (.goto 9, 3) := by decide +kernel
theorem dL_load_12 : decode cL_load 12 = .ok (.astore_n 3, 1) := by decide +kernel
theorem dL_load_13 : decode cL_load 13 = .ok (.iconst 1, 1) := by decide +kernel
theorem dL_load_14 : decode cL_load 14 = .ok (.ireturn, 1) := by decide +kernel
theorem dL_load_15 : decode cL_load 15 = .ok (.astore_n 3, 1) := by decide +kernel
theorem dL_load_16 : decode cL_load 16 = .ok (.iconst 2, 1) := by decide +kernel
theorem dL_load_17 : decode cL_load 17 = .ok (.ireturn, 1) := by decide +kernel
theorem dL_load_18 : decode cL_load 18 = .ok (.iconst 0, 1) := by decide +kernel
theorem dL_load_19 : decode cL_load 19 = .ok (.ireturn, 1) := by decide +kernel
theorem dL_versionEntry_0 : decode cL_versionEntry 0 = .ok (.aload_n 3, 1) := by decide +kernel
theorem dL_versionEntry_1 : decode cL_versionEntry 1 = .ok (.iconst 0, 1) := by decide +kernel
theorem dL_versionEntry_2 : decode cL_versionEntry 2 = .ok (.aload_n 0, 1) := by decide +kernel
theorem dL_versionEntry_3 : decode cL_versionEntry 3 = .ok (.iload_n 1, 1) := by decide +kernel
theorem dL_versionEntry_4 : decode cL_versionEntry 4 = .ok (.iload_n 2, 1) := by decide +kernel
theorem dL_versionEntry_5 : decode cL_versionEntry 5 = .ok (.invokevirtual 23, 3) := by decide +kernel
theorem dL_versionEntry_8 : decode cL_versionEntry 8 = .ok (.i2l, 1) := by decide +kernel
theorem dL_versionEntry_9 : decode cL_versionEntry 9 = .ok (.lastore, 1) := by decide +kernel
theorem dL_versionEntry_10 : decode cL_versionEntry 10 = .ok (.goto 7, 3) := by decide +kernel
theorem dL_versionEntry_13 : decode cL_versionEntry 13 = .ok (.astore 4, 2) := by decide +kernel
theorem dL_versionEntry_15 : decode cL_versionEntry 15 = .ok (.iconst 1, 1) := by decide +kernel
theorem dL_versionEntry_16 : decode cL_versionEntry 16 = .ok (.ireturn, 1) := by decide +kernel
theorem dL_versionEntry_17 : decode cL_versionEntry 17 = .ok (.iconst 0, 1) := by decide +kernel
theorem dL_versionEntry_18 : decode cL_versionEntry 18 = .ok (.ireturn, 1) := by decide +kernel
theorem dL_areEqual_0 : decode cL_areEqual 0 = .ok (.aload_n 3, 1) := by decide +kernel
theorem dL_areEqual_1 : decode cL_areEqual 1 = .ok (.iconst 0, 1) := by decide +kernel
theorem dL_areEqual_2 : decode cL_areEqual 2 = .ok (.aload_n 0, 1) := by decide +kernel
theorem dL_areEqual_3 : decode cL_areEqual 3 = .ok (.iload_n 1, 1) := by decide +kernel
theorem dL_areEqual_4 : decode cL_areEqual 4 = .ok (.iload_n 2, 1) := by decide +kernel
theorem dL_areEqual_5 : decode cL_areEqual 5 = .ok (.invokevirtual 27, 3) := by decide +kernel
theorem dL_areEqual_8 : decode cL_areEqual 8 = .ok (.ifCond .eq 7, 3) := by decide +kernel
theorem dL_areEqual_11 : decode cL_areEqual 11 = .ok (.lconst 1, 1) := by decide +kernel
theorem dL_areEqual_12 : decode cL_areEqual 12 = .ok (.goto 4, 3) := by decide +kernel
theorem dL_areEqual_15 : decode cL_areEqual 15 = .ok (.lconst 0, 1) := by decide +kernel
theorem dL_areEqual_16 : decode cL_areEqual 16 = .ok (.lastore, 1) := by decide +kernel
theorem dL_areEqual_17 : decode cL_areEqual 17 = .ok (.goto 7, 3) := by decide +kernel
theorem dL_areEqual_20 : decode cL_areEqual 20 = .ok (.astore 4, 2) := by decide +kernel
theorem dL_areEqual_22 : decode cL_areEqual 22 = .ok (.iconst 1, 1) := by decide +kernel
theorem dL_areEqual_23 : decode cL_areEqual 23 = .ok (.ireturn, 1) := by decide +kernel
theorem dL_areEqual_24 : decode cL_areEqual 24 = .ok (.iconst 0, 1) := by decide +kernel
theorem dL_areEqual_25 : decode cL_areEqual 25 = .ok (.ireturn, 1) := by decide +kernel
theorem dL_covers_0 : decode cL_covers 0 = .ok (.aload_n 3, 1) := by decide +kernel
theorem dL_covers_1 : decode cL_covers 1 = .ok (.iconst 0, 1) := by decide +kernel
theorem dL_covers_2 : decode cL_covers 2 = .ok (.aload_n 0, 1) := by decide +kernel
theorem dL_covers_3 : decode cL_covers 3 = .ok (.iload_n 1, 1) := by decide +kernel
theorem dL_covers_4 : decode cL_covers 4 = .ok (.iload_n 2, 1) := by decide +kernel
theorem dL_covers_5 : decode cL_covers 5 = .ok (.invokevirtual 31, 3) := by decide +kernel
theorem dL_covers_8 : decode cL_covers 8 = .ok (.ifCond .eq 7, 3) := by decide +kernel
theorem dL_covers_11 : decode cL_covers 11 = .ok (.lconst 1, 1) := by decide +kernel
theorem dL_covers_12 : decode cL_covers 12 = .ok (.goto 4, 3) := by decide +kernel
theorem dL_covers_15 : decode cL_covers 15 = .ok (.lconst 0, 1) := by decide +kernel
theorem dL_covers_16 : decode cL_covers 16 = .ok (.lastore, 1) := by decide +kernel
theorem dL_covers_17 : decode cL_covers 17 = .ok (.goto 7, 3) := by decide +kernel
theorem dL_covers_20 : decode cL_covers 20 = .ok (.astore 4, 2) := by decide +kernel
theorem dL_covers_22 : decode cL_covers 22 = .ok (.iconst 1, 1) := by decide +kernel
theorem dL_covers_23 : decode cL_covers 23 = .ok (.ireturn, 1) := by decide +kernel
theorem dL_covers_24 : decode cL_covers 24 = .ok (.iconst 0, 1) := by decide +kernel
theorem dL_covers_25 : decode cL_covers 25 = .ok (.ireturn, 1) := by decide +kernel
theorem dL_areConcurrent_0 : decode cL_areConcurrent 0 = .ok (.aload_n 3, 1) := by decide +kernel
theorem dL_areConcurrent_1 : decode cL_areConcurrent 1 = .ok (.iconst 0, 1) := by decide +kernel
theorem dL_areConcurrent_2 : decode cL_areConcurrent 2 = .ok (.aload_n 0, 1) := by decide +kernel
theorem dL_areConcurrent_3 : decode cL_areConcurrent 3 = .ok (.iload_n 1, 1) := by decide +kernel
theorem dL_areConcurrent_4 : decode cL_areConcurrent 4 = .ok (.iload_n 2, 1) := by decide +kernel
theorem dL_areConcurrent_5 : decode cL_areConcurrent 5 = .ok (.invokevirtual 34, 3) := by decide +kernel
theorem dL_areConcurrent_8 : decode cL_areConcurrent 8 = .ok (.ifCond .eq 7, 3) := by decide +kernel
theorem dL_areConcurrent_11 : decode cL_areConcurrent 11 = .ok (.lconst 1, 1) := by decide +kernel
theorem dL_areConcurrent_12 : decode cL_areConcurrent 12 = .ok (.goto 4, 3) := by decide +kernel
theorem dL_areConcurrent_15 : decode cL_areConcurrent 15 = .ok (.lconst 0, 1) := by decide +kernel
theorem dL_areConcurrent_16 : decode cL_areConcurrent 16 = .ok (.lastore, 1) := by decide +kernel
theorem dL_areConcurrent_17 : decode cL_areConcurrent 17 = .ok (.goto 7, 3) := by decide +kernel
theorem dL_areConcurrent_20 : decode cL_areConcurrent 20 = .ok (.astore 4, 2) := by decide +kernel
theorem dL_areConcurrent_22 : decode cL_areConcurrent 22 = .ok (.iconst 1, 1) := by decide +kernel
theorem dL_areConcurrent_23 : decode cL_areConcurrent 23 = .ok (.ireturn, 1) := by decide +kernel
theorem dL_areConcurrent_24 : decode cL_areConcurrent 24 = .ok (.iconst 0, 1) := by decide +kernel
theorem dL_areConcurrent_25 : decode cL_areConcurrent 25 = .ok (.ireturn, 1) := by decide +kernel
theorem dL_counterValue_0 : decode cL_counterValue 0 = .ok (.aload_n 3, 1) := by decide +kernel
theorem dL_counterValue_1 : decode cL_counterValue 1 = .ok (.iconst 0, 1) := by decide +kernel
theorem dL_counterValue_2 : decode cL_counterValue 2 = .ok (.aload_n 0, 1) := by decide +kernel
theorem dL_counterValue_3 : decode cL_counterValue 3 = .ok (.iload_n 1, 1) := by decide +kernel
theorem dL_counterValue_4 : decode cL_counterValue 4 = .ok (.iload_n 2, 1) := by decide +kernel
theorem dL_counterValue_5 : decode cL_counterValue 5 = .ok (.invokevirtual 37, 3) := by decide +kernel
theorem dL_counterValue_8 : decode cL_counterValue 8 = .ok (.i2l, 1) := by decide +kernel
theorem dL_counterValue_9 : decode cL_counterValue 9 = .ok (.lastore, 1) := by decide +kernel
theorem dL_counterValue_10 : decode cL_counterValue 10 = .ok (.goto 7, 3) := by decide +kernel
theorem dL_counterValue_13 : decode cL_counterValue 13 = .ok (.astore 4, 2) := by decide +kernel
theorem dL_counterValue_15 : decode cL_counterValue 15 = .ok (.iconst 1, 1) := by decide +kernel
theorem dL_counterValue_16 : decode cL_counterValue 16 = .ok (.ireturn, 1) := by decide +kernel
theorem dL_counterValue_17 : decode cL_counterValue 17 = .ok (.iconst 0, 1) := by decide +kernel
theorem dL_counterValue_18 : decode cL_counterValue 18 = .ok (.ireturn, 1) := by decide +kernel
theorem dL_increments_0 : decode cL_increments 0 = .ok (.aload 4, 2) := by decide +kernel
theorem dL_increments_2 : decode cL_increments 2 = .ok (.iconst 0, 1) := by decide +kernel
theorem dL_increments_3 : decode cL_increments 3 = .ok (.aload_n 0, 1) := by decide +kernel
theorem dL_increments_4 : decode cL_increments 4 = .ok (.iload_n 1, 1) := by decide +kernel
theorem dL_increments_5 : decode cL_increments 5 = .ok (.iload_n 2, 1) := by decide +kernel
theorem dL_increments_6 : decode cL_increments 6 = .ok (.iload_n 3, 1) := by decide +kernel
theorem dL_increments_7 : decode cL_increments 7 = .ok (.invokevirtual 40, 3) := by decide +kernel
theorem dL_increments_10 : decode cL_increments 10 = .ok (.i2l, 1) := by decide +kernel
theorem dL_increments_11 : decode cL_increments 11 = .ok (.lastore, 1) := by decide +kernel
theorem dL_increments_12 : decode cL_increments 12 = .ok (.goto 7, 3) := by decide +kernel
theorem dL_increments_15 : decode cL_increments 15 = .ok (.astore 5, 2) := by decide +kernel
theorem dL_increments_17 : decode cL_increments 17 = .ok (.iconst 1, 1) := by decide +kernel
theorem dL_increments_18 : decode cL_increments 18 = .ok (.ireturn, 1) := by decide +kernel
theorem dL_increments_19 : decode cL_increments 19 = .ok (.iconst 0, 1) := by decide +kernel
theorem dL_increments_20 : decode cL_increments 20 = .ok (.ireturn, 1) := by decide +kernel
theorem dL_decrements_0 : decode cL_decrements 0 = .ok (.aload 4, 2) := by decide +kernel
theorem dL_decrements_2 : decode cL_decrements 2 = .ok (.iconst 0, 1) := by decide +kernel
theorem dL_decrements_3 : decode cL_decrements 3 = .ok (.aload_n 0, 1) := by decide +kernel
theorem dL_decrements_4 : decode cL_decrements 4 = .ok (.iload_n 1, 1) := by decide +kernel
theorem dL_decrements_5 : decode cL_decrements 5 = .ok (.iload_n 2, 1) := by decide +kernel
theorem dL_decrements_6 : decode cL_decrements 6 = .ok (.iload_n 3, 1) := by decide +kernel
theorem dL_decrements_7 : decode cL_decrements 7 = .ok (.invokevirtual 44, 3) := by decide +kernel
theorem dL_decrements_10 : decode cL_decrements 10 = .ok (.i2l, 1) := by decide +kernel
theorem dL_decrements_11 : decode cL_decrements 11 = .ok (.lastore, 1) := by decide +kernel
theorem dL_decrements_12 : decode cL_decrements 12 = .ok (.goto 7, 3) := by decide +kernel
theorem dL_decrements_15 : decode cL_decrements 15 = .ok (.astore 5, 2) := by decide +kernel
theorem dL_decrements_17 : decode cL_decrements 17 = .ok (.iconst 1, 1) := by decide +kernel
theorem dL_decrements_18 : decode cL_decrements 18 = .ok (.ireturn, 1) := by decide +kernel
theorem dL_decrements_19 : decode cL_decrements 19 = .ok (.iconst 0, 1) := by decide +kernel
theorem dL_decrements_20 : decode cL_decrements 20 = .ok (.ireturn, 1) := by decide +kernel
theorem dL_hasTag_0 : decode cL_hasTag 0 = .ok (.aload_n 3, 1) := by decide +kernel
theorem dL_hasTag_1 : decode cL_hasTag 1 = .ok (.iconst 0, 1) := by decide +kernel
theorem dL_hasTag_2 : decode cL_hasTag 2 = .ok (.aload_n 0, 1) := by decide +kernel
theorem dL_hasTag_3 : decode cL_hasTag 3 = .ok (.iload_n 1, 1) := by decide +kernel
theorem dL_hasTag_4 : decode cL_hasTag 4 = .ok (.iload_n 2, 1) := by decide +kernel
theorem dL_hasTag_5 : decode cL_hasTag 5 = .ok (.invokevirtual 47, 3) := by decide +kernel
theorem dL_hasTag_8 : decode cL_hasTag 8 = .ok (.ifCond .eq 7, 3) := by decide +kernel
theorem dL_hasTag_11 : decode cL_hasTag 11 = .ok (.lconst 1, 1) := by decide +kernel
theorem dL_hasTag_12 : decode cL_hasTag 12 = .ok (.goto 4, 3) := by decide +kernel
theorem dL_hasTag_15 : decode cL_hasTag 15 = .ok (.lconst 0, 1) := by decide +kernel
theorem dL_hasTag_16 : decode cL_hasTag 16 = .ok (.lastore, 1) := by decide +kernel
theorem dL_hasTag_17 : decode cL_hasTag 17 = .ok (.goto 7, 3) := by decide +kernel
theorem dL_hasTag_20 : decode cL_hasTag 20 = .ok (.astore 4, 2) := by decide +kernel
theorem dL_hasTag_22 : decode cL_hasTag 22 = .ok (.iconst 1, 1) := by decide +kernel
theorem dL_hasTag_23 : decode cL_hasTag 23 = .ok (.ireturn, 1) := by decide +kernel
theorem dL_hasTag_24 : decode cL_hasTag 24 = .ok (.iconst 0, 1) := by decide +kernel
theorem dL_hasTag_25 : decode cL_hasTag 25 = .ok (.ireturn, 1) := by decide +kernel
theorem dL_liveDots_0 : decode cL_liveDots 0 = .ok (.aload_n 3, 1) := by decide +kernel
theorem dL_liveDots_1 : decode cL_liveDots 1 = .ok (.iconst 0, 1) := by decide +kernel
theorem dL_liveDots_2 : decode cL_liveDots 2 = .ok (.aload_n 0, 1) := by decide +kernel
theorem dL_liveDots_3 : decode cL_liveDots 3 = .ok (.iload_n 1, 1) := by decide +kernel
theorem dL_liveDots_4 : decode cL_liveDots 4 = .ok (.iload_n 2, 1) := by decide +kernel
theorem dL_liveDots_5 : decode cL_liveDots 5 = .ok (.invokevirtual 50, 3) := by decide +kernel
theorem dL_liveDots_8 : decode cL_liveDots 8 = .ok (.i2l, 1) := by decide +kernel
theorem dL_liveDots_9 : decode cL_liveDots 9 = .ok (.lastore, 1) := by decide +kernel
theorem dL_liveDots_10 : decode cL_liveDots 10 = .ok (.goto 7, 3) := by decide +kernel
theorem dL_liveDots_13 : decode cL_liveDots 13 = .ok (.astore 4, 2) := by decide +kernel
theorem dL_liveDots_15 : decode cL_liveDots 15 = .ok (.iconst 1, 1) := by decide +kernel
theorem dL_liveDots_16 : decode cL_liveDots 16 = .ok (.ireturn, 1) := by decide +kernel
theorem dL_liveDots_17 : decode cL_liveDots 17 = .ok (.iconst 0, 1) := by decide +kernel
theorem dL_liveDots_18 : decode cL_liveDots 18 = .ok (.ireturn, 1) := by decide +kernel
theorem dL_tagDot_0 : decode cL_tagDot 0 = .ok (.aload 4, 2) := by decide +kernel
theorem dL_tagDot_2 : decode cL_tagDot 2 = .ok (.iconst 0, 1) := by decide +kernel
theorem dL_tagDot_3 : decode cL_tagDot 3 = .ok (.aload_n 0, 1) := by decide +kernel
theorem dL_tagDot_4 : decode cL_tagDot 4 = .ok (.iload_n 1, 1) := by decide +kernel
theorem dL_tagDot_5 : decode cL_tagDot 5 = .ok (.iload_n 2, 1) := by decide +kernel
theorem dL_tagDot_6 : decode cL_tagDot 6 = .ok (.iload_n 3, 1) := by decide +kernel
theorem dL_tagDot_7 : decode cL_tagDot 7 = .ok (.invokevirtual 53, 3) := by decide +kernel
theorem dL_tagDot_10 : decode cL_tagDot 10 = .ok (.i2l, 1) := by decide +kernel
theorem dL_tagDot_11 : decode cL_tagDot 11 = .ok (.lastore, 1) := by decide +kernel
theorem dL_tagDot_12 : decode cL_tagDot 12 = .ok (.goto 7, 3) := by decide +kernel
theorem dL_tagDot_15 : decode cL_tagDot 15 = .ok (.astore 5, 2) := by decide +kernel
theorem dL_tagDot_17 : decode cL_tagDot 17 = .ok (.iconst 1, 1) := by decide +kernel
theorem dL_tagDot_18 : decode cL_tagDot 18 = .ok (.ireturn, 1) := by decide +kernel
theorem dL_tagDot_19 : decode cL_tagDot 19 = .ok (.iconst 0, 1) := by decide +kernel
theorem dL_tagDot_20 : decode cL_tagDot 20 = .ok (.ireturn, 1) := by decide +kernel
theorem dL_tagCount_0 : decode cL_tagCount 0 = .ok (.aload_n 2, 1) := by decide +kernel
theorem dL_tagCount_1 : decode cL_tagCount 1 = .ok (.iconst 0, 1) := by decide +kernel
theorem dL_tagCount_2 : decode cL_tagCount 2 = .ok (.aload_n 0, 1) := by decide +kernel
theorem dL_tagCount_3 : decode cL_tagCount 3 = .ok (.iload_n 1, 1) := by decide +kernel
theorem dL_tagCount_4 : decode cL_tagCount 4 = .ok (.invokevirtual 56, 3) := by decide +kernel
theorem dL_tagCount_7 : decode cL_tagCount 7 = .ok (.i2l, 1) := by decide +kernel
theorem dL_tagCount_8 : decode cL_tagCount 8 = .ok (.lastore, 1) := by decide +kernel
theorem dL_tagCount_9 : decode cL_tagCount 9 = .ok (.goto 6, 3) := by decide +kernel
theorem dL_tagCount_12 : decode cL_tagCount 12 = .ok (.astore_n 3, 1) := by decide +kernel
theorem dL_tagCount_13 : decode cL_tagCount 13 = .ok (.iconst 1, 1) := by decide +kernel
theorem dL_tagCount_14 : decode cL_tagCount 14 = .ok (.ireturn, 1) := by decide +kernel
theorem dL_tagCount_15 : decode cL_tagCount 15 = .ok (.iconst 0, 1) := by decide +kernel
theorem dL_tagCount_16 : decode cL_tagCount 16 = .ok (.ireturn, 1) := by decide +kernel
theorem dL_tagAt_0 : decode cL_tagAt 0 = .ok (.aload_n 3, 1) := by decide +kernel
theorem dL_tagAt_1 : decode cL_tagAt 1 = .ok (.iconst 0, 1) := by decide +kernel
theorem dL_tagAt_2 : decode cL_tagAt 2 = .ok (.aload_n 0, 1) := by decide +kernel
theorem dL_tagAt_3 : decode cL_tagAt 3 = .ok (.iload_n 1, 1) := by decide +kernel
theorem dL_tagAt_4 : decode cL_tagAt 4 = .ok (.iload_n 2, 1) := by decide +kernel
theorem dL_tagAt_5 : decode cL_tagAt 5 = .ok (.invokevirtual 59, 3) := by decide +kernel
theorem dL_tagAt_8 : decode cL_tagAt 8 = .ok (.i2l, 1) := by decide +kernel
theorem dL_tagAt_9 : decode cL_tagAt 9 = .ok (.lastore, 1) := by decide +kernel
theorem dL_tagAt_10 : decode cL_tagAt 10 = .ok (.goto 7, 3) := by decide +kernel
theorem dL_tagAt_13 : decode cL_tagAt 13 = .ok (.astore 4, 2) := by decide +kernel
theorem dL_tagAt_15 : decode cL_tagAt 15 = .ok (.iconst 1, 1) := by decide +kernel
theorem dL_tagAt_16 : decode cL_tagAt 16 = .ok (.ireturn, 1) := by decide +kernel
theorem dL_tagAt_17 : decode cL_tagAt 17 = .ok (.iconst 0, 1) := by decide +kernel
theorem dL_tagAt_18 : decode cL_tagAt 18 = .ok (.ireturn, 1) := by decide +kernel
theorem dL_entryCount_0 : decode cL_entryCount 0 = .ok (.aload_n 3, 1) := by decide +kernel
theorem dL_entryCount_1 : decode cL_entryCount 1 = .ok (.iconst 0, 1) := by decide +kernel
theorem dL_entryCount_2 : decode cL_entryCount 2 = .ok (.aload_n 0, 1) := by decide +kernel
theorem dL_entryCount_3 : decode cL_entryCount 3 = .ok (.iload_n 1, 1) := by decide +kernel
theorem dL_entryCount_4 : decode cL_entryCount 4 = .ok (.iload_n 2, 1) := by decide +kernel
theorem dL_entryCount_5 : decode cL_entryCount 5 = .ok (.invokevirtual 62, 3) := by decide +kernel
theorem dL_entryCount_8 : decode cL_entryCount 8 = .ok (.i2l, 1) := by decide +kernel
theorem dL_entryCount_9 : decode cL_entryCount 9 = .ok (.lastore, 1) := by decide +kernel
theorem dL_entryCount_10 : decode cL_entryCount 10 = .ok (.goto 7, 3) := by decide +kernel
theorem dL_entryCount_13 : decode cL_entryCount 13 = .ok (.astore 4, 2) := by decide +kernel
theorem dL_entryCount_15 : decode cL_entryCount 15 = .ok (.iconst 1, 1) := by decide +kernel
theorem dL_entryCount_16 : decode cL_entryCount 16 = .ok (.ireturn, 1) := by decide +kernel
theorem dL_entryCount_17 : decode cL_entryCount 17 = .ok (.iconst 0, 1) := by decide +kernel
theorem dL_entryCount_18 : decode cL_entryCount 18 = .ok (.ireturn, 1) := by decide +kernel
theorem dL_entryValue_0 : decode cL_entryValue 0 = .ok (.aload 4, 2) := by decide +kernel
theorem dL_entryValue_2 : decode cL_entryValue 2 = .ok (.iconst 0, 1) := by decide +kernel
theorem dL_entryValue_3 : decode cL_entryValue 3 = .ok (.aload_n 0, 1) := by decide +kernel
theorem dL_entryValue_4 : decode cL_entryValue 4 = .ok (.iload_n 1, 1) := by decide +kernel
theorem dL_entryValue_5 : decode cL_entryValue 5 = .ok (.iload_n 2, 1) := by decide +kernel
theorem dL_entryValue_6 : decode cL_entryValue 6 = .ok (.iload_n 3, 1) := by decide +kernel
theorem dL_entryValue_7 : decode cL_entryValue 7 = .ok (.invokevirtual 65, 3) := by decide +kernel
theorem dL_entryValue_10 : decode cL_entryValue 10 = .ok (.i2l, 1) := by decide +kernel
theorem dL_entryValue_11 : decode cL_entryValue 11 = .ok (.lastore, 1) := by decide +kernel
theorem dL_entryValue_12 : decode cL_entryValue 12 = .ok (.goto 7, 3) := by decide +kernel
theorem dL_entryValue_15 : decode cL_entryValue 15 = .ok (.astore 5, 2) := by decide +kernel
theorem dL_entryValue_17 : decode cL_entryValue 17 = .ok (.iconst 1, 1) := by decide +kernel
theorem dL_entryValue_18 : decode cL_entryValue 18 = .ok (.ireturn, 1) := by decide +kernel
theorem dL_entryValue_19 : decode cL_entryValue 19 = .ok (.iconst 0, 1) := by decide +kernel
theorem dL_entryValue_20 : decode cL_entryValue 20 = .ok (.ireturn, 1) := by decide +kernel
theorem dL_greatestValue_0 : decode cL_greatestValue 0 = .ok (.aload_n 3, 1) := by decide +kernel
theorem dL_greatestValue_1 : decode cL_greatestValue 1 = .ok (.iconst 0, 1) := by decide +kernel
theorem dL_greatestValue_2 : decode cL_greatestValue 2 = .ok (.aload_n 0, 1) := by decide +kernel
theorem dL_greatestValue_3 : decode cL_greatestValue 3 = .ok (.iload_n 1, 1) := by decide +kernel
theorem dL_greatestValue_4 : decode cL_greatestValue 4 = .ok (.iload_n 2, 1) := by decide +kernel
theorem dL_greatestValue_5 : decode cL_greatestValue 5 = .ok (.invokevirtual 68, 3) := by decide +kernel
theorem dL_greatestValue_8 : decode cL_greatestValue 8 = .ok (.i2l, 1) := by decide +kernel
theorem dL_greatestValue_9 : decode cL_greatestValue 9 = .ok (.lastore, 1) := by decide +kernel
theorem dL_greatestValue_10 : decode cL_greatestValue 10 = .ok (.goto 7, 3) := by decide +kernel
theorem dL_greatestValue_13 : decode cL_greatestValue 13 = .ok (.astore 4, 2) := by decide +kernel
theorem dL_greatestValue_15 : decode cL_greatestValue 15 = .ok (.iconst 1, 1) := by decide +kernel
theorem dL_greatestValue_16 : decode cL_greatestValue 16 = .ok (.ireturn, 1) := by decide +kernel
theorem dL_greatestValue_17 : decode cL_greatestValue 17 = .ok (.iconst 0, 1) := by decide +kernel
theorem dL_greatestValue_18 : decode cL_greatestValue 18 = .ok (.ireturn, 1) := by decide +kernel
theorem dL_conflicts_0 : decode cL_conflicts 0 = .ok (.aload_n 2, 1) := by decide +kernel
theorem dL_conflicts_1 : decode cL_conflicts 1 = .ok (.iconst 0, 1) := by decide +kernel
theorem dL_conflicts_2 : decode cL_conflicts 2 = .ok (.aload_n 0, 1) := by decide +kernel
theorem dL_conflicts_3 : decode cL_conflicts 3 = .ok (.iload_n 1, 1) := by decide +kernel
theorem dL_conflicts_4 : decode cL_conflicts 4 = .ok (.invokevirtual 71, 3) := by decide +kernel
theorem dL_conflicts_7 : decode cL_conflicts 7 = .ok (.i2l, 1) := by decide +kernel
theorem dL_conflicts_8 : decode cL_conflicts 8 = .ok (.lastore, 1) := by decide +kernel
theorem dL_conflicts_9 : decode cL_conflicts 9 = .ok (.goto 6, 3) := by decide +kernel
theorem dL_conflicts_12 : decode cL_conflicts 12 = .ok (.astore_n 3, 1) := by decide +kernel
theorem dL_conflicts_13 : decode cL_conflicts 13 = .ok (.iconst 1, 1) := by decide +kernel
theorem dL_conflicts_14 : decode cL_conflicts 14 = .ok (.ireturn, 1) := by decide +kernel
theorem dL_conflicts_15 : decode cL_conflicts 15 = .ok (.iconst 0, 1) := by decide +kernel
theorem dL_conflicts_16 : decode cL_conflicts 16 = .ok (.ireturn, 1) := by decide +kernel
theorem dL_unseenDots_0 : decode cL_unseenDots 0 = .ok (.aload_n 3, 1) := by decide +kernel
theorem dL_unseenDots_1 : decode cL_unseenDots 1 = .ok (.iconst 0, 1) := by decide +kernel
theorem dL_unseenDots_2 : decode cL_unseenDots 2 = .ok (.aload_n 0, 1) := by decide +kernel
theorem dL_unseenDots_3 : decode cL_unseenDots 3 = .ok (.iload_n 1, 1) := by decide +kernel
theorem dL_unseenDots_4 : decode cL_unseenDots 4 = .ok (.iload_n 2, 1) := by decide +kernel
theorem dL_unseenDots_5 : decode cL_unseenDots 5 = .ok (.invokevirtual 74, 3) := by decide +kernel
theorem dL_unseenDots_8 : decode cL_unseenDots 8 = .ok (.i2l, 1) := by decide +kernel
theorem dL_unseenDots_9 : decode cL_unseenDots 9 = .ok (.lastore, 1) := by decide +kernel
theorem dL_unseenDots_10 : decode cL_unseenDots 10 = .ok (.goto 7, 3) := by decide +kernel
theorem dL_unseenDots_13 : decode cL_unseenDots 13 = .ok (.astore 4, 2) := by decide +kernel
theorem dL_unseenDots_15 : decode cL_unseenDots 15 = .ok (.iconst 1, 1) := by decide +kernel
theorem dL_unseenDots_16 : decode cL_unseenDots 16 = .ok (.ireturn, 1) := by decide +kernel
theorem dL_unseenDots_17 : decode cL_unseenDots 17 = .ok (.iconst 0, 1) := by decide +kernel
theorem dL_unseenDots_18 : decode cL_unseenDots 18 = .ok (.ireturn, 1) := by decide +kernel
theorem dL_deltaSize_0 : decode cL_deltaSize 0 = .ok (.aload_n 3, 1) := by decide +kernel
theorem dL_deltaSize_1 : decode cL_deltaSize 1 = .ok (.iconst 0, 1) := by decide +kernel
theorem dL_deltaSize_2 : decode cL_deltaSize 2 = .ok (.aload_n 0, 1) := by decide +kernel
theorem dL_deltaSize_3 : decode cL_deltaSize 3 = .ok (.iload_n 1, 1) := by decide +kernel
theorem dL_deltaSize_4 : decode cL_deltaSize 4 = .ok (.iload_n 2, 1) := by decide +kernel
theorem dL_deltaSize_5 : decode cL_deltaSize 5 = .ok (.invokevirtual 77, 3) := by decide +kernel
theorem dL_deltaSize_8 : decode cL_deltaSize 8 = .ok (.i2l, 1) := by decide +kernel
theorem dL_deltaSize_9 : decode cL_deltaSize 9 = .ok (.lastore, 1) := by decide +kernel
theorem dL_deltaSize_10 : decode cL_deltaSize 10 = .ok (.goto 7, 3) := by decide +kernel
theorem dL_deltaSize_13 : decode cL_deltaSize 13 = .ok (.astore 4, 2) := by decide +kernel
theorem dL_deltaSize_15 : decode cL_deltaSize 15 = .ok (.iconst 1, 1) := by decide +kernel
theorem dL_deltaSize_16 : decode cL_deltaSize 16 = .ok (.ireturn, 1) := by decide +kernel
theorem dL_deltaSize_17 : decode cL_deltaSize 17 = .ok (.iconst 0, 1) := by decide +kernel
theorem dL_deltaSize_18 : decode cL_deltaSize 18 = .ok (.ireturn, 1) := by decide +kernel
theorem dL_tagsGained_0 : decode cL_tagsGained 0 = .ok (.aload_n 3, 1) := by decide +kernel
theorem dL_tagsGained_1 : decode cL_tagsGained 1 = .ok (.iconst 0, 1) := by decide +kernel
theorem dL_tagsGained_2 : decode cL_tagsGained 2 = .ok (.aload_n 0, 1) := by decide +kernel
theorem dL_tagsGained_3 : decode cL_tagsGained 3 = .ok (.iload_n 1, 1) := by decide +kernel
theorem dL_tagsGained_4 : decode cL_tagsGained 4 = .ok (.iload_n 2, 1) := by decide +kernel
theorem dL_tagsGained_5 : decode cL_tagsGained 5 = .ok (.invokevirtual 80, 3) := by decide +kernel
theorem dL_tagsGained_8 : decode cL_tagsGained 8 = .ok (.i2l, 1) := by decide +kernel
theorem dL_tagsGained_9 : decode cL_tagsGained 9 = .ok (.lastore, 1) := by decide +kernel
theorem dL_tagsGained_10 : decode cL_tagsGained 10 = .ok (.goto 7, 3) := by decide +kernel
theorem dL_tagsGained_13 : decode cL_tagsGained 13 = .ok (.astore 4, 2) := by decide +kernel
theorem dL_tagsGained_15 : decode cL_tagsGained 15 = .ok (.iconst 1, 1) := by decide +kernel
theorem dL_tagsGained_16 : decode cL_tagsGained 16 = .ok (.ireturn, 1) := by decide +kernel
theorem dL_tagsGained_17 : decode cL_tagsGained 17 = .ok (.iconst 0, 1) := by decide +kernel
theorem dL_tagsGained_18 : decode cL_tagsGained 18 = .ok (.ireturn, 1) := by decide +kernel
theorem dL_tagsLost_0 : decode cL_tagsLost 0 = .ok (.aload_n 3, 1) := by decide +kernel
theorem dL_tagsLost_1 : decode cL_tagsLost 1 = .ok (.iconst 0, 1) := by decide +kernel
theorem dL_tagsLost_2 : decode cL_tagsLost 2 = .ok (.aload_n 0, 1) := by decide +kernel
theorem dL_tagsLost_3 : decode cL_tagsLost 3 = .ok (.iload_n 1, 1) := by decide +kernel
theorem dL_tagsLost_4 : decode cL_tagsLost 4 = .ok (.iload_n 2, 1) := by decide +kernel
theorem dL_tagsLost_5 : decode cL_tagsLost 5 = .ok (.invokevirtual 83, 3) := by decide +kernel
theorem dL_tagsLost_8 : decode cL_tagsLost 8 = .ok (.i2l, 1) := by decide +kernel
theorem dL_tagsLost_9 : decode cL_tagsLost 9 = .ok (.lastore, 1) := by decide +kernel
theorem dL_tagsLost_10 : decode cL_tagsLost 10 = .ok (.goto 7, 3) := by decide +kernel
theorem dL_tagsLost_13 : decode cL_tagsLost 13 = .ok (.astore 4, 2) := by decide +kernel
theorem dL_tagsLost_15 : decode cL_tagsLost 15 = .ok (.iconst 1, 1) := by decide +kernel
theorem dL_tagsLost_16 : decode cL_tagsLost 16 = .ok (.ireturn, 1) := by decide +kernel
theorem dL_tagsLost_17 : decode cL_tagsLost 17 = .ok (.iconst 0, 1) := by decide +kernel
theorem dL_tagsLost_18 : decode cL_tagsLost 18 = .ok (.ireturn, 1) := by decide +kernel
theorem dL_mergedValue_0 : decode cL_mergedValue 0 = .ok (.aload_n 2, 1) := by decide +kernel
theorem dL_mergedValue_1 : decode cL_mergedValue 1 = .ok (.iconst 0, 1) := by decide +kernel
theorem dL_mergedValue_2 : decode cL_mergedValue 2 = .ok (.aload_n 0, 1) := by decide +kernel
