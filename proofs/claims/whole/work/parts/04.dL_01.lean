/-! what each instruction decodes to, as printed -/
theorem dL_mergedValue_3 : decode cL_mergedValue 3 = .ok (.iload_n 1, 1) := by decide +kernel
theorem dL_mergedValue_4 : decode cL_mergedValue 4 = .ok (.invokevirtual 86, 3) := by decide +kernel
theorem dL_mergedValue_7 : decode cL_mergedValue 7 = .ok (.i2l, 1) := by decide +kernel
theorem dL_mergedValue_8 : decode cL_mergedValue 8 = .ok (.lastore, 1) := by decide +kernel
theorem dL_mergedValue_9 : decode cL_mergedValue 9 = .ok (.goto 6, 3) := by decide +kernel
theorem dL_mergedValue_12 : decode cL_mergedValue 12 = .ok (.astore_n 3, 1) := by decide +kernel
theorem dL_mergedValue_13 : decode cL_mergedValue 13 = .ok (.iconst 1, 1) := by decide +kernel
theorem dL_mergedValue_14 : decode cL_mergedValue 14 = .ok (.ireturn, 1) := by decide +kernel
theorem dL_mergedValue_15 : decode cL_mergedValue 15 = .ok (.iconst 0, 1) := by decide +kernel
theorem dL_mergedValue_16 : decode cL_mergedValue 16 = .ok (.ireturn, 1) := by decide +kernel
theorem dL_senderOf_0 : decode cL_senderOf 0 = .ok (.aload_n 2, 1) := by decide +kernel
theorem dL_senderOf_1 : decode cL_senderOf 1 = .ok (.iconst 0, 1) := by decide +kernel
theorem dL_senderOf_2 : decode cL_senderOf 2 = .ok (.aload_n 0, 1) := by decide +kernel
theorem dL_senderOf_3 : decode cL_senderOf 3 = .ok (.iload_n 1, 1) := by decide +kernel
theorem dL_senderOf_4 : decode cL_senderOf 4 = .ok (.invokevirtual 89, 3) := by decide +kernel
theorem dL_senderOf_7 : decode cL_senderOf 7 = .ok (.i2l, 1) := by decide +kernel
theorem dL_senderOf_8 : decode cL_senderOf 8 = .ok (.lastore, 1) := by decide +kernel
theorem dL_senderOf_9 : decode cL_senderOf 9 = .ok (.goto 6, 3) := by decide +kernel
theorem dL_senderOf_12 : decode cL_senderOf 12 = .ok (.astore_n 3, 1) := by decide +kernel
theorem dL_senderOf_13 : decode cL_senderOf 13 = .ok (.iconst 1, 1) := by decide +kernel
theorem dL_senderOf_14 : decode cL_senderOf 14 = .ok (.ireturn, 1) := by decide +kernel
theorem dL_senderOf_15 : decode cL_senderOf 15 = .ok (.iconst 0, 1) := by decide +kernel
theorem dL_senderOf_16 : decode cL_senderOf 16 = .ok (.ireturn, 1) := by decide +kernel
theorem dL_isNews_0 : decode cL_isNews 0 = .ok (.aload_n 3, 1) := by decide +kernel
theorem dL_isNews_1 : decode cL_isNews 1 = .ok (.iconst 0, 1) := by decide +kernel
theorem dL_isNews_2 : decode cL_isNews 2 = .ok (.aload_n 0, 1) := by decide +kernel
theorem dL_isNews_3 : decode cL_isNews 3 = .ok (.iload_n 1, 1) := by decide +kernel
theorem dL_isNews_4 : decode cL_isNews 4 = .ok (.iload_n 2, 1) := by decide +kernel
theorem dL_isNews_5 : decode cL_isNews 5 = .ok (.invokevirtual 92, 3) := by decide +kernel
theorem dL_isNews_8 : decode cL_isNews 8 = .ok (.ifCond .eq 7, 3) := by decide +kernel
theorem dL_isNews_11 : decode cL_isNews 11 = .ok (.lconst 1, 1) := by decide +kernel
theorem dL_isNews_12 : decode cL_isNews 12 = .ok (.goto 4, 3) := by decide +kernel
theorem dL_isNews_15 : decode cL_isNews 15 = .ok (.lconst 0, 1) := by decide +kernel
theorem dL_isNews_16 : decode cL_isNews 16 = .ok (.lastore, 1) := by decide +kernel
theorem dL_isNews_17 : decode cL_isNews 17 = .ok (.goto 7, 3) := by decide +kernel
theorem dL_isNews_20 : decode cL_isNews 20 = .ok (.astore 4, 2) := by decide +kernel
theorem dL_isNews_22 : decode cL_isNews 22 = .ok (.iconst 1, 1) := by decide +kernel
theorem dL_isNews_23 : decode cL_isNews 23 = .ok (.ireturn, 1) := by decide +kernel
theorem dL_isNews_24 : decode cL_isNews 24 = .ok (.iconst 0, 1) := by decide +kernel
theorem dL_isNews_25 : decode cL_isNews 25 = .ok (.ireturn, 1) := by decide +kernel
theorem dL_increment_0 : decode cL_increment 0 = .ok (.aload 4, 2) := by decide +kernel
theorem dL_increment_2 : decode cL_increment 2 = .ok (.iconst 0, 1) := by decide +kernel
theorem dL_increment_3 : decode cL_increment 3 = .ok (.aload_n 0, 1) := by decide +kernel
theorem dL_increment_4 : decode cL_increment 4 = .ok (.iload_n 1, 1) := by decide +kernel
theorem dL_increment_5 : decode cL_increment 5 = .ok (.iload_n 2, 1) := by decide +kernel
theorem dL_increment_6 : decode cL_increment 6 = .ok (.iload_n 3, 1) := by decide +kernel
theorem dL_increment_7 : decode cL_increment 7 = .ok (.invokevirtual 95, 3) := by decide +kernel
theorem dL_increment_10 : decode cL_increment 10 = .ok (.i2l, 1) := by decide +kernel
theorem dL_increment_11 : decode cL_increment 11 = .ok (.lastore, 1) := by decide +kernel
theorem dL_increment_12 : decode cL_increment 12 = .ok (.goto 11, 3) := by decide +kernel
theorem dL_increment_15 : decode cL_increment 15 = .ok (.astore 5, 2) := by decide +kernel
theorem dL_increment_17 : decode cL_increment 17 = .ok (.iconst 1, 1) := by decide +kernel
theorem dL_increment_18 : decode cL_increment 18 = .ok (.ireturn, 1) := by decide +kernel
theorem dL_increment_19 : decode cL_increment 19 = .ok (.astore 5, 2) := by decide +kernel
theorem dL_increment_21 : decode cL_increment 21 = .ok (.iconst 2, 1) := by decide +kernel
theorem dL_increment_22 : decode cL_increment 22 = .ok (.ireturn, 1) := by decide +kernel
theorem dL_increment_23 : decode cL_increment 23 = .ok (.iconst 0, 1) := by decide +kernel
theorem dL_increment_24 : decode cL_increment 24 = .ok (.ireturn, 1) := by decide +kernel
theorem dL_decrement_0 : decode cL_decrement 0 = .ok (.aload 4, 2) := by decide +kernel
theorem dL_decrement_2 : decode cL_decrement 2 = .ok (.iconst 0, 1) := by decide +kernel
theorem dL_decrement_3 : decode cL_decrement 3 = .ok (.aload_n 0, 1) := by decide +kernel
theorem dL_decrement_4 : decode cL_decrement 4 = .ok (.iload_n 1, 1) := by decide +kernel
theorem dL_decrement_5 : decode cL_decrement 5 = .ok (.iload_n 2, 1) := by decide +kernel
theorem dL_decrement_6 : decode cL_decrement 6 = .ok (.iload_n 3, 1) := by decide +kernel
theorem dL_decrement_7 : decode cL_decrement 7 = .ok (.invokevirtual 98, 3) := by decide +kernel
theorem dL_decrement_10 : decode cL_decrement 10 = .ok (.i2l, 1) := by decide +kernel
theorem dL_decrement_11 : decode cL_decrement 11 = .ok (.lastore, 1) := by decide +kernel
theorem dL_decrement_12 : decode cL_decrement 12 = .ok (.goto 11, 3) := by decide +kernel
theorem dL_decrement_15 : decode cL_decrement 15 = .ok (.astore 5, 2) := by decide +kernel
theorem dL_decrement_17 : decode cL_decrement 17 = .ok (.iconst 1, 1) := by decide +kernel
theorem dL_decrement_18 : decode cL_decrement 18 = .ok (.ireturn, 1) := by decide +kernel
theorem dL_decrement_19 : decode cL_decrement 19 = .ok (.astore 5, 2) := by decide +kernel
theorem dL_decrement_21 : decode cL_decrement 21 = .ok (.iconst 2, 1) := by decide +kernel
theorem dL_decrement_22 : decode cL_decrement 22 = .ok (.ireturn, 1) := by decide +kernel
theorem dL_decrement_23 : decode cL_decrement 23 = .ok (.iconst 0, 1) := by decide +kernel
theorem dL_decrement_24 : decode cL_decrement 24 = .ok (.ireturn, 1) := by decide +kernel
theorem dL_addTag_0 : decode cL_addTag 0 = .ok (.aload_n 3, 1) := by decide +kernel
theorem dL_addTag_1 : decode cL_addTag 1 = .ok (.iconst 0, 1) := by decide +kernel
theorem dL_addTag_2 : decode cL_addTag 2 = .ok (.aload_n 0, 1) := by decide +kernel
theorem dL_addTag_3 : decode cL_addTag 3 = .ok (.iload_n 1, 1) := by decide +kernel
theorem dL_addTag_4 : decode cL_addTag 4 = .ok (.iload_n 2, 1) := by decide +kernel
theorem dL_addTag_5 : decode cL_addTag 5 = .ok (.invokevirtual 101, 3) := by decide +kernel
theorem dL_addTag_8 : decode cL_addTag 8 = .ok (.i2l, 1) := by decide +kernel
theorem dL_addTag_9 : decode cL_addTag 9 = .ok (.lastore, 1) := by decide +kernel
theorem dL_addTag_10 : decode cL_addTag 10 = .ok (.goto 7, 3) := by decide +kernel
theorem dL_addTag_13 : decode cL_addTag 13 = .ok (.astore 4, 2) := by decide +kernel
theorem dL_addTag_15 : decode cL_addTag 15 = .ok (.iconst 1, 1) := by decide +kernel
theorem dL_addTag_16 : decode cL_addTag 16 = .ok (.ireturn, 1) := by decide +kernel
theorem dL_addTag_17 : decode cL_addTag 17 = .ok (.iconst 0, 1) := by decide +kernel
theorem dL_addTag_18 : decode cL_addTag 18 = .ok (.ireturn, 1) := by decide +kernel
theorem dL_removeTag_0 : decode cL_removeTag 0 = .ok (.aload_n 3, 1) := by decide +kernel
theorem dL_removeTag_1 : decode cL_removeTag 1 = .ok (.iconst 0, 1) := by decide +kernel
theorem dL_removeTag_2 : decode cL_removeTag 2 = .ok (.aload_n 0, 1) := by decide +kernel
theorem dL_removeTag_3 : decode cL_removeTag 3 = .ok (.iload_n 1, 1) := by decide +kernel
theorem dL_removeTag_4 : decode cL_removeTag 4 = .ok (.iload_n 2, 1) := by decide +kernel
theorem dL_removeTag_5 : decode cL_removeTag 5 = .ok (.invokevirtual 104, 3) := by decide +kernel
theorem dL_removeTag_8 : decode cL_removeTag 8 = .ok (.i2l, 1) := by decide +kernel
theorem dL_removeTag_9 : decode cL_removeTag 9 = .ok (.lastore, 1) := by decide +kernel
theorem dL_removeTag_10 : decode cL_removeTag 10 = .ok (.goto 11, 3) := by decide +kernel
theorem dL_removeTag_13 : decode cL_removeTag 13 = .ok (.astore 4, 2) := by decide +kernel
theorem dL_removeTag_15 : decode cL_removeTag 15 = .ok (.iconst 1, 1) := by decide +kernel
theorem dL_removeTag_16 : decode cL_removeTag 16 = .ok (.ireturn, 1) := by decide +kernel
theorem dL_removeTag_17 : decode cL_removeTag 17 = .ok (.astore 4, 2) := by decide +kernel
theorem dL_removeTag_19 : decode cL_removeTag 19 = .ok (.iconst 2, 1) := by decide +kernel
theorem dL_removeTag_20 : decode cL_removeTag 20 = .ok (.ireturn, 1) := by decide +kernel
theorem dL_removeTag_21 : decode cL_removeTag 21 = .ok (.iconst 0, 1) := by decide +kernel
theorem dL_removeTag_22 : decode cL_removeTag 22 = .ok (.ireturn, 1) := by decide +kernel
theorem dL_write_0 : decode cL_write 0 = .ok (.aload 4, 2) := by decide +kernel
theorem dL_write_2 : decode cL_write 2 = .ok (.iconst 0, 1) := by decide +kernel
theorem dL_write_3 : decode cL_write 3 = .ok (.aload_n 0, 1) := by decide +kernel
theorem dL_write_4 : decode cL_write 4 = .ok (.iload_n 1, 1) := by decide +kernel
theorem dL_write_5 : decode cL_write 5 = .ok (.iload_n 2, 1) := by decide +kernel
theorem dL_write_6 : decode cL_write 6 = .ok (.iload_n 3, 1) := by decide +kernel
theorem dL_write_7 : decode cL_write 7 = .ok (.invokevirtual 107, 3) := by decide +kernel
theorem dL_write_10 : decode cL_write 10 = .ok (.i2l, 1) := by decide +kernel
theorem dL_write_11 : decode cL_write 11 = .ok (.lastore, 1) := by decide +kernel
theorem dL_write_12 : decode cL_write 12 = .ok (.goto 11, 3) := by decide +kernel
theorem dL_write_15 : decode cL_write 15 = .ok (.astore 5, 2) := by decide +kernel
theorem dL_write_17 : decode cL_write 17 = .ok (.iconst 1, 1) := by decide +kernel
theorem dL_write_18 : decode cL_write 18 = .ok (.ireturn, 1) := by decide +kernel
theorem dL_write_19 : decode cL_write 19 = .ok (.astore 5, 2) := by decide +kernel
theorem dL_write_21 : decode cL_write 21 = .ok (.iconst 2, 1) := by decide +kernel
theorem dL_write_22 : decode cL_write 22 = .ok (.ireturn, 1) := by decide +kernel
theorem dL_write_23 : decode cL_write 23 = .ok (.iconst 0, 1) := by decide +kernel
theorem dL_write_24 : decode cL_write 24 = .ok (.ireturn, 1) := by decide +kernel
theorem dL_merge_0 : decode cL_merge 0 = .ok (.aload_n 3, 1) := by decide +kernel
theorem dL_merge_1 : decode cL_merge 1 = .ok (.iconst 0, 1) := by decide +kernel
theorem dL_merge_2 : decode cL_merge 2 = .ok (.aload_n 0, 1) := by decide +kernel
theorem dL_merge_3 : decode cL_merge 3 = .ok (.iload_n 1, 1) := by decide +kernel
theorem dL_merge_4 : decode cL_merge 4 = .ok (.iload_n 2, 1) := by decide +kernel
theorem dL_merge_5 : decode cL_merge 5 = .ok (.invokevirtual 110, 3) := by decide +kernel
theorem dL_merge_8 : decode cL_merge 8 = .ok (.ifCond .eq 7, 3) := by decide +kernel
theorem dL_merge_11 : decode cL_merge 11 = .ok (.lconst 1, 1) := by decide +kernel
theorem dL_merge_12 : decode cL_merge 12 = .ok (.goto 4, 3) := by decide +kernel
theorem dL_merge_15 : decode cL_merge 15 = .ok (.lconst 0, 1) := by decide +kernel
theorem dL_merge_16 : decode cL_merge 16 = .ok (.lastore, 1) := by decide +kernel
theorem dL_merge_17 : decode cL_merge 17 = .ok (.goto 7, 3) := by decide +kernel
theorem dL_merge_20 : decode cL_merge 20 = .ok (.astore 4, 2) := by decide +kernel
theorem dL_merge_22 : decode cL_merge 22 = .ok (.iconst 1, 1) := by decide +kernel
theorem dL_merge_23 : decode cL_merge 23 = .ok (.ireturn, 1) := by decide +kernel
theorem dL_merge_24 : decode cL_merge 24 = .ok (.iconst 0, 1) := by decide +kernel
theorem dL_merge_25 : decode cL_merge 25 = .ok (.ireturn, 1) := by decide +kernel
theorem dL_send_0 : decode cL_send 0 = .ok (.aload_n 2, 1) := by decide +kernel
theorem dL_send_1 : decode cL_send 1 = .ok (.iconst 0, 1) := by decide +kernel
theorem dL_send_2 : decode cL_send 2 = .ok (.aload_n 0, 1) := by decide +kernel
theorem dL_send_3 : decode cL_send 3 = .ok (.iload_n 1, 1) := by decide +kernel
theorem dL_send_4 : decode cL_send 4 = .ok (.invokevirtual 113, 3) := by decide +kernel
theorem dL_send_7 : decode cL_send 7 = .ok (.i2l, 1) := by decide +kernel
theorem dL_send_8 : decode cL_send 8 = .ok (.lastore, 1) := by decide +kernel
theorem dL_send_9 : decode cL_send 9 = .ok (.goto 9, 3) := by decide +kernel
theorem dL_send_12 : decode cL_send 12 = .ok (.astore_n 3, 1) := by decide +kernel
theorem dL_send_13 : decode cL_send 13 = .ok (.iconst 1, 1) := by decide +kernel
theorem dL_send_14 : decode cL_send 14 = .ok (.ireturn, 1) := by decide +kernel
theorem dL_send_15 : decode cL_send 15 = .ok (.astore_n 3, 1) := by decide +kernel
theorem dL_send_16 : decode cL_send 16 = .ok (.iconst 2, 1) := by decide +kernel
theorem dL_send_17 : decode cL_send 17 = .ok (.ireturn, 1) := by decide +kernel
theorem dL_send_18 : decode cL_send 18 = .ok (.iconst 0, 1) := by decide +kernel
theorem dL_send_19 : decode cL_send 19 = .ok (.ireturn, 1) := by decide +kernel
theorem dL_deliver_0 : decode cL_deliver 0 = .ok (.aload_n 3, 1) := by decide +kernel
theorem dL_deliver_1 : decode cL_deliver 1 = .ok (.iconst 0, 1) := by decide +kernel
theorem dL_deliver_2 : decode cL_deliver 2 = .ok (.aload_n 0, 1) := by decide +kernel
theorem dL_deliver_3 : decode cL_deliver 3 = .ok (.iload_n 1, 1) := by decide +kernel
theorem dL_deliver_4 : decode cL_deliver 4 = .ok (.iload_n 2, 1) := by decide +kernel
theorem dL_deliver_5 : decode cL_deliver 5 = .ok (.invokevirtual 116, 3) := by decide +kernel
theorem dL_deliver_8 : decode cL_deliver 8 = .ok (.ifCond .eq 7, 3) := by decide +kernel
theorem dL_deliver_11 : decode cL_deliver 11 = .ok (.lconst 1, 1) := by decide +kernel
theorem dL_deliver_12 : decode cL_deliver 12 = .ok (.goto 4, 3) := by decide +kernel
theorem dL_deliver_15 : decode cL_deliver 15 = .ok (.lconst 0, 1) := by decide +kernel
theorem dL_deliver_16 : decode cL_deliver 16 = .ok (.lastore, 1) := by decide +kernel
theorem dL_deliver_17 : decode cL_deliver 17 = .ok (.goto 7, 3) := by decide +kernel
theorem dL_deliver_20 : decode cL_deliver 20 = .ok (.astore 4, 2) := by decide +kernel
theorem dL_deliver_22 : decode cL_deliver 22 = .ok (.iconst 1, 1) := by decide +kernel
theorem dL_deliver_23 : decode cL_deliver 23 = .ok (.ireturn, 1) := by decide +kernel
theorem dL_deliver_24 : decode cL_deliver 24 = .ok (.iconst 0, 1) := by decide +kernel
theorem dL_deliver_25 : decode cL_deliver 25 = .ok (.ireturn, 1) := by decide +kernel
theorem dL_drop_0 : decode cL_drop 0 = .ok (.aload_n 2, 1) := by decide +kernel
theorem dL_drop_1 : decode cL_drop 1 = .ok (.iconst 0, 1) := by decide +kernel
theorem dL_drop_2 : decode cL_drop 2 = .ok (.aload_n 0, 1) := by decide +kernel
theorem dL_drop_3 : decode cL_drop 3 = .ok (.iload_n 1, 1) := by decide +kernel
theorem dL_drop_4 : decode cL_drop 4 = .ok (.invokevirtual 119, 3) := by decide +kernel
theorem dL_drop_7 : decode cL_drop 7 = .ok (.i2l, 1) := by decide +kernel
theorem dL_drop_8 : decode cL_drop 8 = .ok (.lastore, 1) := by decide +kernel
theorem dL_drop_9 : decode cL_drop 9 = .ok (.goto 6, 3) := by decide +kernel
theorem dL_drop_12 : decode cL_drop 12 = .ok (.astore_n 3, 1) := by decide +kernel
theorem dL_drop_13 : decode cL_drop 13 = .ok (.iconst 1, 1) := by decide +kernel
theorem dL_drop_14 : decode cL_drop 14 = .ok (.ireturn, 1) := by decide +kernel
theorem dL_drop_15 : decode cL_drop 15 = .ok (.iconst 0, 1) := by decide +kernel
theorem dL_drop_16 : decode cL_drop 16 = .ok (.ireturn, 1) := by decide +kernel
theorem dL_restore_0 : decode cL_restore 0 = .ok (.aload_n 2, 1) := by decide +kernel
theorem dL_restore_1 : decode cL_restore 1 = .ok (.iconst 0, 1) := by decide +kernel
theorem dL_restore_2 : decode cL_restore 2 = .ok (.aload_n 0, 1) := by decide +kernel
theorem dL_restore_3 : decode cL_restore 3 = .ok (.iload_n 1, 1) := by decide +kernel
theorem dL_restore_4 : decode cL_restore 4 = .ok (.invokevirtual 122, 3) := by decide +kernel
theorem dL_restore_7 : decode cL_restore 7 = .ok (.i2l, 1) := by decide +kernel
theorem dL_restore_8 : decode cL_restore 8 = .ok (.lastore, 1) := by decide +kernel
theorem dL_restore_9 : decode cL_restore 9 = .ok (.goto 9, 3) := by decide +kernel
theorem dL_restore_12 : decode cL_restore 12 = .ok (.astore_n 3, 1) := by decide +kernel
theorem dL_restore_13 : decode cL_restore 13 = .ok (.iconst 1, 1) := by decide +kernel
theorem dL_restore_14 : decode cL_restore 14 = .ok (.ireturn, 1) := by decide +kernel
theorem dL_restore_15 : decode cL_restore 15 = .ok (.astore_n 3, 1) := by decide +kernel
theorem dL_restore_16 : decode cL_restore 16 = .ok (.iconst 2, 1) := by decide +kernel
theorem dL_restore_17 : decode cL_restore 17 = .ok (.ireturn, 1) := by decide +kernel
theorem dL_restore_18 : decode cL_restore 18 = .ok (.iconst 0, 1) := by decide +kernel
theorem dL_restore_19 : decode cL_restore 19 = .ok (.ireturn, 1) := by decide +kernel
theorem dL_undo_0 : decode cL_undo 0 = .ok (.aload_n 1, 1) := by decide +kernel
theorem dL_undo_1 : decode cL_undo 1 = .ok (.iconst 0, 1) := by decide +kernel
theorem dL_undo_2 : decode cL_undo 2 = .ok (.aload_n 0, 1) := by decide +kernel
theorem dL_undo_3 : decode cL_undo 3 = .ok (.invokevirtual 125, 3) := by decide +kernel
theorem dL_undo_6 : decode cL_undo 6 = .ok (.i2l, 1) := by decide +kernel
theorem dL_undo_7 : decode cL_undo 7 = .ok (.lastore, 1) := by decide +kernel
theorem dL_undo_8 : decode cL_undo 8 = .ok (.goto 6, 3) := by decide +kernel
theorem dL_undo_11 : decode cL_undo 11 = .ok (.astore_n 2, 1) := by decide +kernel
theorem dL_undo_12 : decode cL_undo 12 = .ok (.iconst 1, 1) := by decide +kernel
theorem dL_undo_13 : decode cL_undo 13 = .ok (.ireturn, 1) := by decide +kernel
theorem dL_undo_14 : decode cL_undo 14 = .ok (.iconst 0, 1) := by decide +kernel
theorem dL_undo_15 : decode cL_undo 15 = .ok (.ireturn, 1) := by decide +kernel
theorem dL_save_0 : decode cL_save 0 = .ok (.aload_n 2, 1) := by decide +kernel
theorem dL_save_1 : decode cL_save 1 = .ok (.iconst 0, 1) := by decide +kernel
theorem dL_save_2 : decode cL_save 2 = .ok (.aload_n 0, 1) := by decide +kernel
theorem dL_save_3 : decode cL_save 3 = .ok (.iload_n 1, 1) := by decide +kernel
theorem dL_save_4 : decode cL_save 4 = .ok (.invokevirtual 129, 3) := by decide +kernel
theorem dL_save_7 : decode cL_save 7 = .ok (.i2l, 1) := by decide +kernel
theorem dL_save_8 : decode cL_save 8 = .ok (.lastore, 1) := by decide +kernel
theorem dL_save_9 : decode cL_save 9 = .ok (.goto 6, 3) := by decide +kernel
theorem dL_save_12 : decode cL_save 12 = .ok (.astore_n 3, 1) := by decide +kernel
theorem dL_save_13 : decode cL_save 13 = .ok (.iconst 1, 1) := by decide +kernel
theorem dL_save_14 : decode cL_save 14 = .ok (.ireturn, 1) := by decide +kernel
theorem dL_save_15 : decode cL_save 15 = .ok (.iconst 0, 1) := by decide +kernel
theorem dL_save_16 : decode cL_save 16 = .ok (.ireturn, 1) := by decide +kernel
theorem dL_writeTags_0 : decode cL_writeTags 0 = .ok (.aload_n 2, 1) := by decide +kernel
theorem dL_writeTags_1 : decode cL_writeTags 1 = .ok (.iconst 0, 1) := by decide +kernel
theorem dL_writeTags_2 : decode cL_writeTags 2 = .ok (.aload_n 0, 1) := by decide +kernel
theorem dL_writeTags_3 : decode cL_writeTags 3 = .ok (.iload_n 1, 1) := by decide +kernel
theorem dL_writeTags_4 : decode cL_writeTags 4 = .ok (.invokevirtual 132, 3) := by decide +kernel
theorem dL_writeTags_7 : decode cL_writeTags 7 = .ok (.i2l, 1) := by decide +kernel
theorem dL_writeTags_8 : decode cL_writeTags 8 = .ok (.lastore, 1) := by decide +kernel
theorem dL_writeTags_9 : decode cL_writeTags 9 = .ok (.goto 6, 3) := by decide +kernel
theorem dL_writeTags_12 : decode cL_writeTags 12 = .ok (.astore_n 3, 1) := by decide +kernel
theorem dL_writeTags_13 : decode cL_writeTags 13 = .ok (.iconst 1, 1) := by decide +kernel
theorem dL_writeTags_14 : decode cL_writeTags 14 = .ok (.ireturn, 1) := by decide +kernel
theorem dL_writeTags_15 : decode cL_writeTags 15 = .ok (.iconst 0, 1) := by decide +kernel
theorem dL_writeTags_16 : decode cL_writeTags 16 = .ok (.ireturn, 1) := by decide +kernel
theorem dL_writeRegister_0 : decode cL_writeRegister 0 = .ok (.aload_n 3, 1) := by decide +kernel
theorem dL_writeRegister_1 : decode cL_writeRegister 1 = .ok (.iconst 0, 1) := by decide +kernel
theorem dL_writeRegister_2 : decode cL_writeRegister 2 = .ok (.aload_n 0, 1) := by decide +kernel
theorem dL_writeRegister_3 : decode cL_writeRegister 3 = .ok (.iload_n 1, 1) := by decide +kernel
theorem dL_writeRegister_4 : decode cL_writeRegister 4 = .ok (.iload_n 2, 1) := by decide +kernel
theorem dL_writeRegister_5 : decode cL_writeRegister 5 = .ok (.invokevirtual 135, 3) := by decide +kernel
theorem dL_writeRegister_8 : decode cL_writeRegister 8 = .ok (.i2l, 1) := by decide +kernel
theorem dL_writeRegister_9 : decode cL_writeRegister 9 = .ok (.lastore, 1) := by decide +kernel
theorem dL_writeRegister_10 : decode cL_writeRegister 10 = .ok (.goto 7, 3) := by decide +kernel
theorem dL_writeRegister_13 : decode cL_writeRegister 13 = .ok (.astore 4, 2) := by decide +kernel
theorem dL_writeRegister_15 : decode cL_writeRegister 15 = .ok (.iconst 1, 1) := by decide +kernel
theorem dL_writeRegister_16 : decode cL_writeRegister 16 = .ok (.ireturn, 1) := by decide +kernel
theorem dL_writeRegister_17 : decode cL_writeRegister 17 = .ok (.iconst 0, 1) := by decide +kernel
theorem dL_writeRegister_18 : decode cL_writeRegister 18 = .ok (.ireturn, 1) := by decide +kernel
theorem dL_outputByte_0 : decode cL_outputByte 0 = .ok (.aload_n 2, 1) := by decide +kernel
theorem dL_outputByte_1 : decode cL_outputByte 1 = .ok (.iconst 0, 1) := by decide +kernel
theorem dL_outputByte_2 : decode cL_outputByte 2 = .ok (.aload_n 0, 1) := by decide +kernel
theorem dL_outputByte_3 : decode cL_outputByte 3 = .ok (.iload_n 1, 1) := by decide +kernel
theorem dL_outputByte_4 : decode cL_outputByte 4 = .ok (.invokevirtual 138, 3) := by decide +kernel
theorem dL_outputByte_7 : decode cL_outputByte 7 = .ok (.i2l, 1) := by decide +kernel
theorem dL_outputByte_8 : decode cL_outputByte 8 = .ok (.lastore, 1) := by decide +kernel
theorem dL_outputByte_9 : decode cL_outputByte 9 = .ok (.goto 6, 3) := by decide +kernel
theorem dL_outputByte_12 : decode cL_outputByte 12 = .ok (.astore_n 3, 1) := by decide +kernel
theorem dL_outputByte_13 : decode cL_outputByte 13 = .ok (.iconst 1, 1) := by decide +kernel
theorem dL_outputByte_14 : decode cL_outputByte 14 = .ok (.ireturn, 1) := by decide +kernel
theorem dL_outputByte_15 : decode cL_outputByte 15 = .ok (.iconst 0, 1) := by decide +kernel
theorem dL_outputByte_16 : decode cL_outputByte 16 = .ok (.ireturn, 1) := by decide +kernel
theorem dL_law_0 : decode cL_law 0 = .ok (.new 8, 3) := by decide +kernel
theorem dL_law_3 : decode cL_law 3 = .ok (.dup, 1) := by decide +kernel
theorem dL_law_4 : decode cL_law 4 = .ok (.invokespecial 141, 3) := by decide +kernel
theorem dL_law_7 : decode cL_law 7 = .ok (.astore_n 1, 1) := by decide +kernel
theorem dL_law_8 : decode cL_law 8 = .ok (.new 142, 3) := by decide +kernel
theorem dL_law_11 : decode cL_law 11 = .ok (.dup, 1) := by decide +kernel
theorem dL_law_12 : decode cL_law 12 = .ok (.invokespecial 144, 3) := by decide +kernel
theorem dL_law_15 : decode cL_law 15 = .ok (.astore_n 2, 1) := by decide +kernel
theorem dL_law_16 : decode cL_law 16 = .ok (.iconst 1, 1) := by decide +kernel
theorem dL_law_17 : decode cL_law 17 = .ok (.newarray .long, 2) := by decide +kernel
theorem dL_law_19 : decode cL_law 19 = .ok (.astore_n 3, 1) := by decide +kernel
theorem dL_law_20 : decode cL_law 20 = .ok (.iconst 0, 1) := by decide +kernel
theorem dL_law_21 : decode cL_law 21 = .ok (.istore 4, 2) := by decide +kernel
theorem dL_law_23 : decode cL_law 23 = .ok (.iload 4, 2) := by decide +kernel
theorem dL_law_25 : decode cL_law 25 = .ok (.aload_n 0, 1) := by decide +kernel
theorem dL_law_26 : decode cL_law 26 = .ok (.arraylength, 1) := by decide +kernel
theorem dL_law_27 : decode cL_law 27 = .ok (.bipush 6, 2) := by decide +kernel
theorem dL_law_29 : decode cL_law 29 = .ok (.isub, 1) := by decide +kernel
theorem dL_law_30 : decode cL_law 30 = .ok (.if_icmp .gt 3204, 3) := by decide +kernel
theorem dL_law_33 : decode cL_law 33 = .ok (.aload_n 0, 1) := by decide +kernel
theorem dL_law_34 : decode cL_law 34 = .ok (.iload 4, 2) := by decide +kernel
theorem dL_law_36 : decode cL_law 36 = .ok (.iaload, 1) := by decide +kernel
theorem dL_law_37 : decode cL_law 37 = .ok (.bipush 63, 2) := by decide +kernel
theorem dL_law_39 : decode cL_law 39 = .ok (.iand, 1) := by decide +kernel
theorem dL_law_40 : decode cL_law 40 = .ok (.tableswitch 3188 0 52 #[228, 332, 388, 401, 414, 427, 440, 453, 521, 596, 671, 746, 759, 827, 907, 987, 1062, 1130, 1210, 1266, 1334, 1402, 1482, 1550, 1606, 1674, 1742, 1810, 1878, 1934, 1947, 1960, 1973, 2014, 2057, 2070, 2126, 2201, 2281, 2361, 2429, 2497, 2577, 2652, 2665, 2721, 2796, 2852, 2908, 2952, 3008, 3064, 3132], 228) := by decide +kernel
theorem dL_law_268 : decode cL_law 268 = .ok (.aload_n 1, 1) := by decide +kernel
theorem dL_law_269 : decode cL_law 269 = .ok (.aload_n 0, 1) := by decide +kernel
theorem dL_law_270 : decode cL_law 270 = .ok (.iload 4, 2) := by decide +kernel
theorem dL_law_272 : decode cL_law 272 = .ok (.iconst 1, 1) := by decide +kernel
theorem dL_law_273 : decode cL_law 273 = .ok (.iadd, 1) := by decide +kernel
theorem dL_law_274 : decode cL_law 274 = .ok (.iaload, 1) := by decide +kernel
theorem dL_law_275 : decode cL_law 275 = .ok (.aload_n 0, 1) := by decide +kernel
theorem dL_law_276 : decode cL_law 276 = .ok (.iload 4, 2) := by decide +kernel
theorem dL_law_278 : decode cL_law 278 = .ok (.iconst 2, 1) := by decide +kernel
theorem dL_law_279 : decode cL_law 279 = .ok (.iadd, 1) := by decide +kernel
theorem dL_law_280 : decode cL_law 280 = .ok (.iaload, 1) := by decide +kernel
theorem dL_law_281 : decode cL_law 281 = .ok (.aload_n 0, 1) := by decide +kernel
theorem dL_law_282 : decode cL_law 282 = .ok (.iload 4, 2) := by decide +kernel
theorem dL_law_284 : decode cL_law 284 = .ok (.iconst 3, 1) := by decide +kernel
theorem dL_law_285 : decode cL_law 285 = .ok (.iadd, 1) := by decide +kernel
theorem dL_law_286 : decode cL_law 286 = .ok (.iaload, 1) := by decide +kernel
theorem dL_law_287 : decode cL_law 287 = .ok (.aload_n 0, 1) := by decide +kernel
theorem dL_law_288 : decode cL_law 288 = .ok (.iload 4, 2) := by decide +kernel
theorem dL_law_290 : decode cL_law 290 = .ok (.iconst 4, 1) := by decide +kernel
theorem dL_law_291 : decode cL_law 291 = .ok (.iadd, 1) := by decide +kernel
theorem dL_law_292 : decode cL_law 292 = .ok (.iaload, 1) := by decide +kernel
theorem dL_law_293 : decode cL_law 293 = .ok (.aload_n 0, 1) := by decide +kernel
theorem dL_law_294 : decode cL_law 294 = .ok (.iload 4, 2) := by decide +kernel
theorem dL_law_296 : decode cL_law 296 = .ok (.iconst 5, 1) := by decide +kernel
theorem dL_law_297 : decode cL_law 297 = .ok (.iadd, 1) := by decide +kernel
theorem dL_law_298 : decode cL_law 298 = .ok (.iaload, 1) := by decide +kernel
theorem dL_law_299 : decode cL_law 299 = .ok (.aload_n 3, 1) := by decide +kernel
theorem dL_law_300 : decode cL_law 300 = .ok (.invokestatic 145, 3) := by decide +kernel
theorem dL_law_303 : decode cL_law 303 = .ok (.istore 5, 2) := by decide +kernel
theorem dL_law_305 : decode cL_law 305 = .ok (.aload_n 2, 1) := by decide +kernel
theorem dL_law_306 : decode cL_law 306 = .ok (.aload_n 0, 1) := by decide +kernel
theorem dL_law_307 : decode cL_law 307 = .ok (.iload 4, 2) := by decide +kernel
theorem dL_law_309 : decode cL_law 309 = .ok (.iconst 1, 1) := by decide +kernel
theorem dL_law_310 : decode cL_law 310 = .ok (.iadd, 1) := by decide +kernel
theorem dL_law_311 : decode cL_law 311 = .ok (.iaload, 1) := by decide +kernel
theorem dL_law_312 : decode cL_law 312 = .ok (.aload_n 0, 1) := by decide +kernel
