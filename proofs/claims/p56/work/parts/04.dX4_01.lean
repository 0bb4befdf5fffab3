/-! what each instruction decodes to, as printed -/
theorem dX4_changeCounter_36 : decode cX4_changeCounter 36 = .ok (.getfield 39, 3) := by decide +kernel
theorem dX4_changeCounter_39 : decode cX4_changeCounter 39 = .ok (.aload_n 0, 1) := by decide +kernel
theorem dX4_changeCounter_40 : decode cX4_changeCounter 40 = .ok (.getfield 77, 3) := by decide +kernel
theorem dX4_changeCounter_43 : decode cX4_changeCounter 43 = .ok (.invokevirtual 237, 3) := by decide +kernel
theorem dX4_changeCounter_46 : decode cX4_changeCounter 46 = .ok (.aload 5, 2) := by decide +kernel
theorem dX4_changeCounter_48 : decode cX4_changeCounter 48 = .ok (.iload_n 1, 1) := by decide +kernel
theorem dX4_changeCounter_49 : decode cX4_changeCounter 49 = .ok (.iload_n 3, 1) := by decide +kernel
theorem dX4_changeCounter_50 : decode cX4_changeCounter 50 = .ok (.iload_n 2, 1) := by decide +kernel
theorem dX4_changeCounter_51 : decode cX4_changeCounter 51 = .ok (.iload 4, 2) := by decide +kernel
theorem dX4_changeCounter_53 : decode cX4_changeCounter 53 = .ok (.invokevirtual 241, 3) := by decide +kernel
theorem dX4_changeCounter_56 : decode cX4_changeCounter 56 = .ok (.aload 5, 2) := by decide +kernel
theorem dX4_changeCounter_58 : decode cX4_changeCounter 58 = .ok (.iload_n 3, 1) := by decide +kernel
theorem dX4_changeCounter_59 : decode cX4_changeCounter 59 = .ok (.invokevirtual 145, 3) := by decide +kernel
theorem dX4_changeCounter_62 : decode cX4_changeCounter 62 = .ok (.ireturn, 1) := by decide +kernel
theorem dX4_addTag_0 : decode cX4_addTag 0 = .ok (.aload_n 0, 1) := by decide +kernel
theorem dX4_addTag_1 : decode cX4_addTag 1 = .ok (.iload_n 1, 1) := by decide +kernel
theorem dX4_addTag_2 : decode cX4_addTag 2 = .ok (.invokevirtual 115, 3) := by decide +kernel
theorem dX4_addTag_5 : decode cX4_addTag 5 = .ok (.astore_n 3, 1) := by decide +kernel
theorem dX4_addTag_6 : decode cX4_addTag 6 = .ok (.aload_n 0, 1) := by decide +kernel
theorem dX4_addTag_7 : decode cX4_addTag 7 = .ok (.iload_n 2, 1) := by decide +kernel
theorem dX4_addTag_8 : decode cX4_addTag 8 = .ok (.invokevirtual 160, 3) := by decide +kernel
theorem dX4_addTag_11 : decode cX4_addTag 11 = .ok (.aload_n 0, 1) := by decide +kernel
theorem dX4_addTag_12 : decode cX4_addTag 12 = .ok (.getfield 39, 3) := by decide +kernel
theorem dX4_addTag_15 : decode cX4_addTag 15 = .ok (.aload_n 0, 1) := by decide +kernel
theorem dX4_addTag_16 : decode cX4_addTag 16 = .ok (.getfield 77, 3) := by decide +kernel
theorem dX4_addTag_19 : decode cX4_addTag 19 = .ok (.invokevirtual 237, 3) := by decide +kernel
theorem dX4_addTag_22 : decode cX4_addTag 22 = .ok (.aload_n 3, 1) := by decide +kernel
theorem dX4_addTag_23 : decode cX4_addTag 23 = .ok (.iload_n 1, 1) := by decide +kernel
theorem dX4_addTag_24 : decode cX4_addTag 24 = .ok (.iload_n 2, 1) := by decide +kernel
theorem dX4_addTag_25 : decode cX4_addTag 25 = .ok (.invokevirtual 245, 3) := by decide +kernel
theorem dX4_addTag_28 : decode cX4_addTag 28 = .ok (.aload_n 3, 1) := by decide +kernel
theorem dX4_addTag_29 : decode cX4_addTag 29 = .ok (.iload_n 1, 1) := by decide +kernel
theorem dX4_addTag_30 : decode cX4_addTag 30 = .ok (.invokevirtual 122, 3) := by decide +kernel
theorem dX4_addTag_33 : decode cX4_addTag 33 = .ok (.ireturn, 1) := by decide +kernel
theorem dX4_removeTag_0 : decode cX4_removeTag 0 = .ok (.aload_n 0, 1) := by decide +kernel
theorem dX4_removeTag_1 : decode cX4_removeTag 1 = .ok (.iload_n 1, 1) := by decide +kernel
theorem dX4_removeTag_2 : decode cX4_removeTag 2 = .ok (.invokevirtual 115, 3) := by decide +kernel
theorem dX4_removeTag_5 : decode cX4_removeTag 5 = .ok (.astore_n 3, 1) := by decide +kernel
theorem dX4_removeTag_6 : decode cX4_removeTag 6 = .ok (.aload_n 0, 1) := by decide +kernel
theorem dX4_removeTag_7 : decode cX4_removeTag 7 = .ok (.iload_n 2, 1) := by decide +kernel
theorem dX4_removeTag_8 : decode cX4_removeTag 8 = .ok (.invokevirtual 160, 3) := by decide +kernel
theorem dX4_removeTag_11 : decode cX4_removeTag 11 = .ok (.aload_n 3, 1) := by decide +kernel
theorem dX4_removeTag_12 : decode cX4_removeTag 12 = .ok (.iload_n 2, 1) := by decide +kernel
theorem dX4_removeTag_13 : decode cX4_removeTag 13 = .ok (.invokevirtual 163, 3) := by decide +kernel
theorem dX4_removeTag_16 : decode cX4_removeTag 16 = .ok (.istore 4, 2) := by decide +kernel
theorem dX4_removeTag_18 : decode cX4_removeTag 18 = .ok (.iload 4, 2) := by decide +kernel
theorem dX4_removeTag_20 : decode cX4_removeTag 20 = .ok (.ifCond .ne 13, 3) := by decide +kernel
theorem dX4_removeTag_23 : decode cX4_removeTag 23 = .ok (.new 80, 3) := by decide +kernel
theorem dX4_removeTag_26 : decode cX4_removeTag 26 = .ok (.dup, 1) := by decide +kernel
theorem dX4_removeTag_27 : decode cX4_removeTag 27 = .ok (.ldc 249, 2) := by decide +kernel
theorem dX4_removeTag_29 : decode cX4_removeTag 29 = .ok (.invokespecial 84, 3) := by decide +kernel
theorem dX4_removeTag_32 : decode cX4_removeTag 32 = .ok (.athrow, 1) := by decide +kernel
theorem dX4_removeTag_33 : decode cX4_removeTag 33 = .ok (.aload_n 0, 1) := by decide +kernel
theorem dX4_removeTag_34 : decode cX4_removeTag 34 = .ok (.getfield 39, 3) := by decide +kernel
theorem dX4_removeTag_37 : decode cX4_removeTag 37 = .ok (.aload_n 0, 1) := by decide +kernel
theorem dX4_removeTag_38 : decode cX4_removeTag 38 = .ok (.getfield 77, 3) := by decide +kernel
theorem dX4_removeTag_41 : decode cX4_removeTag 41 = .ok (.invokevirtual 237, 3) := by decide +kernel
theorem dX4_removeTag_44 : decode cX4_removeTag 44 = .ok (.aload_n 3, 1) := by decide +kernel
theorem dX4_removeTag_45 : decode cX4_removeTag 45 = .ok (.iload_n 2, 1) := by decide +kernel
theorem dX4_removeTag_46 : decode cX4_removeTag 46 = .ok (.invokevirtual 251, 3) := by decide +kernel
theorem dX4_removeTag_49 : decode cX4_removeTag 49 = .ok (.iload 4, 2) := by decide +kernel
theorem dX4_removeTag_51 : decode cX4_removeTag 51 = .ok (.ireturn, 1) := by decide +kernel
theorem dX4_write_0 : decode cX4_write 0 = .ok (.aload_n 0, 1) := by decide +kernel
theorem dX4_write_1 : decode cX4_write 1 = .ok (.iload_n 1, 1) := by decide +kernel
theorem dX4_write_2 : decode cX4_write 2 = .ok (.invokevirtual 115, 3) := by decide +kernel
theorem dX4_write_5 : decode cX4_write 5 = .ok (.astore 4, 2) := by decide +kernel
theorem dX4_write_7 : decode cX4_write 7 = .ok (.aload_n 0, 1) := by decide +kernel
theorem dX4_write_8 : decode cX4_write 8 = .ok (.iload_n 2, 1) := by decide +kernel
theorem dX4_write_9 : decode cX4_write 9 = .ok (.invokevirtual 177, 3) := by decide +kernel
theorem dX4_write_12 : decode cX4_write 12 = .ok (.iload_n 3, 1) := by decide +kernel
theorem dX4_write_13 : decode cX4_write 13 = .ok (.ifCond .lt 9, 3) := by decide +kernel
theorem dX4_write_16 : decode cX4_write 16 = .ok (.iload_n 3, 1) := by decide +kernel
theorem dX4_write_17 : decode cX4_write 17 = .ok (.bipush 99, 2) := by decide +kernel
theorem dX4_write_19 : decode cX4_write 19 = .ok (.if_icmp .le 13, 3) := by decide +kernel
theorem dX4_write_22 : decode cX4_write 22 = .ok (.new 98, 3) := by decide +kernel
theorem dX4_write_25 : decode cX4_write 25 = .ok (.dup, 1) := by decide +kernel
theorem dX4_write_26 : decode cX4_write 26 = .ok (.ldc 254, 2) := by decide +kernel
theorem dX4_write_28 : decode cX4_write 28 = .ok (.invokespecial 102, 3) := by decide +kernel
theorem dX4_write_31 : decode cX4_write 31 = .ok (.athrow, 1) := by decide +kernel
theorem dX4_write_32 : decode cX4_write 32 = .ok (.aload_n 0, 1) := by decide +kernel
theorem dX4_write_33 : decode cX4_write 33 = .ok (.getfield 39, 3) := by decide +kernel
theorem dX4_write_36 : decode cX4_write 36 = .ok (.aload_n 0, 1) := by decide +kernel
theorem dX4_write_37 : decode cX4_write 37 = .ok (.getfield 77, 3) := by decide +kernel
theorem dX4_write_40 : decode cX4_write 40 = .ok (.invokevirtual 237, 3) := by decide +kernel
theorem dX4_write_43 : decode cX4_write 43 = .ok (.aload 4, 2) := by decide +kernel
theorem dX4_write_45 : decode cX4_write 45 = .ok (.iload_n 2, 1) := by decide +kernel
theorem dX4_write_46 : decode cX4_write 46 = .ok (.invokevirtual 180, 3) := by decide +kernel
theorem dX4_write_49 : decode cX4_write 49 = .ok (.istore 5, 2) := by decide +kernel
theorem dX4_write_51 : decode cX4_write 51 = .ok (.aload 4, 2) := by decide +kernel
theorem dX4_write_53 : decode cX4_write 53 = .ok (.iload_n 1, 1) := by decide +kernel
theorem dX4_write_54 : decode cX4_write 54 = .ok (.iload_n 2, 1) := by decide +kernel
theorem dX4_write_55 : decode cX4_write 55 = .ok (.iload_n 3, 1) := by decide +kernel
theorem dX4_write_56 : decode cX4_write 56 = .ok (.invokevirtual 256, 3) := by decide +kernel
theorem dX4_write_59 : decode cX4_write 59 = .ok (.iload 5, 2) := by decide +kernel
theorem dX4_write_61 : decode cX4_write 61 = .ok (.ireturn, 1) := by decide +kernel
theorem dX4_merge_0 : decode cX4_merge 0 = .ok (.aload_n 0, 1) := by decide +kernel
theorem dX4_merge_1 : decode cX4_merge 1 = .ok (.aload_n 0, 1) := by decide +kernel
theorem dX4_merge_2 : decode cX4_merge 2 = .ok (.iload_n 1, 1) := by decide +kernel
theorem dX4_merge_3 : decode cX4_merge 3 = .ok (.invokevirtual 115, 3) := by decide +kernel
theorem dX4_merge_6 : decode cX4_merge 6 = .ok (.aload_n 0, 1) := by decide +kernel
theorem dX4_merge_7 : decode cX4_merge 7 = .ok (.iload_n 2, 1) := by decide +kernel
theorem dX4_merge_8 : decode cX4_merge 8 = .ok (.invokevirtual 115, 3) := by decide +kernel
theorem dX4_merge_11 : decode cX4_merge 11 = .ok (.invokevirtual 260, 3) := by decide +kernel
theorem dX4_merge_14 : decode cX4_merge 14 = .ok (.ireturn, 1) := by decide +kernel
theorem dX4_mergeAll_0 : decode cX4_mergeAll 0 = .ok (.aload_n 0, 1) := by decide +kernel
theorem dX4_mergeAll_1 : decode cX4_mergeAll 1 = .ok (.getfield 39, 3) := by decide +kernel
theorem dX4_mergeAll_4 : decode cX4_mergeAll 4 = .ok (.aload_n 0, 1) := by decide +kernel
theorem dX4_mergeAll_5 : decode cX4_mergeAll 5 = .ok (.getfield 77, 3) := by decide +kernel
theorem dX4_mergeAll_8 : decode cX4_mergeAll 8 = .ok (.invokevirtual 237, 3) := by decide +kernel
theorem dX4_mergeAll_11 : decode cX4_mergeAll 11 = .ok (.aload_n 0, 1) := by decide +kernel
theorem dX4_mergeAll_12 : decode cX4_mergeAll 12 = .ok (.invokevirtual 205, 3) := by decide +kernel
theorem dX4_mergeAll_15 : decode cX4_mergeAll 15 = .ok (.astore_n 1, 1) := by decide +kernel
theorem dX4_mergeAll_16 : decode cX4_mergeAll 16 = .ok (.iconst 0, 1) := by decide +kernel
theorem dX4_mergeAll_17 : decode cX4_mergeAll 17 = .ok (.istore_n 2, 1) := by decide +kernel
theorem dX4_mergeAll_18 : decode cX4_mergeAll 18 = .ok (.iconst 0, 1) := by decide +kernel
theorem dX4_mergeAll_19 : decode cX4_mergeAll 19 = .ok (.istore_n 3, 1) := by decide +kernel
theorem dX4_mergeAll_20 : decode cX4_mergeAll 20 = .ok (.iload_n 3, 1) := by decide +kernel
theorem dX4_mergeAll_21 : decode cX4_mergeAll 21 = .ok (.aload_n 0, 1) := by decide +kernel
theorem dX4_mergeAll_22 : decode cX4_mergeAll 22 = .ok (.getfield 77, 3) := by decide +kernel
theorem dX4_mergeAll_25 : decode cX4_mergeAll 25 = .ok (.getfield 106, 3) := by decide +kernel
theorem dX4_mergeAll_28 : decode cX4_mergeAll 28 = .ok (.if_icmp .ge 38, 3) := by decide +kernel
theorem dX4_mergeAll_31 : decode cX4_mergeAll 31 = .ok (.aload_n 0, 1) := by decide +kernel
theorem dX4_mergeAll_32 : decode cX4_mergeAll 32 = .ok (.getfield 77, 3) := by decide +kernel
theorem dX4_mergeAll_35 : decode cX4_mergeAll 35 = .ok (.getfield 138, 3) := by decide +kernel
theorem dX4_mergeAll_38 : decode cX4_mergeAll 38 = .ok (.iload_n 3, 1) := by decide +kernel
theorem dX4_mergeAll_39 : decode cX4_mergeAll 39 = .ok (.aaload, 1) := by decide +kernel
theorem dX4_mergeAll_40 : decode cX4_mergeAll 40 = .ok (.astore 4, 2) := by decide +kernel
theorem dX4_mergeAll_42 : decode cX4_mergeAll 42 = .ok (.aload 4, 2) := by decide +kernel
theorem dX4_mergeAll_44 : decode cX4_mergeAll 44 = .ok (.aload_n 1, 1) := by decide +kernel
theorem dX4_mergeAll_45 : decode cX4_mergeAll 45 = .ok (.invokevirtual 126, 3) := by decide +kernel
theorem dX4_mergeAll_48 : decode cX4_mergeAll 48 = .ok (.ifCond .ne 12, 3) := by decide +kernel
theorem dX4_mergeAll_51 : decode cX4_mergeAll 51 = .ok (.aload 4, 2) := by decide +kernel
theorem dX4_mergeAll_53 : decode cX4_mergeAll 53 = .ok (.aload_n 1, 1) := by decide +kernel
theorem dX4_mergeAll_54 : decode cX4_mergeAll 54 = .ok (.invokevirtual 263, 3) := by decide +kernel
theorem dX4_mergeAll_57 : decode cX4_mergeAll 57 = .ok (.iinc 2 1, 3) := by decide +kernel
theorem dX4_mergeAll_60 : decode cX4_mergeAll 60 = .ok (.iinc 3 1, 3) := by decide +kernel
theorem dX4_mergeAll_63 : decode cX4_mergeAll 63 = .ok (.goto (-43), 3) := by decide +kernel
theorem dX4_mergeAll_66 : decode cX4_mergeAll 66 = .ok (.iload_n 2, 1) := by decide +kernel
theorem dX4_mergeAll_67 : decode cX4_mergeAll 67 = .ok (.ireturn, 1) := by decide +kernel
theorem dX4_send_0 : decode cX4_send 0 = .ok (.aload_n 0, 1) := by decide +kernel
theorem dX4_send_1 : decode cX4_send 1 = .ok (.iload_n 1, 1) := by decide +kernel
theorem dX4_send_2 : decode cX4_send 2 = .ok (.invokevirtual 119, 3) := by decide +kernel
theorem dX4_send_5 : decode cX4_send 5 = .ok (.aload_n 0, 1) := by decide +kernel
theorem dX4_send_6 : decode cX4_send 6 = .ok (.getfield 77, 3) := by decide +kernel
theorem dX4_send_9 : decode cX4_send 9 = .ok (.getfield 219, 3) := by decide +kernel
theorem dX4_send_12 : decode cX4_send 12 = .ok (.bipush 6, 2) := by decide +kernel
theorem dX4_send_14 : decode cX4_send 14 = .ok (.if_icmp .lt 14, 3) := by decide +kernel
theorem dX4_send_17 : decode cX4_send 17 = .ok (.new 80, 3) := by decide +kernel
theorem dX4_send_20 : decode cX4_send 20 = .ok (.dup, 1) := by decide +kernel
theorem dX4_send_21 : decode cX4_send 21 = .ok (.ldc_w 266, 3) := by decide +kernel
theorem dX4_send_24 : decode cX4_send 24 = .ok (.invokespecial 84, 3) := by decide +kernel
theorem dX4_send_27 : decode cX4_send 27 = .ok (.athrow, 1) := by decide +kernel
theorem dX4_send_28 : decode cX4_send 28 = .ok (.aload_n 0, 1) := by decide +kernel
theorem dX4_send_29 : decode cX4_send 29 = .ok (.getfield 39, 3) := by decide +kernel
theorem dX4_send_32 : decode cX4_send 32 = .ok (.aload_n 0, 1) := by decide +kernel
theorem dX4_send_33 : decode cX4_send 33 = .ok (.getfield 77, 3) := by decide +kernel
theorem dX4_send_36 : decode cX4_send 36 = .ok (.invokevirtual 237, 3) := by decide +kernel
theorem dX4_send_39 : decode cX4_send 39 = .ok (.aload_n 0, 1) := by decide +kernel
theorem dX4_send_40 : decode cX4_send 40 = .ok (.getfield 77, 3) := by decide +kernel
theorem dX4_send_43 : decode cX4_send 43 = .ok (.iload_n 1, 1) := by decide +kernel
theorem dX4_send_44 : decode cX4_send 44 = .ok (.invokevirtual 268, 3) := by decide +kernel
theorem dX4_send_47 : decode cX4_send 47 = .ok (.aload_n 0, 1) := by decide +kernel
theorem dX4_send_48 : decode cX4_send 48 = .ok (.getfield 77, 3) := by decide +kernel
theorem dX4_send_51 : decode cX4_send 51 = .ok (.getfield 219, 3) := by decide +kernel
theorem dX4_send_54 : decode cX4_send 54 = .ok (.iconst 1, 1) := by decide +kernel
theorem dX4_send_55 : decode cX4_send 55 = .ok (.isub, 1) := by decide +kernel
theorem dX4_send_56 : decode cX4_send 56 = .ok (.ireturn, 1) := by decide +kernel
theorem dX4_deliver_0 : decode cX4_deliver 0 = .ok (.aload_n 0, 1) := by decide +kernel
theorem dX4_deliver_1 : decode cX4_deliver 1 = .ok (.iload_n 1, 1) := by decide +kernel
theorem dX4_deliver_2 : decode cX4_deliver 2 = .ok (.invokevirtual 222, 3) := by decide +kernel
theorem dX4_deliver_5 : decode cX4_deliver 5 = .ok (.aload_n 0, 1) := by decide +kernel
theorem dX4_deliver_6 : decode cX4_deliver 6 = .ok (.aload_n 0, 1) := by decide +kernel
theorem dX4_deliver_7 : decode cX4_deliver 7 = .ok (.iload_n 2, 1) := by decide +kernel
theorem dX4_deliver_8 : decode cX4_deliver 8 = .ok (.invokevirtual 115, 3) := by decide +kernel
theorem dX4_deliver_11 : decode cX4_deliver 11 = .ok (.aload_n 0, 1) := by decide +kernel
theorem dX4_deliver_12 : decode cX4_deliver 12 = .ok (.getfield 77, 3) := by decide +kernel
theorem dX4_deliver_15 : decode cX4_deliver 15 = .ok (.getfield 229, 3) := by decide +kernel
theorem dX4_deliver_18 : decode cX4_deliver 18 = .ok (.iload_n 1, 1) := by decide +kernel
theorem dX4_deliver_19 : decode cX4_deliver 19 = .ok (.aaload, 1) := by decide +kernel
theorem dX4_deliver_20 : decode cX4_deliver 20 = .ok (.invokevirtual 260, 3) := by decide +kernel
theorem dX4_deliver_23 : decode cX4_deliver 23 = .ok (.ireturn, 1) := by decide +kernel
theorem dX4_drop_0 : decode cX4_drop 0 = .ok (.aload_n 0, 1) := by decide +kernel
theorem dX4_drop_1 : decode cX4_drop 1 = .ok (.iload_n 1, 1) := by decide +kernel
theorem dX4_drop_2 : decode cX4_drop 2 = .ok (.invokevirtual 222, 3) := by decide +kernel
theorem dX4_drop_5 : decode cX4_drop 5 = .ok (.aload_n 0, 1) := by decide +kernel
theorem dX4_drop_6 : decode cX4_drop 6 = .ok (.getfield 39, 3) := by decide +kernel
theorem dX4_drop_9 : decode cX4_drop 9 = .ok (.aload_n 0, 1) := by decide +kernel
theorem dX4_drop_10 : decode cX4_drop 10 = .ok (.getfield 77, 3) := by decide +kernel
theorem dX4_drop_13 : decode cX4_drop 13 = .ok (.invokevirtual 237, 3) := by decide +kernel
theorem dX4_drop_16 : decode cX4_drop 16 = .ok (.aload_n 0, 1) := by decide +kernel
theorem dX4_drop_17 : decode cX4_drop 17 = .ok (.getfield 77, 3) := by decide +kernel
theorem dX4_drop_20 : decode cX4_drop 20 = .ok (.iload_n 1, 1) := by decide +kernel
theorem dX4_drop_21 : decode cX4_drop 21 = .ok (.invokevirtual 271, 3) := by decide +kernel
theorem dX4_drop_24 : decode cX4_drop 24 = .ok (.aload_n 0, 1) := by decide +kernel
theorem dX4_drop_25 : decode cX4_drop 25 = .ok (.getfield 77, 3) := by decide +kernel
theorem dX4_drop_28 : decode cX4_drop 28 = .ok (.getfield 219, 3) := by decide +kernel
theorem dX4_drop_31 : decode cX4_drop 31 = .ok (.ireturn, 1) := by decide +kernel
theorem dX4_restore_0 : decode cX4_restore 0 = .ok (.aload_n 0, 1) := by decide +kernel
theorem dX4_restore_1 : decode cX4_restore 1 = .ok (.iload_n 1, 1) := by decide +kernel
theorem dX4_restore_2 : decode cX4_restore 2 = .ok (.invokevirtual 274, 3) := by decide +kernel
theorem dX4_restore_5 : decode cX4_restore 5 = .ok (.aload_n 0, 1) := by decide +kernel
theorem dX4_restore_6 : decode cX4_restore 6 = .ok (.getfield 43, 3) := by decide +kernel
theorem dX4_restore_9 : decode cX4_restore 9 = .ok (.iload_n 1, 1) := by decide +kernel
theorem dX4_restore_10 : decode cX4_restore 10 = .ok (.aaload, 1) := by decide +kernel
theorem dX4_restore_11 : decode cX4_restore 11 = .ok (.astore_n 2, 1) := by decide +kernel
theorem dX4_restore_12 : decode cX4_restore 12 = .ok (.aload_n 2, 1) := by decide +kernel
theorem dX4_restore_13 : decode cX4_restore 13 = .ok (.ifnonnull 14, 3) := by decide +kernel
theorem dX4_restore_16 : decode cX4_restore 16 = .ok (.new 80, 3) := by decide +kernel
theorem dX4_restore_19 : decode cX4_restore 19 = .ok (.dup, 1) := by decide +kernel
theorem dX4_restore_20 : decode cX4_restore 20 = .ok (.ldc_w 277, 3) := by decide +kernel
theorem dX4_restore_23 : decode cX4_restore 23 = .ok (.invokespecial 84, 3) := by decide +kernel
theorem dX4_restore_26 : decode cX4_restore 26 = .ok (.athrow, 1) := by decide +kernel
theorem dX4_restore_27 : decode cX4_restore 27 = .ok (.aload_n 0, 1) := by decide +kernel
theorem dX4_restore_28 : decode cX4_restore 28 = .ok (.getfield 39, 3) := by decide +kernel
theorem dX4_restore_31 : decode cX4_restore 31 = .ok (.aload_n 0, 1) := by decide +kernel
theorem dX4_restore_32 : decode cX4_restore 32 = .ok (.getfield 77, 3) := by decide +kernel
theorem dX4_restore_35 : decode cX4_restore 35 = .ok (.invokevirtual 237, 3) := by decide +kernel
theorem dX4_restore_38 : decode cX4_restore 38 = .ok (.aload_n 0, 1) := by decide +kernel
theorem dX4_restore_39 : decode cX4_restore 39 = .ok (.getfield 77, 3) := by decide +kernel
theorem dX4_restore_42 : decode cX4_restore 42 = .ok (.aload_n 2, 1) := by decide +kernel
theorem dX4_restore_43 : decode cX4_restore 43 = .ok (.invokevirtual 279, 3) := by decide +kernel
theorem dX4_restore_46 : decode cX4_restore 46 = .ok (.aload_n 0, 1) := by decide +kernel
theorem dX4_restore_47 : decode cX4_restore 47 = .ok (.getfield 77, 3) := by decide +kernel
theorem dX4_restore_50 : decode cX4_restore 50 = .ok (.getfield 219, 3) := by decide +kernel
theorem dX4_restore_53 : decode cX4_restore 53 = .ok (.ireturn, 1) := by decide +kernel
theorem dX4_undo_0 : decode cX4_undo 0 = .ok (.aload_n 0, 1) := by decide +kernel
theorem dX4_undo_1 : decode cX4_undo 1 = .ok (.getfield 39, 3) := by decide +kernel
theorem dX4_undo_4 : decode cX4_undo 4 = .ok (.getfield 281, 3) := by decide +kernel
theorem dX4_undo_7 : decode cX4_undo 7 = .ok (.ifCond .ne 14, 3) := by decide +kernel
theorem dX4_undo_10 : decode cX4_undo 10 = .ok (.new 80, 3) := by decide +kernel
theorem dX4_undo_13 : decode cX4_undo 13 = .ok (.dup, 1) := by decide +kernel
theorem dX4_undo_14 : decode cX4_undo 14 = .ok (.ldc_w 284, 3) := by decide +kernel
theorem dX4_undo_17 : decode cX4_undo 17 = .ok (.invokespecial 84, 3) := by decide +kernel
theorem dX4_undo_20 : decode cX4_undo 20 = .ok (.athrow, 1) := by decide +kernel
theorem dX4_undo_21 : decode cX4_undo 21 = .ok (.aload_n 0, 1) := by decide +kernel
theorem dX4_undo_22 : decode cX4_undo 22 = .ok (.aload_n 0, 1) := by decide +kernel
theorem dX4_undo_23 : decode cX4_undo 23 = .ok (.getfield 39, 3) := by decide +kernel
theorem dX4_undo_26 : decode cX4_undo 26 = .ok (.aload_n 0, 1) := by decide +kernel
theorem dX4_undo_27 : decode cX4_undo 27 = .ok (.getfield 77, 3) := by decide +kernel
theorem dX4_undo_30 : decode cX4_undo 30 = .ok (.invokevirtual 286, 3) := by decide +kernel
theorem dX4_undo_33 : decode cX4_undo 33 = .ok (.putfield 77, 3) := by decide +kernel
theorem dX4_undo_36 : decode cX4_undo 36 = .ok (.aload_n 0, 1) := by decide +kernel
theorem dX4_undo_37 : decode cX4_undo 37 = .ok (.getfield 39, 3) := by decide +kernel
theorem dX4_undo_40 : decode cX4_undo 40 = .ok (.getfield 281, 3) := by decide +kernel
theorem dX4_undo_43 : decode cX4_undo 43 = .ok (.ireturn, 1) := by decide +kernel
theorem dX4_save_0 : decode cX4_save 0 = .ok (.aload_n 0, 1) := by decide +kernel
theorem dX4_save_1 : decode cX4_save 1 = .ok (.iload_n 1, 1) := by decide +kernel
theorem dX4_save_2 : decode cX4_save 2 = .ok (.invokevirtual 274, 3) := by decide +kernel
theorem dX4_save_5 : decode cX4_save 5 = .ok (.aload_n 0, 1) := by decide +kernel
theorem dX4_save_6 : decode cX4_save 6 = .ok (.getfield 43, 3) := by decide +kernel
theorem dX4_save_9 : decode cX4_save 9 = .ok (.iload_n 1, 1) := by decide +kernel
theorem dX4_save_10 : decode cX4_save 10 = .ok (.aaload, 1) := by decide +kernel
theorem dX4_save_11 : decode cX4_save 11 = .ok (.astore_n 2, 1) := by decide +kernel
theorem dX4_save_12 : decode cX4_save 12 = .ok (.aload_n 2, 1) := by decide +kernel
theorem dX4_save_13 : decode cX4_save 13 = .ok (.ifnonnull 18, 3) := by decide +kernel
theorem dX4_save_16 : decode cX4_save 16 = .ok (.new 29, 3) := by decide +kernel
theorem dX4_save_19 : decode cX4_save 19 = .ok (.dup, 1) := by decide +kernel
theorem dX4_save_20 : decode cX4_save 20 = .ok (.invokespecial 31, 3) := by decide +kernel
theorem dX4_save_23 : decode cX4_save 23 = .ok (.astore_n 2, 1) := by decide +kernel
theorem dX4_save_24 : decode cX4_save 24 = .ok (.aload_n 0, 1) := by decide +kernel
theorem dX4_save_25 : decode cX4_save 25 = .ok (.getfield 43, 3) := by decide +kernel
theorem dX4_save_28 : decode cX4_save 28 = .ok (.iload_n 1, 1) := by decide +kernel
theorem dX4_save_29 : decode cX4_save 29 = .ok (.aload_n 2, 1) := by decide +kernel
theorem dX4_save_30 : decode cX4_save 30 = .ok (.aastore, 1) := by decide +kernel
theorem dX4_save_31 : decode cX4_save 31 = .ok (.aload_n 2, 1) := by decide +kernel
theorem dX4_save_32 : decode cX4_save 32 = .ok (.aload_n 0, 1) := by decide +kernel
theorem dX4_save_33 : decode cX4_save 33 = .ok (.getfield 77, 3) := by decide +kernel
theorem dX4_save_36 : decode cX4_save 36 = .ok (.invokevirtual 279, 3) := by decide +kernel
theorem dX4_save_39 : decode cX4_save 39 = .ok (.aload_n 2, 1) := by decide +kernel
theorem dX4_save_40 : decode cX4_save 40 = .ok (.getfield 219, 3) := by decide +kernel
theorem dX4_save_43 : decode cX4_save 43 = .ok (.ireturn, 1) := by decide +kernel
theorem dX4_requireReplica_0 : decode cX4_requireReplica 0 = .ok (.iload_n 1, 1) := by decide +kernel
theorem dX4_requireReplica_1 : decode cX4_requireReplica 1 = .ok (.ifCond .lt 14, 3) := by decide +kernel
theorem dX4_requireReplica_4 : decode cX4_requireReplica 4 = .ok (.iload_n 1, 1) := by decide +kernel
theorem dX4_requireReplica_5 : decode cX4_requireReplica 5 = .ok (.aload_n 0, 1) := by decide +kernel
theorem dX4_requireReplica_6 : decode cX4_requireReplica 6 = .ok (.getfield 77, 3) := by decide +kernel
theorem dX4_requireReplica_9 : decode cX4_requireReplica 9 = .ok (.getfield 106, 3) := by decide +kernel
theorem dX4_requireReplica_12 : decode cX4_requireReplica 12 = .ok (.if_icmp .lt 14, 3) := by decide +kernel
theorem dX4_requireReplica_15 : decode cX4_requireReplica 15 = .ok (.new 91, 3) := by decide +kernel
theorem dX4_requireReplica_18 : decode cX4_requireReplica 18 = .ok (.dup, 1) := by decide +kernel
theorem dX4_requireReplica_19 : decode cX4_requireReplica 19 = .ok (.ldc_w 298, 3) := by decide +kernel
theorem dX4_requireReplica_22 : decode cX4_requireReplica 22 = .ok (.invokespecial 95, 3) := by decide +kernel
theorem dX4_requireReplica_25 : decode cX4_requireReplica 25 = .ok (.athrow, 1) := by decide +kernel
theorem dX4_requireReplica_26 : decode cX4_requireReplica 26 = .ok (.return_, 1) := by decide +kernel
theorem dX4_requireCounter_0 : decode cX4_requireCounter 0 = .ok (.iload_n 1, 1) := by decide +kernel
theorem dX4_requireCounter_1 : decode cX4_requireCounter 1 = .ok (.ifCond .lt 14, 3) := by decide +kernel
theorem dX4_requireCounter_4 : decode cX4_requireCounter 4 = .ok (.iload_n 1, 1) := by decide +kernel
theorem dX4_requireCounter_5 : decode cX4_requireCounter 5 = .ok (.aload_n 0, 1) := by decide +kernel
theorem dX4_requireCounter_6 : decode cX4_requireCounter 6 = .ok (.getfield 77, 3) := by decide +kernel
theorem dX4_requireCounter_9 : decode cX4_requireCounter 9 = .ok (.getfield 109, 3) := by decide +kernel
theorem dX4_requireCounter_12 : decode cX4_requireCounter 12 = .ok (.if_icmp .lt 14, 3) := by decide +kernel
theorem dX4_requireCounter_15 : decode cX4_requireCounter 15 = .ok (.new 91, 3) := by decide +kernel
theorem dX4_requireCounter_18 : decode cX4_requireCounter 18 = .ok (.dup, 1) := by decide +kernel
theorem dX4_requireCounter_19 : decode cX4_requireCounter 19 = .ok (.ldc_w 300, 3) := by decide +kernel
theorem dX4_requireCounter_22 : decode cX4_requireCounter 22 = .ok (.invokespecial 95, 3) := by decide +kernel
theorem dX4_requireCounter_25 : decode cX4_requireCounter 25 = .ok (.athrow, 1) := by decide +kernel
theorem dX4_requireCounter_26 : decode cX4_requireCounter 26 = .ok (.return_, 1) := by decide +kernel
theorem dX4_requireTag_0 : decode cX4_requireTag 0 = .ok (.iload_n 1, 1) := by decide +kernel
theorem dX4_requireTag_1 : decode cX4_requireTag 1 = .ok (.ifCond .lt 9, 3) := by decide +kernel
theorem dX4_requireTag_4 : decode cX4_requireTag 4 = .ok (.iload_n 1, 1) := by decide +kernel
theorem dX4_requireTag_5 : decode cX4_requireTag 5 = .ok (.bipush 16, 2) := by decide +kernel
theorem dX4_requireTag_7 : decode cX4_requireTag 7 = .ok (.if_icmp .lt 13, 3) := by decide +kernel
theorem dX4_requireTag_10 : decode cX4_requireTag 10 = .ok (.new 91, 3) := by decide +kernel
theorem dX4_requireTag_13 : decode cX4_requireTag 13 = .ok (.dup, 1) := by decide +kernel
theorem dX4_requireTag_14 : decode cX4_requireTag 14 = .ok (.ldc 175, 2) := by decide +kernel
theorem dX4_requireTag_16 : decode cX4_requireTag 16 = .ok (.invokespecial 95, 3) := by decide +kernel
theorem dX4_requireTag_19 : decode cX4_requireTag 19 = .ok (.athrow, 1) := by decide +kernel
theorem dX4_requireTag_20 : decode cX4_requireTag 20 = .ok (.return_, 1) := by decide +kernel
theorem dX4_requireRegister_0 : decode cX4_requireRegister 0 = .ok (.iload_n 1, 1) := by decide +kernel
theorem dX4_requireRegister_1 : decode cX4_requireRegister 1 = .ok (.ifCond .lt 14, 3) := by decide +kernel
theorem dX4_requireRegister_4 : decode cX4_requireRegister 4 = .ok (.iload_n 1, 1) := by decide +kernel
theorem dX4_requireRegister_5 : decode cX4_requireRegister 5 = .ok (.aload_n 0, 1) := by decide +kernel
theorem dX4_requireRegister_6 : decode cX4_requireRegister 6 = .ok (.getfield 77, 3) := by decide +kernel
theorem dX4_requireRegister_9 : decode cX4_requireRegister 9 = .ok (.getfield 112, 3) := by decide +kernel
theorem dX4_requireRegister_12 : decode cX4_requireRegister 12 = .ok (.if_icmp .lt 14, 3) := by decide +kernel
theorem dX4_requireRegister_15 : decode cX4_requireRegister 15 = .ok (.new 91, 3) := by decide +kernel
theorem dX4_requireRegister_18 : decode cX4_requireRegister 18 = .ok (.dup, 1) := by decide +kernel
theorem dX4_requireRegister_19 : decode cX4_requireRegister 19 = .ok (.ldc_w 302, 3) := by decide +kernel
theorem dX4_requireRegister_22 : decode cX4_requireRegister 22 = .ok (.invokespecial 95, 3) := by decide +kernel
theorem dX4_requireRegister_25 : decode cX4_requireRegister 25 = .ok (.athrow, 1) := by decide +kernel
theorem dX4_requireRegister_26 : decode cX4_requireRegister 26 = .ok (.return_, 1) := by decide +kernel
theorem dX4_requireMessage_0 : decode cX4_requireMessage 0 = .ok (.iload_n 1, 1) := by decide +kernel
theorem dX4_requireMessage_1 : decode cX4_requireMessage 1 = .ok (.ifCond .lt 14, 3) := by decide +kernel
theorem dX4_requireMessage_4 : decode cX4_requireMessage 4 = .ok (.iload_n 1, 1) := by decide +kernel
theorem dX4_requireMessage_5 : decode cX4_requireMessage 5 = .ok (.aload_n 0, 1) := by decide +kernel
theorem dX4_requireMessage_6 : decode cX4_requireMessage 6 = .ok (.getfield 77, 3) := by decide +kernel
theorem dX4_requireMessage_9 : decode cX4_requireMessage 9 = .ok (.getfield 219, 3) := by decide +kernel
theorem dX4_requireMessage_12 : decode cX4_requireMessage 12 = .ok (.if_icmp .lt 14, 3) := by decide +kernel
theorem dX4_requireMessage_15 : decode cX4_requireMessage 15 = .ok (.new 91, 3) := by decide +kernel
theorem dX4_requireMessage_18 : decode cX4_requireMessage 18 = .ok (.dup, 1) := by decide +kernel
theorem dX4_requireMessage_19 : decode cX4_requireMessage 19 = .ok (.ldc_w 304, 3) := by decide +kernel
theorem dX4_requireMessage_22 : decode cX4_requireMessage 22 = .ok (.invokespecial 95, 3) := by decide +kernel
theorem dX4_requireMessage_25 : decode cX4_requireMessage 25 = .ok (.athrow, 1) := by decide +kernel
theorem dX4_requireMessage_26 : decode cX4_requireMessage 26 = .ok (.return_, 1) := by decide +kernel
theorem dX4_requireSlot_0 : decode cX4_requireSlot 0 = .ok (.iload_n 1, 1) := by decide +kernel
theorem dX4_requireSlot_1 : decode cX4_requireSlot 1 = .ok (.ifCond .lt 8, 3) := by decide +kernel
theorem dX4_requireSlot_4 : decode cX4_requireSlot 4 = .ok (.iload_n 1, 1) := by decide +kernel
theorem dX4_requireSlot_5 : decode cX4_requireSlot 5 = .ok (.iconst 2, 1) := by decide +kernel
theorem dX4_requireSlot_6 : decode cX4_requireSlot 6 = .ok (.if_icmp .lt 14, 3) := by decide +kernel
theorem dX4_requireSlot_9 : decode cX4_requireSlot 9 = .ok (.new 91, 3) := by decide +kernel
theorem dX4_requireSlot_12 : decode cX4_requireSlot 12 = .ok (.dup, 1) := by decide +kernel
theorem dX4_requireSlot_13 : decode cX4_requireSlot 13 = .ok (.ldc_w 306, 3) := by decide +kernel
theorem dX4_requireSlot_16 : decode cX4_requireSlot 16 = .ok (.invokespecial 95, 3) := by decide +kernel
theorem dX4_requireSlot_19 : decode cX4_requireSlot 19 = .ok (.athrow, 1) := by decide +kernel
theorem dX4_requireSlot_20 : decode cX4_requireSlot 20 = .ok (.return_, 1) := by decide +kernel
theorem dX4_stateOf_0 : decode cX4_stateOf 0 = .ok (.aload_n 0, 1) := by decide +kernel
theorem dX4_stateOf_1 : decode cX4_stateOf 1 = .ok (.iload_n 1, 1) := by decide +kernel
theorem dX4_stateOf_2 : decode cX4_stateOf 2 = .ok (.invokevirtual 119, 3) := by decide +kernel
theorem dX4_stateOf_5 : decode cX4_stateOf 5 = .ok (.aload_n 0, 1) := by decide +kernel
theorem dX4_stateOf_6 : decode cX4_stateOf 6 = .ok (.getfield 77, 3) := by decide +kernel
theorem dX4_stateOf_9 : decode cX4_stateOf 9 = .ok (.getfield 138, 3) := by decide +kernel
theorem dX4_stateOf_12 : decode cX4_stateOf 12 = .ok (.iload_n 1, 1) := by decide +kernel
theorem dX4_stateOf_13 : decode cX4_stateOf 13 = .ok (.aaload, 1) := by decide +kernel
theorem dX4_stateOf_14 : decode cX4_stateOf 14 = .ok (.areturn, 1) := by decide +kernel
theorem dX4_mergedOnTrial_0 : decode cX4_mergedOnTrial 0 = .ok (.aload_n 0, 1) := by decide +kernel
theorem dX4_mergedOnTrial_1 : decode cX4_mergedOnTrial 1 = .ok (.getfield 50, 3) := by decide +kernel
theorem dX4_mergedOnTrial_4 : decode cX4_mergedOnTrial 4 = .ok (.aload_n 1, 1) := by decide +kernel
theorem dX4_mergedOnTrial_5 : decode cX4_mergedOnTrial 5 = .ok (.invokevirtual 263, 3) := by decide +kernel
theorem dX4_mergedOnTrial_8 : decode cX4_mergedOnTrial 8 = .ok (.aload_n 0, 1) := by decide +kernel
theorem dX4_mergedOnTrial_9 : decode cX4_mergedOnTrial 9 = .ok (.getfield 50, 3) := by decide +kernel
theorem dX4_mergedOnTrial_12 : decode cX4_mergedOnTrial 12 = .ok (.aload_n 2, 1) := by decide +kernel
theorem dX4_mergedOnTrial_13 : decode cX4_mergedOnTrial 13 = .ok (.invokevirtual 212, 3) := by decide +kernel
theorem dX4_mergedOnTrial_16 : decode cX4_mergedOnTrial 16 = .ok (.aload_n 0, 1) := by decide +kernel
theorem dX4_mergedOnTrial_17 : decode cX4_mergedOnTrial 17 = .ok (.getfield 50, 3) := by decide +kernel
theorem dX4_mergedOnTrial_20 : decode cX4_mergedOnTrial 20 = .ok (.areturn, 1) := by decide +kernel
theorem dX4_allMergedOnTrial_0 : decode cX4_allMergedOnTrial 0 = .ok (.aload_n 0, 1) := by decide +kernel
theorem dX4_allMergedOnTrial_1 : decode cX4_allMergedOnTrial 1 = .ok (.getfield 50, 3) := by decide +kernel
theorem dX4_allMergedOnTrial_4 : decode cX4_allMergedOnTrial 4 = .ok (.invokevirtual 209, 3) := by decide +kernel
theorem dX4_allMergedOnTrial_7 : decode cX4_allMergedOnTrial 7 = .ok (.iconst 0, 1) := by decide +kernel
theorem dX4_allMergedOnTrial_8 : decode cX4_allMergedOnTrial 8 = .ok (.istore_n 1, 1) := by decide +kernel
theorem dX4_allMergedOnTrial_9 : decode cX4_allMergedOnTrial 9 = .ok (.iload_n 1, 1) := by decide +kernel
theorem dX4_allMergedOnTrial_10 : decode cX4_allMergedOnTrial 10 = .ok (.aload_n 0, 1) := by decide +kernel
theorem dX4_allMergedOnTrial_11 : decode cX4_allMergedOnTrial 11 = .ok (.getfield 77, 3) := by decide +kernel
theorem dX4_allMergedOnTrial_14 : decode cX4_allMergedOnTrial 14 = .ok (.getfield 106, 3) := by decide +kernel
theorem dX4_allMergedOnTrial_17 : decode cX4_allMergedOnTrial 17 = .ok (.if_icmp .ge 25, 3) := by decide +kernel
theorem dX4_allMergedOnTrial_20 : decode cX4_allMergedOnTrial 20 = .ok (.aload_n 0, 1) := by decide +kernel
theorem dX4_allMergedOnTrial_21 : decode cX4_allMergedOnTrial 21 = .ok (.getfield 50, 3) := by decide +kernel
theorem dX4_allMergedOnTrial_24 : decode cX4_allMergedOnTrial 24 = .ok (.aload_n 0, 1) := by decide +kernel
theorem dX4_allMergedOnTrial_25 : decode cX4_allMergedOnTrial 25 = .ok (.getfield 77, 3) := by decide +kernel
theorem dX4_allMergedOnTrial_28 : decode cX4_allMergedOnTrial 28 = .ok (.getfield 138, 3) := by decide +kernel
theorem dX4_allMergedOnTrial_31 : decode cX4_allMergedOnTrial 31 = .ok (.iload_n 1, 1) := by decide +kernel
theorem dX4_allMergedOnTrial_32 : decode cX4_allMergedOnTrial 32 = .ok (.aaload, 1) := by decide +kernel
theorem dX4_allMergedOnTrial_33 : decode cX4_allMergedOnTrial 33 = .ok (.invokevirtual 212, 3) := by decide +kernel
theorem dX4_allMergedOnTrial_36 : decode cX4_allMergedOnTrial 36 = .ok (.iinc 1 1, 3) := by decide +kernel
theorem dX4_allMergedOnTrial_39 : decode cX4_allMergedOnTrial 39 = .ok (.goto (-30), 3) := by decide +kernel
theorem dX4_allMergedOnTrial_42 : decode cX4_allMergedOnTrial 42 = .ok (.aload_n 0, 1) := by decide +kernel
theorem dX4_allMergedOnTrial_43 : decode cX4_allMergedOnTrial 43 = .ok (.getfield 50, 3) := by decide +kernel
theorem dX4_allMergedOnTrial_46 : decode cX4_allMergedOnTrial 46 = .ok (.areturn, 1) := by decide +kernel
theorem dX4_knowsAllOf_0 : decode cX4_knowsAllOf 0 = .ok (.aload_n 0, 1) := by decide +kernel
theorem dX4_knowsAllOf_1 : decode cX4_knowsAllOf 1 = .ok (.aload_n 1, 1) := by decide +kernel
theorem dX4_knowsAllOf_2 : decode cX4_knowsAllOf 2 = .ok (.aload_n 2, 1) := by decide +kernel
theorem dX4_knowsAllOf_3 : decode cX4_knowsAllOf 3 = .ok (.invokevirtual 198, 3) := by decide +kernel
theorem dX4_knowsAllOf_6 : decode cX4_knowsAllOf 6 = .ok (.aload_n 1, 1) := by decide +kernel
theorem dX4_knowsAllOf_7 : decode cX4_knowsAllOf 7 = .ok (.invokevirtual 126, 3) := by decide +kernel
theorem dX4_knowsAllOf_10 : decode cX4_knowsAllOf 10 = .ok (.ireturn, 1) := by decide +kernel
theorem dX4_mergeAndRecord_0 : decode cX4_mergeAndRecord 0 = .ok (.aload_n 0, 1) := by decide +kernel
theorem dX4_mergeAndRecord_1 : decode cX4_mergeAndRecord 1 = .ok (.getfield 39, 3) := by decide +kernel
theorem dX4_mergeAndRecord_4 : decode cX4_mergeAndRecord 4 = .ok (.aload_n 0, 1) := by decide +kernel
theorem dX4_mergeAndRecord_5 : decode cX4_mergeAndRecord 5 = .ok (.getfield 77, 3) := by decide +kernel
theorem dX4_mergeAndRecord_8 : decode cX4_mergeAndRecord 8 = .ok (.invokevirtual 237, 3) := by decide +kernel
theorem dX4_mergeAndRecord_11 : decode cX4_mergeAndRecord 11 = .ok (.aload_n 0, 1) := by decide +kernel
theorem dX4_mergeAndRecord_12 : decode cX4_mergeAndRecord 12 = .ok (.getfield 50, 3) := by decide +kernel
theorem dX4_mergeAndRecord_15 : decode cX4_mergeAndRecord 15 = .ok (.aload_n 1, 1) := by decide +kernel
theorem dX4_mergeAndRecord_16 : decode cX4_mergeAndRecord 16 = .ok (.invokevirtual 263, 3) := by decide +kernel
theorem dX4_mergeAndRecord_19 : decode cX4_mergeAndRecord 19 = .ok (.aload_n 1, 1) := by decide +kernel
theorem dX4_mergeAndRecord_20 : decode cX4_mergeAndRecord 20 = .ok (.aload_n 2, 1) := by decide +kernel
theorem dX4_mergeAndRecord_21 : decode cX4_mergeAndRecord 21 = .ok (.invokevirtual 212, 3) := by decide +kernel
theorem dX4_mergeAndRecord_24 : decode cX4_mergeAndRecord 24 = .ok (.aload_n 1, 1) := by decide +kernel
theorem dX4_mergeAndRecord_25 : decode cX4_mergeAndRecord 25 = .ok (.aload_n 0, 1) := by decide +kernel
theorem dX4_mergeAndRecord_26 : decode cX4_mergeAndRecord 26 = .ok (.getfield 50, 3) := by decide +kernel
theorem dX4_mergeAndRecord_29 : decode cX4_mergeAndRecord 29 = .ok (.invokevirtual 126, 3) := by decide +kernel
theorem dX4_mergeAndRecord_32 : decode cX4_mergeAndRecord 32 = .ok (.ifCond .ne 7, 3) := by decide +kernel
theorem dX4_mergeAndRecord_35 : decode cX4_mergeAndRecord 35 = .ok (.iconst 1, 1) := by decide +kernel
theorem dX4_mergeAndRecord_36 : decode cX4_mergeAndRecord 36 = .ok (.goto 4, 3) := by decide +kernel
theorem dX4_mergeAndRecord_39 : decode cX4_mergeAndRecord 39 = .ok (.iconst 0, 1) := by decide +kernel
theorem dX4_mergeAndRecord_40 : decode cX4_mergeAndRecord 40 = .ok (.ireturn, 1) := by decide +kernel
