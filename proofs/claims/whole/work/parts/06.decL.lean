theorem dL_addStep_0 : decode cL_addStep 0 = .ok (.aload_n 3, 1) := by decide +kernel
theorem dL_addStep_1 : decode cL_addStep 1 = .ok (.iconst 0, 1) := by decide +kernel
theorem dL_addStep_2 : decode cL_addStep 2 = .ok (.aload_n 0, 1) := by decide +kernel
theorem dL_addStep_3 : decode cL_addStep 3 = .ok (.iload_n 1, 1) := by decide +kernel
theorem dL_addStep_4 : decode cL_addStep 4 = .ok (.iload_n 2, 1) := by decide +kernel
theorem dL_addStep_5 : decode cL_addStep 5 = .ok (.invokevirtual 7, 3) := by decide +kernel
theorem dL_addStep_8 : decode cL_addStep 8 = .ok (.i2l, 1) := by decide +kernel
theorem dL_addStep_9 : decode cL_addStep 9 = .ok (.lastore, 1) := by decide +kernel
theorem dL_addStep_10 : decode cL_addStep 10 = .ok (.goto 11, 3) := by decide +kernel
theorem dL_addStep_13 : decode cL_addStep 13 = .ok (.astore 4, 2) := by decide +kernel
theorem dL_addStep_15 : decode cL_addStep 15 = .ok (.iconst 1, 1) := by decide +kernel
theorem dL_addStep_16 : decode cL_addStep 16 = .ok (.ireturn, 1) := by decide +kernel
theorem dL_addStep_17 : decode cL_addStep 17 = .ok (.astore 4, 2) := by decide +kernel
theorem dL_addStep_19 : decode cL_addStep 19 = .ok (.iconst 2, 1) := by decide +kernel
theorem dL_addStep_20 : decode cL_addStep 20 = .ok (.ireturn, 1) := by decide +kernel
theorem dL_addStep_21 : decode cL_addStep 21 = .ok (.iconst 0, 1) := by decide +kernel
theorem dL_addStep_22 : decode cL_addStep 22 = .ok (.ireturn, 1) := by decide +kernel
theorem dL_start_0 : decode cL_start 0 = .ok (.aload_n 1, 1) := by decide +kernel
theorem dL_start_1 : decode cL_start 1 = .ok (.iconst 0, 1) := by decide +kernel
theorem dL_start_2 : decode cL_start 2 = .ok (.aload_n 0, 1) := by decide +kernel
theorem dL_start_3 : decode cL_start 3 = .ok (.invokevirtual 17, 3) := by decide +kernel
theorem dL_start_6 : decode cL_start 6 = .ok (.i2l, 1) := by decide +kernel
theorem dL_start_7 : decode cL_start 7 = .ok (.lastore, 1) := by decide +kernel
theorem dL_start_8 : decode cL_start 8 = .ok (.goto 6, 3) := by decide +kernel
theorem dL_start_11 : decode cL_start 11 = .ok (.astore_n 2, 1) := by decide +kernel
theorem dL_start_12 : decode cL_start 12 = .ok (.iconst 1, 1) := by decide +kernel
theorem dL_start_13 : decode cL_start 13 = .ok (.ireturn, 1) := by decide +kernel
theorem dL_start_14 : decode cL_start 14 = .ok (.iconst 0, 1) := by decide +kernel
theorem dL_start_15 : decode cL_start 15 = .ok (.ireturn, 1) := by decide +kernel
theorem dL_goToBoth_0 : decode cL_goToBoth 0 = .ok (.aload_n 1, 1) := by decide +kernel
theorem dL_goToBoth_1 : decode cL_goToBoth 1 = .ok (.iconst 0, 1) := by decide +kernel
theorem dL_goToBoth_2 : decode cL_goToBoth 2 = .ok (.aload_n 0, 1) := by decide +kernel
theorem dL_goToBoth_3 : decode cL_goToBoth 3 = .ok (.invokevirtual 21, 3) := by decide +kernel
theorem dL_goToBoth_6 : decode cL_goToBoth 6 = .ok (.i2l, 1) := by decide +kernel
theorem dL_goToBoth_7 : decode cL_goToBoth 7 = .ok (.lastore, 1) := by decide +kernel
theorem dL_goToBoth_8 : decode cL_goToBoth 8 = .ok (.goto 9, 3) := by decide +kernel
theorem dL_goToBoth_11 : decode cL_goToBoth 11 = .ok (.astore_n 2, 1) := by decide +kernel
theorem dL_goToBoth_12 : decode cL_goToBoth 12 = .ok (.iconst 1, 1) := by decide +kernel
theorem dL_goToBoth_13 : decode cL_goToBoth 13 = .ok (.ireturn, 1) := by decide +kernel
theorem dL_goToBoth_14 : decode cL_goToBoth 14 = .ok (.astore_n 2, 1) := by decide +kernel
theorem dL_goToBoth_15 : decode cL_goToBoth 15 = .ok (.iconst 2, 1) := by decide +kernel
theorem dL_goToBoth_16 : decode cL_goToBoth 16 = .ok (.ireturn, 1) := by decide +kernel
theorem dL_goToBoth_17 : decode cL_goToBoth 17 = .ok (.iconst 0, 1) := by decide +kernel
theorem dL_goToBoth_18 : decode cL_goToBoth 18 = .ok (.ireturn, 1) := by decide +kernel
theorem dL_switchOver_0 : decode cL_switchOver 0 = .ok (.aload_n 1, 1) := by decide +kernel
theorem dL_switchOver_1 : decode cL_switchOver 1 = .ok (.iconst 0, 1) := by decide +kernel
theorem dL_switchOver_2 : decode cL_switchOver 2 = .ok (.aload_n 0, 1) := by decide +kernel
theorem dL_switchOver_3 : decode cL_switchOver 3 = .ok (.invokevirtual 26, 3) := by decide +kernel
theorem dL_switchOver_6 : decode cL_switchOver 6 = .ok (.i2l, 1) := by decide +kernel
theorem dL_switchOver_7 : decode cL_switchOver 7 = .ok (.lastore, 1) := by decide +kernel
theorem dL_switchOver_8 : decode cL_switchOver 8 = .ok (.goto 9, 3) := by decide +kernel
theorem dL_switchOver_11 : decode cL_switchOver 11 = .ok (.astore_n 2, 1) := by decide +kernel
theorem dL_switchOver_12 : decode cL_switchOver 12 = .ok (.iconst 1, 1) := by decide +kernel
theorem dL_switchOver_13 : decode cL_switchOver 13 = .ok (.ireturn, 1) := by decide +kernel
theorem dL_switchOver_14 : decode cL_switchOver 14 = .ok (.astore_n 2, 1) := by decide +kernel
theorem dL_switchOver_15 : decode cL_switchOver 15 = .ok (.iconst 2, 1) := by decide +kernel
theorem dL_switchOver_16 : decode cL_switchOver 16 = .ok (.ireturn, 1) := by decide +kernel
theorem dL_switchOver_17 : decode cL_switchOver 17 = .ok (.iconst 0, 1) := by decide +kernel
theorem dL_switchOver_18 : decode cL_switchOver 18 = .ok (.ireturn, 1) := by decide +kernel
theorem dL_goBack_0 : decode cL_goBack 0 = .ok (.aload_n 1, 1) := by decide +kernel
theorem dL_goBack_1 : decode cL_goBack 1 = .ok (.iconst 0, 1) := by decide +kernel
theorem dL_goBack_2 : decode cL_goBack 2 = .ok (.aload_n 0, 1) := by decide +kernel
theorem dL_goBack_3 : decode cL_goBack 3 = .ok (.invokevirtual 29, 3) := by decide +kernel
theorem dL_goBack_6 : decode cL_goBack 6 = .ok (.i2l, 1) := by decide +kernel
theorem dL_goBack_7 : decode cL_goBack 7 = .ok (.lastore, 1) := by decide +kernel
theorem dL_goBack_8 : decode cL_goBack 8 = .ok (.goto 9, 3) := by decide +kernel
theorem dL_goBack_11 : decode cL_goBack 11 = .ok (.astore_n 2, 1) := by decide +kernel
theorem dL_goBack_12 : decode cL_goBack 12 = .ok (.iconst 1, 1) := by decide +kernel
theorem dL_goBack_13 : decode cL_goBack 13 = .ok (.ireturn, 1) := by decide +kernel
theorem dL_goBack_14 : decode cL_goBack 14 = .ok (.astore_n 2, 1) := by decide +kernel
theorem dL_goBack_15 : decode cL_goBack 15 = .ok (.iconst 2, 1) := by decide +kernel
theorem dL_goBack_16 : decode cL_goBack 16 = .ok (.ireturn, 1) := by decide +kernel
theorem dL_goBack_17 : decode cL_goBack 17 = .ok (.iconst 0, 1) := by decide +kernel
theorem dL_goBack_18 : decode cL_goBack 18 = .ok (.ireturn, 1) := by decide +kernel
theorem dL_end_0 : decode cL_end 0 = .ok (.aload_n 1, 1) := by decide +kernel
theorem dL_end_1 : decode cL_end 1 = .ok (.iconst 0, 1) := by decide +kernel
theorem dL_end_2 : decode cL_end 2 = .ok (.aload_n 0, 1) := by decide +kernel
theorem dL_end_3 : decode cL_end 3 = .ok (.invokevirtual 32, 3) := by decide +kernel
theorem dL_end_6 : decode cL_end 6 = .ok (.i2l, 1) := by decide +kernel
theorem dL_end_7 : decode cL_end 7 = .ok (.lastore, 1) := by decide +kernel
theorem dL_end_8 : decode cL_end 8 = .ok (.goto 6, 3) := by decide +kernel
theorem dL_end_11 : decode cL_end 11 = .ok (.astore_n 2, 1) := by decide +kernel
theorem dL_end_12 : decode cL_end 12 = .ok (.iconst 1, 1) := by decide +kernel
theorem dL_end_13 : decode cL_end 13 = .ok (.ireturn, 1) := by decide +kernel
theorem dL_end_14 : decode cL_end 14 = .ok (.iconst 0, 1) := by decide +kernel
theorem dL_end_15 : decode cL_end 15 = .ok (.ireturn, 1) := by decide +kernel
theorem dL_write_0 : decode cL_write 0 = .ok (.aload 4, 2) := by decide +kernel
theorem dL_write_2 : decode cL_write 2 = .ok (.iconst 0, 1) := by decide +kernel
theorem dL_write_3 : decode cL_write 3 = .ok (.aload_n 0, 1) := by decide +kernel
theorem dL_write_4 : decode cL_write 4 = .ok (.iload_n 1, 1) := by decide +kernel
theorem dL_write_5 : decode cL_write 5 = .ok (.iload_n 2, 1) := by decide +kernel
theorem dL_write_6 : decode cL_write 6 = .ok (.iload_n 3, 1) := by decide +kernel
theorem dL_write_7 : decode cL_write 7 = .ok (.invokevirtual 35, 3) := by decide +kernel
theorem dL_write_10 : decode cL_write 10 = .ok (.ifCond .eq 7, 3) := by decide +kernel
theorem dL_write_13 : decode cL_write 13 = .ok (.lconst 1, 1) := by decide +kernel
theorem dL_write_14 : decode cL_write 14 = .ok (.goto 4, 3) := by decide +kernel
theorem dL_write_17 : decode cL_write 17 = .ok (.lconst 0, 1) := by decide +kernel
theorem dL_write_18 : decode cL_write 18 = .ok (.lastore, 1) := by decide +kernel
theorem dL_write_19 : decode cL_write 19 = .ok (.goto 11, 3) := by decide +kernel
theorem dL_write_22 : decode cL_write 22 = .ok (.astore 5, 2) := by decide +kernel
theorem dL_write_24 : decode cL_write 24 = .ok (.iconst 1, 1) := by decide +kernel
theorem dL_write_25 : decode cL_write 25 = .ok (.ireturn, 1) := by decide +kernel
theorem dL_write_26 : decode cL_write 26 = .ok (.astore 5, 2) := by decide +kernel
theorem dL_write_28 : decode cL_write 28 = .ok (.iconst 2, 1) := by decide +kernel
theorem dL_write_29 : decode cL_write 29 = .ok (.ireturn, 1) := by decide +kernel
theorem dL_write_30 : decode cL_write 30 = .ok (.iconst 0, 1) := by decide +kernel
theorem dL_write_31 : decode cL_write 31 = .ok (.ireturn, 1) := by decide +kernel
theorem dL_delete_0 : decode cL_delete 0 = .ok (.aload_n 2, 1) := by decide +kernel
theorem dL_delete_1 : decode cL_delete 1 = .ok (.iconst 0, 1) := by decide +kernel
theorem dL_delete_2 : decode cL_delete 2 = .ok (.aload_n 0, 1) := by decide +kernel
theorem dL_delete_3 : decode cL_delete 3 = .ok (.iload_n 1, 1) := by decide +kernel
theorem dL_delete_4 : decode cL_delete 4 = .ok (.invokevirtual 39, 3) := by decide +kernel
theorem dL_delete_7 : decode cL_delete 7 = .ok (.ifCond .eq 7, 3) := by decide +kernel
theorem dL_delete_10 : decode cL_delete 10 = .ok (.lconst 1, 1) := by decide +kernel
theorem dL_delete_11 : decode cL_delete 11 = .ok (.goto 4, 3) := by decide +kernel
theorem dL_delete_14 : decode cL_delete 14 = .ok (.lconst 0, 1) := by decide +kernel
theorem dL_delete_15 : decode cL_delete 15 = .ok (.lastore, 1) := by decide +kernel
theorem dL_delete_16 : decode cL_delete 16 = .ok (.goto 9, 3) := by decide +kernel
theorem dL_delete_19 : decode cL_delete 19 = .ok (.astore_n 3, 1) := by decide +kernel
theorem dL_delete_20 : decode cL_delete 20 = .ok (.iconst 1, 1) := by decide +kernel
theorem dL_delete_21 : decode cL_delete 21 = .ok (.ireturn, 1) := by decide +kernel
theorem dL_delete_22 : decode cL_delete 22 = .ok (.astore_n 3, 1) := by decide +kernel
theorem dL_delete_23 : decode cL_delete 23 = .ok (.iconst 2, 1) := by decide +kernel
theorem dL_delete_24 : decode cL_delete 24 = .ok (.ireturn, 1) := by decide +kernel
theorem dL_delete_25 : decode cL_delete 25 = .ok (.iconst 0, 1) := by decide +kernel
theorem dL_delete_26 : decode cL_delete 26 = .ok (.ireturn, 1) := by decide +kernel
theorem dL_read_0 : decode cL_read 0 = .ok (.aload_n 3, 1) := by decide +kernel
theorem dL_read_1 : decode cL_read 1 = .ok (.iconst 0, 1) := by decide +kernel
theorem dL_read_2 : decode cL_read 2 = .ok (.aload_n 0, 1) := by decide +kernel
theorem dL_read_3 : decode cL_read 3 = .ok (.iload_n 1, 1) := by decide +kernel
theorem dL_read_4 : decode cL_read 4 = .ok (.iload_n 2, 1) := by decide +kernel
theorem dL_read_5 : decode cL_read 5 = .ok (.invokevirtual 43, 3) := by decide +kernel
theorem dL_read_8 : decode cL_read 8 = .ok (.i2l, 1) := by decide +kernel
theorem dL_read_9 : decode cL_read 9 = .ok (.lastore, 1) := by decide +kernel
theorem dL_read_10 : decode cL_read 10 = .ok (.goto 11, 3) := by decide +kernel
theorem dL_read_13 : decode cL_read 13 = .ok (.astore 4, 2) := by decide +kernel
theorem dL_read_15 : decode cL_read 15 = .ok (.iconst 1, 1) := by decide +kernel
theorem dL_read_16 : decode cL_read 16 = .ok (.ireturn, 1) := by decide +kernel
theorem dL_read_17 : decode cL_read 17 = .ok (.astore 4, 2) := by decide +kernel
theorem dL_read_19 : decode cL_read 19 = .ok (.iconst 2, 1) := by decide +kernel
theorem dL_read_20 : decode cL_read 20 = .ok (.ireturn, 1) := by decide +kernel
theorem dL_read_21 : decode cL_read 21 = .ok (.iconst 0, 1) := by decide +kernel
theorem dL_read_22 : decode cL_read 22 = .ok (.ireturn, 1) := by decide +kernel
theorem dL_nextNumber_0 : decode cL_nextNumber 0 = .ok (.aload_n 1, 1) := by decide +kernel
theorem dL_nextNumber_1 : decode cL_nextNumber 1 = .ok (.iconst 0, 1) := by decide +kernel
theorem dL_nextNumber_2 : decode cL_nextNumber 2 = .ok (.aload_n 0, 1) := by decide +kernel
theorem dL_nextNumber_3 : decode cL_nextNumber 3 = .ok (.invokevirtual 49, 3) := by decide +kernel
theorem dL_nextNumber_6 : decode cL_nextNumber 6 = .ok (.i2l, 1) := by decide +kernel
theorem dL_nextNumber_7 : decode cL_nextNumber 7 = .ok (.lastore, 1) := by decide +kernel
theorem dL_nextNumber_8 : decode cL_nextNumber 8 = .ok (.goto 6, 3) := by decide +kernel
theorem dL_nextNumber_11 : decode cL_nextNumber 11 = .ok (.astore_n 2, 1) := by decide +kernel
theorem dL_nextNumber_12 : decode cL_nextNumber 12 = .ok (.iconst 1, 1) := by decide +kernel
theorem dL_nextNumber_13 : decode cL_nextNumber 13 = .ok (.ireturn, 1) := by decide +kernel
theorem dL_nextNumber_14 : decode cL_nextNumber 14 = .ok (.iconst 0, 1) := by decide +kernel
theorem dL_nextNumber_15 : decode cL_nextNumber 15 = .ok (.ireturn, 1) := by decide +kernel
theorem dL_readPart_0 : decode cL_readPart 0 = .ok (.aload_n 2, 1) := by decide +kernel
theorem dL_readPart_1 : decode cL_readPart 1 = .ok (.iconst 0, 1) := by decide +kernel
theorem dL_readPart_2 : decode cL_readPart 2 = .ok (.aload_n 0, 1) := by decide +kernel
theorem dL_readPart_3 : decode cL_readPart 3 = .ok (.iload_n 1, 1) := by decide +kernel
theorem dL_readPart_4 : decode cL_readPart 4 = .ok (.invokevirtual 52, 3) := by decide +kernel
theorem dL_readPart_7 : decode cL_readPart 7 = .ok (.i2l, 1) := by decide +kernel
theorem dL_readPart_8 : decode cL_readPart 8 = .ok (.lastore, 1) := by decide +kernel
theorem dL_readPart_9 : decode cL_readPart 9 = .ok (.goto 9, 3) := by decide +kernel
theorem dL_readPart_12 : decode cL_readPart 12 = .ok (.astore_n 3, 1) := by decide +kernel
theorem dL_readPart_13 : decode cL_readPart 13 = .ok (.iconst 1, 1) := by decide +kernel
theorem dL_readPart_14 : decode cL_readPart 14 = .ok (.ireturn, 1) := by decide +kernel
theorem dL_readPart_15 : decode cL_readPart 15 = .ok (.astore_n 3, 1) := by decide +kernel
theorem dL_readPart_16 : decode cL_readPart 16 = .ok (.iconst 2, 1) := by decide +kernel
theorem dL_readPart_17 : decode cL_readPart 17 = .ok (.ireturn, 1) := by decide +kernel
theorem dL_readPart_18 : decode cL_readPart 18 = .ok (.iconst 0, 1) := by decide +kernel
theorem dL_readPart_19 : decode cL_readPart 19 = .ok (.ireturn, 1) := by decide +kernel
theorem dL_putDown_0 : decode cL_putDown 0 = .ok (.aload_n 2, 1) := by decide +kernel
theorem dL_putDown_1 : decode cL_putDown 1 = .ok (.iconst 0, 1) := by decide +kernel
theorem dL_putDown_2 : decode cL_putDown 2 = .ok (.aload_n 0, 1) := by decide +kernel
theorem dL_putDown_3 : decode cL_putDown 3 = .ok (.iload_n 1, 1) := by decide +kernel
theorem dL_putDown_4 : decode cL_putDown 4 = .ok (.invokevirtual 56, 3) := by decide +kernel
theorem dL_putDown_7 : decode cL_putDown 7 = .ok (.i2l, 1) := by decide +kernel
theorem dL_putDown_8 : decode cL_putDown 8 = .ok (.lastore, 1) := by decide +kernel
theorem dL_putDown_9 : decode cL_putDown 9 = .ok (.goto 6, 3) := by decide +kernel
theorem dL_putDown_12 : decode cL_putDown 12 = .ok (.astore_n 3, 1) := by decide +kernel
theorem dL_putDown_13 : decode cL_putDown 13 = .ok (.iconst 1, 1) := by decide +kernel
theorem dL_putDown_14 : decode cL_putDown 14 = .ok (.ireturn, 1) := by decide +kernel
theorem dL_putDown_15 : decode cL_putDown 15 = .ok (.iconst 0, 1) := by decide +kernel
theorem dL_putDown_16 : decode cL_putDown 16 = .ok (.ireturn, 1) := by decide +kernel
theorem dL_follow_0 : decode cL_follow 0 = .ok (.aload_n 2, 1) := by decide +kernel
theorem dL_follow_1 : decode cL_follow 1 = .ok (.iconst 0, 1) := by decide +kernel
theorem dL_follow_2 : decode cL_follow 2 = .ok (.aload_n 0, 1) := by decide +kernel
theorem dL_follow_3 : decode cL_follow 3 = .ok (.iload_n 1, 1) := by decide +kernel
theorem dL_follow_4 : decode cL_follow 4 = .ok (.invokevirtual 61, 3) := by decide +kernel
theorem dL_follow_7 : decode cL_follow 7 = .ok (.i2l, 1) := by decide +kernel
theorem dL_follow_8 : decode cL_follow 8 = .ok (.lastore, 1) := by decide +kernel
theorem dL_follow_9 : decode cL_follow 9 = .ok (.goto 9, 3) := by decide +kernel
theorem dL_follow_12 : decode cL_follow 12 = .ok (.astore_n 3, 1) := by decide +kernel
theorem dL_follow_13 : decode cL_follow 13 = .ok (.iconst 1, 1) := by decide +kernel
theorem dL_follow_14 : decode cL_follow 14 = .ok (.ireturn, 1) := by decide +kernel
theorem dL_follow_15 : decode cL_follow 15 = .ok (.astore_n 3, 1) := by decide +kernel
theorem dL_follow_16 : decode cL_follow 16 = .ok (.iconst 2, 1) := by decide +kernel
theorem dL_follow_17 : decode cL_follow 17 = .ok (.ireturn, 1) := by decide +kernel
theorem dL_follow_18 : decode cL_follow 18 = .ok (.iconst 0, 1) := by decide +kernel
theorem dL_follow_19 : decode cL_follow 19 = .ok (.ireturn, 1) := by decide +kernel
theorem dL_state_0 : decode cL_state 0 = .ok (.aload_n 2, 1) := by decide +kernel
theorem dL_state_1 : decode cL_state 1 = .ok (.iconst 0, 1) := by decide +kernel
theorem dL_state_2 : decode cL_state 2 = .ok (.aload_n 0, 1) := by decide +kernel
theorem dL_state_3 : decode cL_state 3 = .ok (.iload_n 1, 1) := by decide +kernel
theorem dL_state_4 : decode cL_state 4 = .ok (.invokevirtual 64, 3) := by decide +kernel
theorem dL_state_7 : decode cL_state 7 = .ok (.i2l, 1) := by decide +kernel
theorem dL_state_8 : decode cL_state 8 = .ok (.lastore, 1) := by decide +kernel
theorem dL_state_9 : decode cL_state 9 = .ok (.goto 6, 3) := by decide +kernel
theorem dL_state_12 : decode cL_state 12 = .ok (.astore_n 3, 1) := by decide +kernel
theorem dL_state_13 : decode cL_state 13 = .ok (.iconst 1, 1) := by decide +kernel
theorem dL_state_14 : decode cL_state 14 = .ok (.ireturn, 1) := by decide +kernel
theorem dL_state_15 : decode cL_state 15 = .ok (.iconst 0, 1) := by decide +kernel
theorem dL_state_16 : decode cL_state 16 = .ok (.ireturn, 1) := by decide +kernel
theorem dL_stamp_0 : decode cL_stamp 0 = .ok (.aload_n 2, 1) := by decide +kernel
theorem dL_stamp_1 : decode cL_stamp 1 = .ok (.iconst 0, 1) := by decide +kernel
theorem dL_stamp_2 : decode cL_stamp 2 = .ok (.aload_n 0, 1) := by decide +kernel
theorem dL_stamp_3 : decode cL_stamp 3 = .ok (.iload_n 1, 1) := by decide +kernel
theorem dL_stamp_4 : decode cL_stamp 4 = .ok (.invokevirtual 68, 3) := by decide +kernel
theorem dL_stamp_7 : decode cL_stamp 7 = .ok (.i2l, 1) := by decide +kernel
theorem dL_stamp_8 : decode cL_stamp 8 = .ok (.lastore, 1) := by decide +kernel
theorem dL_stamp_9 : decode cL_stamp 9 = .ok (.goto 9, 3) := by decide +kernel
theorem dL_stamp_12 : decode cL_stamp 12 = .ok (.astore_n 3, 1) := by decide +kernel
theorem dL_stamp_13 : decode cL_stamp 13 = .ok (.iconst 1, 1) := by decide +kernel
theorem dL_stamp_14 : decode cL_stamp 14 = .ok (.ireturn, 1) := by decide +kernel
theorem dL_stamp_15 : decode cL_stamp 15 = .ok (.astore_n 3, 1) := by decide +kernel
theorem dL_stamp_16 : decode cL_stamp 16 = .ok (.iconst 2, 1) := by decide +kernel
theorem dL_stamp_17 : decode cL_stamp 17 = .ok (.ireturn, 1) := by decide +kernel
theorem dL_stamp_18 : decode cL_stamp 18 = .ok (.iconst 0, 1) := by decide +kernel
theorem dL_stamp_19 : decode cL_stamp 19 = .ok (.ireturn, 1) := by decide +kernel
theorem dL_turned_0 : decode cL_turned 0 = .ok (.aload_n 3, 1) := by decide +kernel
theorem dL_turned_1 : decode cL_turned 1 = .ok (.iconst 0, 1) := by decide +kernel
theorem dL_turned_2 : decode cL_turned 2 = .ok (.aload_n 0, 1) := by decide +kernel
theorem dL_turned_3 : decode cL_turned 3 = .ok (.iload_n 1, 1) := by decide +kernel
theorem dL_turned_4 : decode cL_turned 4 = .ok (.iload_n 2, 1) := by decide +kernel
theorem dL_turned_5 : decode cL_turned 5 = .ok (.invokevirtual 71, 3) := by decide +kernel
theorem dL_turned_8 : decode cL_turned 8 = .ok (.i2l, 1) := by decide +kernel
theorem dL_turned_9 : decode cL_turned 9 = .ok (.lastore, 1) := by decide +kernel
theorem dL_turned_10 : decode cL_turned 10 = .ok (.goto 15, 3) := by decide +kernel
theorem dL_turned_13 : decode cL_turned 13 = .ok (.astore 4, 2) := by decide +kernel
theorem dL_turned_15 : decode cL_turned 15 = .ok (.iconst 1, 1) := by decide +kernel
theorem dL_turned_16 : decode cL_turned 16 = .ok (.ireturn, 1) := by decide +kernel
theorem dL_turned_17 : decode cL_turned 17 = .ok (.astore 4, 2) := by decide +kernel
theorem dL_turned_19 : decode cL_turned 19 = .ok (.iconst 2, 1) := by decide +kernel
theorem dL_turned_20 : decode cL_turned 20 = .ok (.ireturn, 1) := by decide +kernel
theorem dL_turned_21 : decode cL_turned 21 = .ok (.astore 4, 2) := by decide +kernel
theorem dL_turned_23 : decode cL_turned 23 = .ok (.iconst 3, 1) := by decide +kernel
theorem dL_turned_24 : decode cL_turned 24 = .ok (.ireturn, 1) := by decide +kernel
theorem dL_turned_25 : decode cL_turned 25 = .ok (.iconst 0, 1) := by decide +kernel
theorem dL_turned_26 : decode cL_turned 26 = .ok (.ireturn, 1) := by decide +kernel
theorem dL_turnedBack_0 : decode cL_turnedBack 0 = .ok (.aload_n 3, 1) := by decide +kernel
theorem dL_turnedBack_1 : decode cL_turnedBack 1 = .ok (.iconst 0, 1) := by decide +kernel
theorem dL_turnedBack_2 : decode cL_turnedBack 2 = .ok (.aload_n 0, 1) := by decide +kernel
theorem dL_turnedBack_3 : decode cL_turnedBack 3 = .ok (.iload_n 1, 1) := by decide +kernel
theorem dL_turnedBack_4 : decode cL_turnedBack 4 = .ok (.iload_n 2, 1) := by decide +kernel
theorem dL_turnedBack_5 : decode cL_turnedBack 5 = .ok (.invokevirtual 74, 3) := by decide +kernel
theorem dL_turnedBack_8 : decode cL_turnedBack 8 = .ok (.i2l, 1) := by decide +kernel
theorem dL_turnedBack_9 : decode cL_turnedBack 9 = .ok (.lastore, 1) := by decide +kernel
theorem dL_turnedBack_10 : decode cL_turnedBack 10 = .ok (.goto 15, 3) := by decide +kernel
theorem dL_turnedBack_13 : decode cL_turnedBack 13 = .ok (.astore 4, 2) := by decide +kernel
theorem dL_turnedBack_15 : decode cL_turnedBack 15 = .ok (.iconst 1, 1) := by decide +kernel
theorem dL_turnedBack_16 : decode cL_turnedBack 16 = .ok (.ireturn, 1) := by decide +kernel
theorem dL_turnedBack_17 : decode cL_turnedBack 17 = .ok (.astore 4, 2) := by decide +kernel
theorem dL_turnedBack_19 : decode cL_turnedBack 19 = .ok (.iconst 2, 1) := by decide +kernel
theorem dL_turnedBack_20 : decode cL_turnedBack 20 = .ok (.ireturn, 1) := by decide +kernel
theorem dL_turnedBack_21 : decode cL_turnedBack 21 = .ok (.astore 4, 2) := by decide +kernel
theorem dL_turnedBack_23 : decode cL_turnedBack 23 = .ok (.iconst 3, 1) := by decide +kernel
theorem dL_turnedBack_24 : decode cL_turnedBack 24 = .ok (.ireturn, 1) := by decide +kernel
theorem dL_turnedBack_25 : decode cL_turnedBack 25 = .ok (.iconst 0, 1) := by decide +kernel
theorem dL_turnedBack_26 : decode cL_turnedBack 26 = .ok (.ireturn, 1) := by decide +kernel
theorem dL_sum_0 : decode cL_sum 0 = .ok (.aload 4, 2) := by decide +kernel
theorem dL_sum_2 : decode cL_sum 2 = .ok (.iconst 0, 1) := by decide +kernel
theorem dL_sum_3 : decode cL_sum 3 = .ok (.aload_n 0, 1) := by decide +kernel
theorem dL_sum_4 : decode cL_sum 4 = .ok (.iload_n 1, 1) := by decide +kernel
theorem dL_sum_5 : decode cL_sum 5 = .ok (.iload_n 2, 1) := by decide +kernel
theorem dL_sum_6 : decode cL_sum 6 = .ok (.iload_n 3, 1) := by decide +kernel
theorem dL_sum_7 : decode cL_sum 7 = .ok (.invokevirtual 77, 3) := by decide +kernel
theorem dL_sum_10 : decode cL_sum 10 = .ok (.lastore, 1) := by decide +kernel
theorem dL_sum_11 : decode cL_sum 11 = .ok (.goto 7, 3) := by decide +kernel
theorem dL_sum_14 : decode cL_sum 14 = .ok (.astore 5, 2) := by decide +kernel
theorem dL_sum_16 : decode cL_sum 16 = .ok (.iconst 1, 1) := by decide +kernel
theorem dL_sum_17 : decode cL_sum 17 = .ok (.ireturn, 1) := by decide +kernel
theorem dL_sum_18 : decode cL_sum 18 = .ok (.iconst 0, 1) := by decide +kernel
theorem dL_sum_19 : decode cL_sum 19 = .ok (.ireturn, 1) := by decide +kernel
theorem dL_firstUnlike_0 : decode cL_firstUnlike 0 = .ok (.aload_n 3, 1) := by decide +kernel
theorem dL_firstUnlike_1 : decode cL_firstUnlike 1 = .ok (.iconst 0, 1) := by decide +kernel
theorem dL_firstUnlike_2 : decode cL_firstUnlike 2 = .ok (.aload_n 0, 1) := by decide +kernel
theorem dL_firstUnlike_3 : decode cL_firstUnlike 3 = .ok (.iload_n 1, 1) := by decide +kernel
theorem dL_firstUnlike_4 : decode cL_firstUnlike 4 = .ok (.iload_n 2, 1) := by decide +kernel
theorem dL_firstUnlike_5 : decode cL_firstUnlike 5 = .ok (.invokevirtual 81, 3) := by decide +kernel
theorem dL_firstUnlike_8 : decode cL_firstUnlike 8 = .ok (.i2l, 1) := by decide +kernel
theorem dL_firstUnlike_9 : decode cL_firstUnlike 9 = .ok (.lastore, 1) := by decide +kernel
theorem dL_firstUnlike_10 : decode cL_firstUnlike 10 = .ok (.goto 11, 3) := by decide +kernel
theorem dL_firstUnlike_13 : decode cL_firstUnlike 13 = .ok (.astore 4, 2) := by decide +kernel
theorem dL_firstUnlike_15 : decode cL_firstUnlike 15 = .ok (.iconst 1, 1) := by decide +kernel
theorem dL_firstUnlike_16 : decode cL_firstUnlike 16 = .ok (.ireturn, 1) := by decide +kernel
theorem dL_firstUnlike_17 : decode cL_firstUnlike 17 = .ok (.astore 4, 2) := by decide +kernel
theorem dL_firstUnlike_19 : decode cL_firstUnlike 19 = .ok (.iconst 2, 1) := by decide +kernel
theorem dL_firstUnlike_20 : decode cL_firstUnlike 20 = .ok (.ireturn, 1) := by decide +kernel
theorem dL_firstUnlike_21 : decode cL_firstUnlike 21 = .ok (.iconst 0, 1) := by decide +kernel
theorem dL_firstUnlike_22 : decode cL_firstUnlike 22 = .ok (.ireturn, 1) := by decide +kernel
theorem dL_goal_0 : decode cL_goal 0 = .ok (.aload_n 2, 1) := by decide +kernel
theorem dL_goal_1 : decode cL_goal 1 = .ok (.iconst 0, 1) := by decide +kernel
theorem dL_goal_2 : decode cL_goal 2 = .ok (.aload_n 0, 1) := by decide +kernel
theorem dL_goal_3 : decode cL_goal 3 = .ok (.iload_n 1, 1) := by decide +kernel
theorem dL_goal_4 : decode cL_goal 4 = .ok (.invokevirtual 85, 3) := by decide +kernel
theorem dL_goal_7 : decode cL_goal 7 = .ok (.i2l, 1) := by decide +kernel
theorem dL_goal_8 : decode cL_goal 8 = .ok (.lastore, 1) := by decide +kernel
theorem dL_goal_9 : decode cL_goal 9 = .ok (.goto 9, 3) := by decide +kernel
theorem dL_goal_12 : decode cL_goal 12 = .ok (.astore_n 3, 1) := by decide +kernel
theorem dL_goal_13 : decode cL_goal 13 = .ok (.iconst 1, 1) := by decide +kernel
theorem dL_goal_14 : decode cL_goal 14 = .ok (.ireturn, 1) := by decide +kernel
theorem dL_goal_15 : decode cL_goal 15 = .ok (.astore_n 3, 1) := by decide +kernel
theorem dL_goal_16 : decode cL_goal 16 = .ok (.iconst 2, 1) := by decide +kernel
theorem dL_goal_17 : decode cL_goal 17 = .ok (.ireturn, 1) := by decide +kernel
theorem dL_goal_18 : decode cL_goal 18 = .ok (.iconst 0, 1) := by decide +kernel
theorem dL_goal_19 : decode cL_goal 19 = .ok (.ireturn, 1) := by decide +kernel
theorem dL_movedShare_0 : decode cL_movedShare 0 = .ok (.aload_n 1, 1) := by decide +kernel
theorem dL_movedShare_1 : decode cL_movedShare 1 = .ok (.iconst 0, 1) := by decide +kernel
theorem dL_movedShare_2 : decode cL_movedShare 2 = .ok (.aload_n 0, 1) := by decide +kernel
theorem dL_movedShare_3 : decode cL_movedShare 3 = .ok (.invokevirtual 88, 3) := by decide +kernel
theorem dL_movedShare_6 : decode cL_movedShare 6 = .ok (.f2d, 1) := by decide +kernel
theorem dL_movedShare_7 : decode cL_movedShare 7 = .ok (.dastore, 1) := by decide +kernel
theorem dL_movedShare_8 : decode cL_movedShare 8 = .ok (.goto 6, 3) := by decide +kernel
theorem dL_movedShare_11 : decode cL_movedShare 11 = .ok (.astore_n 2, 1) := by decide +kernel
theorem dL_movedShare_12 : decode cL_movedShare 12 = .ok (.iconst 1, 1) := by decide +kernel
theorem dL_movedShare_13 : decode cL_movedShare 13 = .ok (.ireturn, 1) := by decide +kernel
theorem dL_movedShare_14 : decode cL_movedShare 14 = .ok (.iconst 0, 1) := by decide +kernel
theorem dL_movedShare_15 : decode cL_movedShare 15 = .ok (.ireturn, 1) := by decide +kernel
theorem dL_meanStamp_0 : decode cL_meanStamp 0 = .ok (.aload_n 1, 1) := by decide +kernel
theorem dL_meanStamp_1 : decode cL_meanStamp 1 = .ok (.iconst 0, 1) := by decide +kernel
theorem dL_meanStamp_2 : decode cL_meanStamp 2 = .ok (.aload_n 0, 1) := by decide +kernel
theorem dL_meanStamp_3 : decode cL_meanStamp 3 = .ok (.invokevirtual 94, 3) := by decide +kernel
theorem dL_meanStamp_6 : decode cL_meanStamp 6 = .ok (.dastore, 1) := by decide +kernel
theorem dL_meanStamp_7 : decode cL_meanStamp 7 = .ok (.goto 6, 3) := by decide +kernel
theorem dL_meanStamp_10 : decode cL_meanStamp 10 = .ok (.astore_n 2, 1) := by decide +kernel
theorem dL_meanStamp_11 : decode cL_meanStamp 11 = .ok (.iconst 1, 1) := by decide +kernel
theorem dL_meanStamp_12 : decode cL_meanStamp 12 = .ok (.ireturn, 1) := by decide +kernel
theorem dL_meanStamp_13 : decode cL_meanStamp 13 = .ok (.iconst 0, 1) := by decide +kernel
theorem dL_meanStamp_14 : decode cL_meanStamp 14 = .ok (.ireturn, 1) := by decide +kernel
