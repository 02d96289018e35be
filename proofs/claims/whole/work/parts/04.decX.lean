theorem dX0_init_0 : decode cX0_init 0 = .ok (.aload_n 0, 1) := by decide +kernel
theorem dX0_init_1 : decode cX0_init 1 = .ok (.invokespecial 1, 3) := by decide +kernel
theorem dX0_init_4 : decode cX0_init 4 = .ok (.return_, 1) := by decide +kernel
theorem dX0_set_0 : decode cX0_set 0 = .ok (.aload_n 0, 1) := by decide +kernel
theorem dX0_set_1 : decode cX0_set 1 = .ok (.iload_n 1, 1) := by decide +kernel
theorem dX0_set_2 : decode cX0_set 2 = .ok (.putfield 7, 3) := by decide +kernel
theorem dX0_set_5 : decode cX0_set 5 = .ok (.aload_n 0, 1) := by decide +kernel
theorem dX0_set_6 : decode cX0_set 6 = .ok (.iload_n 2, 1) := by decide +kernel
theorem dX0_set_7 : decode cX0_set 7 = .ok (.putfield 13, 3) := by decide +kernel
theorem dX0_set_10 : decode cX0_set 10 = .ok (.return_, 1) := by decide +kernel
theorem dX0_number_0 : decode cX0_number 0 = .ok (.iload_n 1, 1) := by decide +kernel
theorem dX0_number_1 : decode cX0_number 1 = .ok (.ifCond .eq 10, 3) := by decide +kernel
theorem dX0_number_4 : decode cX0_number 4 = .ok (.aload_n 0, 1) := by decide +kernel
theorem dX0_number_5 : decode cX0_number 5 = .ok (.getfield 13, 3) := by decide +kernel
theorem dX0_number_8 : decode cX0_number 8 = .ok (.goto 7, 3) := by decide +kernel
theorem dX0_number_11 : decode cX0_number 11 = .ok (.aload_n 0, 1) := by decide +kernel
theorem dX0_number_12 : decode cX0_number 12 = .ok (.getfield 7, 3) := by decide +kernel
theorem dX0_number_15 : decode cX0_number 15 = .ok (.ireturn, 1) := by decide +kernel
theorem dX0_areBothWithin_0 : decode cX0_areBothWithin 0 = .ok (.aload_n 0, 1) := by decide +kernel
theorem dX0_areBothWithin_1 : decode cX0_areBothWithin 1 = .ok (.getfield 7, 3) := by decide +kernel
theorem dX0_areBothWithin_4 : decode cX0_areBothWithin 4 = .ok (.iload_n 1, 1) := by decide +kernel
theorem dX0_areBothWithin_5 : decode cX0_areBothWithin 5 = .ok (.ineg, 1) := by decide +kernel
theorem dX0_areBothWithin_6 : decode cX0_areBothWithin 6 = .ok (.if_icmp .lt 32, 3) := by decide +kernel
theorem dX0_areBothWithin_9 : decode cX0_areBothWithin 9 = .ok (.aload_n 0, 1) := by decide +kernel
theorem dX0_areBothWithin_10 : decode cX0_areBothWithin 10 = .ok (.getfield 7, 3) := by decide +kernel
theorem dX0_areBothWithin_13 : decode cX0_areBothWithin 13 = .ok (.iload_n 1, 1) := by decide +kernel
theorem dX0_areBothWithin_14 : decode cX0_areBothWithin 14 = .ok (.if_icmp .gt 24, 3) := by decide +kernel
theorem dX0_areBothWithin_17 : decode cX0_areBothWithin 17 = .ok (.aload_n 0, 1) := by decide +kernel
theorem dX0_areBothWithin_18 : decode cX0_areBothWithin 18 = .ok (.getfield 13, 3) := by decide +kernel
theorem dX0_areBothWithin_21 : decode cX0_areBothWithin 21 = .ok (.iload_n 1, 1) := by decide +kernel
theorem dX0_areBothWithin_22 : decode cX0_areBothWithin 22 = .ok (.ineg, 1) := by decide +kernel
theorem dX0_areBothWithin_23 : decode cX0_areBothWithin 23 = .ok (.if_icmp .lt 15, 3) := by decide +kernel
theorem dX0_areBothWithin_26 : decode cX0_areBothWithin 26 = .ok (.aload_n 0, 1) := by decide +kernel
theorem dX0_areBothWithin_27 : decode cX0_areBothWithin 27 = .ok (.getfield 13, 3) := by decide +kernel
theorem dX0_areBothWithin_30 : decode cX0_areBothWithin 30 = .ok (.iload_n 1, 1) := by decide +kernel
theorem dX0_areBothWithin_31 : decode cX0_areBothWithin 31 = .ok (.if_icmp .gt 7, 3) := by decide +kernel
theorem dX0_areBothWithin_34 : decode cX0_areBothWithin 34 = .ok (.iconst 1, 1) := by decide +kernel
theorem dX0_areBothWithin_35 : decode cX0_areBothWithin 35 = .ok (.goto 4, 3) := by decide +kernel
theorem dX0_areBothWithin_38 : decode cX0_areBothWithin 38 = .ok (.iconst 0, 1) := by decide +kernel
theorem dX0_areBothWithin_39 : decode cX0_areBothWithin 39 = .ok (.ireturn, 1) := by decide +kernel
theorem dX0_step_0 : decode cX0_step 0 = .ok (.aload_n 0, 1) := by decide +kernel
theorem dX0_step_1 : decode cX0_step 1 = .ok (.getfield 7, 3) := by decide +kernel
theorem dX0_step_4 : decode cX0_step 4 = .ok (.istore_n 3, 1) := by decide +kernel
theorem dX0_step_5 : decode cX0_step 5 = .ok (.iload_n 1, 1) := by decide +kernel
theorem dX0_step_6 : decode cX0_step 6 = .ok (.bipush 112, 2) := by decide +kernel
theorem dX0_step_8 : decode cX0_step 8 = .ok (.if_icmp .ne 16, 3) := by decide +kernel
theorem dX0_step_11 : decode cX0_step 11 = .ok (.aload_n 0, 1) := by decide +kernel
theorem dX0_step_12 : decode cX0_step 12 = .ok (.dup, 1) := by decide +kernel
theorem dX0_step_13 : decode cX0_step 13 = .ok (.getfield 7, 3) := by decide +kernel
theorem dX0_step_16 : decode cX0_step 16 = .ok (.iload_n 2, 1) := by decide +kernel
theorem dX0_step_17 : decode cX0_step 17 = .ok (.iadd, 1) := by decide +kernel
theorem dX0_step_18 : decode cX0_step 18 = .ok (.putfield 7, 3) := by decide +kernel
theorem dX0_step_21 : decode cX0_step 21 = .ok (.goto 75, 3) := by decide +kernel
theorem dX0_step_24 : decode cX0_step 24 = .ok (.iload_n 1, 1) := by decide +kernel
theorem dX0_step_25 : decode cX0_step 25 = .ok (.bipush 109, 2) := by decide +kernel
theorem dX0_step_27 : decode cX0_step 27 = .ok (.if_icmp .ne 16, 3) := by decide +kernel
theorem dX0_step_30 : decode cX0_step 30 = .ok (.aload_n 0, 1) := by decide +kernel
theorem dX0_step_31 : decode cX0_step 31 = .ok (.dup, 1) := by decide +kernel
theorem dX0_step_32 : decode cX0_step 32 = .ok (.getfield 7, 3) := by decide +kernel
theorem dX0_step_35 : decode cX0_step 35 = .ok (.iload_n 2, 1) := by decide +kernel
theorem dX0_step_36 : decode cX0_step 36 = .ok (.imul, 1) := by decide +kernel
theorem dX0_step_37 : decode cX0_step 37 = .ok (.putfield 7, 3) := by decide +kernel
theorem dX0_step_40 : decode cX0_step 40 = .ok (.goto 56, 3) := by decide +kernel
theorem dX0_step_43 : decode cX0_step 43 = .ok (.iload_n 1, 1) := by decide +kernel
theorem dX0_step_44 : decode cX0_step 44 = .ok (.bipush 110, 2) := by decide +kernel
theorem dX0_step_46 : decode cX0_step 46 = .ok (.if_icmp .ne 15, 3) := by decide +kernel
theorem dX0_step_49 : decode cX0_step 49 = .ok (.aload_n 0, 1) := by decide +kernel
theorem dX0_step_50 : decode cX0_step 50 = .ok (.aload_n 0, 1) := by decide +kernel
theorem dX0_step_51 : decode cX0_step 51 = .ok (.getfield 7, 3) := by decide +kernel
theorem dX0_step_54 : decode cX0_step 54 = .ok (.ineg, 1) := by decide +kernel
theorem dX0_step_55 : decode cX0_step 55 = .ok (.putfield 7, 3) := by decide +kernel
theorem dX0_step_58 : decode cX0_step 58 = .ok (.goto 38, 3) := by decide +kernel
theorem dX0_step_61 : decode cX0_step 61 = .ok (.iload_n 1, 1) := by decide +kernel
theorem dX0_step_62 : decode cX0_step 62 = .ok (.bipush 120, 2) := by decide +kernel
theorem dX0_step_64 : decode cX0_step 64 = .ok (.if_icmp .ne 19, 3) := by decide +kernel
theorem dX0_step_67 : decode cX0_step 67 = .ok (.aload_n 0, 1) := by decide +kernel
theorem dX0_step_68 : decode cX0_step 68 = .ok (.aload_n 0, 1) := by decide +kernel
theorem dX0_step_69 : decode cX0_step 69 = .ok (.getfield 13, 3) := by decide +kernel
theorem dX0_step_72 : decode cX0_step 72 = .ok (.putfield 7, 3) := by decide +kernel
theorem dX0_step_75 : decode cX0_step 75 = .ok (.aload_n 0, 1) := by decide +kernel
theorem dX0_step_76 : decode cX0_step 76 = .ok (.iload_n 3, 1) := by decide +kernel
theorem dX0_step_77 : decode cX0_step 77 = .ok (.putfield 13, 3) := by decide +kernel
theorem dX0_step_80 : decode cX0_step 80 = .ok (.goto 16, 3) := by decide +kernel
theorem dX0_step_83 : decode cX0_step 83 = .ok (.aload_n 0, 1) := by decide +kernel
theorem dX0_step_84 : decode cX0_step 84 = .ok (.dup, 1) := by decide +kernel
theorem dX0_step_85 : decode cX0_step 85 = .ok (.getfield 13, 3) := by decide +kernel
theorem dX0_step_88 : decode cX0_step 88 = .ok (.aload_n 0, 1) := by decide +kernel
theorem dX0_step_89 : decode cX0_step 89 = .ok (.getfield 7, 3) := by decide +kernel
theorem dX0_step_92 : decode cX0_step 92 = .ok (.iadd, 1) := by decide +kernel
theorem dX0_step_93 : decode cX0_step 93 = .ok (.putfield 13, 3) := by decide +kernel
theorem dX0_step_96 : decode cX0_step 96 = .ok (.return_, 1) := by decide +kernel
theorem dX0_stepBack_0 : decode cX0_stepBack 0 = .ok (.aload_n 0, 1) := by decide +kernel
theorem dX0_stepBack_1 : decode cX0_stepBack 1 = .ok (.getfield 7, 3) := by decide +kernel
theorem dX0_stepBack_4 : decode cX0_stepBack 4 = .ok (.istore_n 3, 1) := by decide +kernel
theorem dX0_stepBack_5 : decode cX0_stepBack 5 = .ok (.iload_n 1, 1) := by decide +kernel
theorem dX0_stepBack_6 : decode cX0_stepBack 6 = .ok (.bipush 109, 2) := by decide +kernel
theorem dX0_stepBack_8 : decode cX0_stepBack 8 = .ok (.if_icmp .ne 31, 3) := by decide +kernel
theorem dX0_stepBack_11 : decode cX0_stepBack 11 = .ok (.iload_n 2, 1) := by decide +kernel
theorem dX0_stepBack_12 : decode cX0_stepBack 12 = .ok (.ifCond .eq 12, 3) := by decide +kernel
theorem dX0_stepBack_15 : decode cX0_stepBack 15 = .ok (.aload_n 0, 1) := by decide +kernel
theorem dX0_stepBack_16 : decode cX0_stepBack 16 = .ok (.getfield 7, 3) := by decide +kernel
theorem dX0_stepBack_19 : decode cX0_stepBack 19 = .ok (.iload_n 2, 1) := by decide +kernel
theorem dX0_stepBack_20 : decode cX0_stepBack 20 = .ok (.irem, 1) := by decide +kernel
theorem dX0_stepBack_21 : decode cX0_stepBack 21 = .ok (.ifCond .eq 5, 3) := by decide +kernel
theorem dX0_stepBack_24 : decode cX0_stepBack 24 = .ok (.iconst 0, 1) := by decide +kernel
theorem dX0_stepBack_25 : decode cX0_stepBack 25 = .ok (.ireturn, 1) := by decide +kernel
theorem dX0_stepBack_26 : decode cX0_stepBack 26 = .ok (.aload_n 0, 1) := by decide +kernel
theorem dX0_stepBack_27 : decode cX0_stepBack 27 = .ok (.dup, 1) := by decide +kernel
theorem dX0_stepBack_28 : decode cX0_stepBack 28 = .ok (.getfield 7, 3) := by decide +kernel
theorem dX0_stepBack_31 : decode cX0_stepBack 31 = .ok (.iload_n 2, 1) := by decide +kernel
theorem dX0_stepBack_32 : decode cX0_stepBack 32 = .ok (.idiv, 1) := by decide +kernel
theorem dX0_stepBack_33 : decode cX0_stepBack 33 = .ok (.putfield 7, 3) := by decide +kernel
theorem dX0_stepBack_36 : decode cX0_stepBack 36 = .ok (.goto 75, 3) := by decide +kernel
theorem dX0_stepBack_39 : decode cX0_stepBack 39 = .ok (.iload_n 1, 1) := by decide +kernel
theorem dX0_stepBack_40 : decode cX0_stepBack 40 = .ok (.bipush 112, 2) := by decide +kernel
theorem dX0_stepBack_42 : decode cX0_stepBack 42 = .ok (.if_icmp .ne 16, 3) := by decide +kernel
theorem dX0_stepBack_45 : decode cX0_stepBack 45 = .ok (.aload_n 0, 1) := by decide +kernel
theorem dX0_stepBack_46 : decode cX0_stepBack 46 = .ok (.dup, 1) := by decide +kernel
theorem dX0_stepBack_47 : decode cX0_stepBack 47 = .ok (.getfield 7, 3) := by decide +kernel
theorem dX0_stepBack_50 : decode cX0_stepBack 50 = .ok (.iload_n 2, 1) := by decide +kernel
theorem dX0_stepBack_51 : decode cX0_stepBack 51 = .ok (.isub, 1) := by decide +kernel
theorem dX0_stepBack_52 : decode cX0_stepBack 52 = .ok (.putfield 7, 3) := by decide +kernel
theorem dX0_stepBack_55 : decode cX0_stepBack 55 = .ok (.goto 56, 3) := by decide +kernel
theorem dX0_stepBack_58 : decode cX0_stepBack 58 = .ok (.iload_n 1, 1) := by decide +kernel
theorem dX0_stepBack_59 : decode cX0_stepBack 59 = .ok (.bipush 110, 2) := by decide +kernel
theorem dX0_stepBack_61 : decode cX0_stepBack 61 = .ok (.if_icmp .ne 15, 3) := by decide +kernel
theorem dX0_stepBack_64 : decode cX0_stepBack 64 = .ok (.aload_n 0, 1) := by decide +kernel
theorem dX0_stepBack_65 : decode cX0_stepBack 65 = .ok (.aload_n 0, 1) := by decide +kernel
theorem dX0_stepBack_66 : decode cX0_stepBack 66 = .ok (.getfield 7, 3) := by decide +kernel
theorem dX0_stepBack_69 : decode cX0_stepBack 69 = .ok (.ineg, 1) := by decide +kernel
theorem dX0_stepBack_70 : decode cX0_stepBack 70 = .ok (.putfield 7, 3) := by decide +kernel
theorem dX0_stepBack_73 : decode cX0_stepBack 73 = .ok (.goto 38, 3) := by decide +kernel
theorem dX0_stepBack_76 : decode cX0_stepBack 76 = .ok (.iload_n 1, 1) := by decide +kernel
theorem dX0_stepBack_77 : decode cX0_stepBack 77 = .ok (.bipush 120, 2) := by decide +kernel
theorem dX0_stepBack_79 : decode cX0_stepBack 79 = .ok (.if_icmp .ne 19, 3) := by decide +kernel
theorem dX0_stepBack_82 : decode cX0_stepBack 82 = .ok (.aload_n 0, 1) := by decide +kernel
theorem dX0_stepBack_83 : decode cX0_stepBack 83 = .ok (.aload_n 0, 1) := by decide +kernel
theorem dX0_stepBack_84 : decode cX0_stepBack 84 = .ok (.getfield 13, 3) := by decide +kernel
theorem dX0_stepBack_87 : decode cX0_stepBack 87 = .ok (.putfield 7, 3) := by decide +kernel
theorem dX0_stepBack_90 : decode cX0_stepBack 90 = .ok (.aload_n 0, 1) := by decide +kernel
theorem dX0_stepBack_91 : decode cX0_stepBack 91 = .ok (.iload_n 3, 1) := by decide +kernel
theorem dX0_stepBack_92 : decode cX0_stepBack 92 = .ok (.putfield 13, 3) := by decide +kernel
theorem dX0_stepBack_95 : decode cX0_stepBack 95 = .ok (.goto 16, 3) := by decide +kernel
theorem dX0_stepBack_98 : decode cX0_stepBack 98 = .ok (.aload_n 0, 1) := by decide +kernel
theorem dX0_stepBack_99 : decode cX0_stepBack 99 = .ok (.dup, 1) := by decide +kernel
theorem dX0_stepBack_100 : decode cX0_stepBack 100 = .ok (.getfield 13, 3) := by decide +kernel
theorem dX0_stepBack_103 : decode cX0_stepBack 103 = .ok (.aload_n 0, 1) := by decide +kernel
theorem dX0_stepBack_104 : decode cX0_stepBack 104 = .ok (.getfield 7, 3) := by decide +kernel
theorem dX0_stepBack_107 : decode cX0_stepBack 107 = .ok (.isub, 1) := by decide +kernel
theorem dX0_stepBack_108 : decode cX0_stepBack 108 = .ok (.putfield 13, 3) := by decide +kernel
theorem dX0_stepBack_111 : decode cX0_stepBack 111 = .ok (.iconst 1, 1) := by decide +kernel
theorem dX0_stepBack_112 : decode cX0_stepBack 112 = .ok (.ireturn, 1) := by decide +kernel
theorem dX1_init_0 : decode cX1_init 0 = .ok (.aload_n 0, 1) := by decide +kernel
theorem dX1_init_1 : decode cX1_init 1 = .ok (.invokespecial 3, 3) := by decide +kernel
theorem dX1_init_4 : decode cX1_init 4 = .ok (.aload_n 0, 1) := by decide +kernel
theorem dX1_init_5 : decode cX1_init 5 = .ok (.bipush 120, 2) := by decide +kernel
theorem dX1_init_7 : decode cX1_init 7 = .ok (.newarray .int, 2) := by decide +kernel
theorem dX1_init_9 : decode cX1_init 9 = .ok (.putfield 9, 3) := by decide +kernel
theorem dX1_init_12 : decode cX1_init 12 = .ok (.aload_n 0, 1) := by decide +kernel
theorem dX1_init_13 : decode cX1_init 13 = .ok (.bipush 120, 2) := by decide +kernel
theorem dX1_init_15 : decode cX1_init 15 = .ok (.newarray .boolean, 2) := by decide +kernel
theorem dX1_init_17 : decode cX1_init 17 = .ok (.putfield 15, 3) := by decide +kernel
theorem dX1_init_20 : decode cX1_init 20 = .ok (.aload_n 0, 1) := by decide +kernel
theorem dX1_init_21 : decode cX1_init 21 = .ok (.bipush 120, 2) := by decide +kernel
theorem dX1_init_23 : decode cX1_init 23 = .ok (.newarray .int, 2) := by decide +kernel
theorem dX1_init_25 : decode cX1_init 25 = .ok (.putfield 19, 3) := by decide +kernel
theorem dX1_init_28 : decode cX1_init 28 = .ok (.aload_n 0, 1) := by decide +kernel
theorem dX1_init_29 : decode cX1_init 29 = .ok (.bipush 120, 2) := by decide +kernel
theorem dX1_init_31 : decode cX1_init 31 = .ok (.newarray .int, 2) := by decide +kernel
theorem dX1_init_33 : decode cX1_init 33 = .ok (.putfield 22, 3) := by decide +kernel
theorem dX1_init_36 : decode cX1_init 36 = .ok (.return_, 1) := by decide +kernel
theorem dX1_size_0 : decode cX1_size 0 = .ok (.aload_n 0, 1) := by decide +kernel
theorem dX1_size_1 : decode cX1_size 1 = .ok (.getfield 25, 3) := by decide +kernel
theorem dX1_size_4 : decode cX1_size 4 = .ok (.ireturn, 1) := by decide +kernel
theorem dX1_isFull_0 : decode cX1_isFull 0 = .ok (.aload_n 0, 1) := by decide +kernel
theorem dX1_isFull_1 : decode cX1_isFull 1 = .ok (.getfield 25, 3) := by decide +kernel
theorem dX1_isFull_4 : decode cX1_isFull 4 = .ok (.bipush 120, 2) := by decide +kernel
theorem dX1_isFull_6 : decode cX1_isFull 6 = .ok (.if_icmp .lt 7, 3) := by decide +kernel
theorem dX1_isFull_9 : decode cX1_isFull 9 = .ok (.iconst 1, 1) := by decide +kernel
theorem dX1_isFull_10 : decode cX1_isFull 10 = .ok (.goto 4, 3) := by decide +kernel
theorem dX1_isFull_13 : decode cX1_isFull 13 = .ok (.iconst 0, 1) := by decide +kernel
theorem dX1_isFull_14 : decode cX1_isFull 14 = .ok (.ireturn, 1) := by decide +kernel
theorem dX1_clear_0 : decode cX1_clear 0 = .ok (.aload_n 0, 1) := by decide +kernel
theorem dX1_clear_1 : decode cX1_clear 1 = .ok (.iconst 0, 1) := by decide +kernel
theorem dX1_clear_2 : decode cX1_clear 2 = .ok (.putfield 25, 3) := by decide +kernel
theorem dX1_clear_5 : decode cX1_clear 5 = .ok (.return_, 1) := by decide +kernel
theorem dX1_appendRow_0 : decode cX1_appendRow 0 = .ok (.aload_n 0, 1) := by decide +kernel
theorem dX1_appendRow_1 : decode cX1_appendRow 1 = .ok (.iload_n 1, 1) := by decide +kernel
theorem dX1_appendRow_2 : decode cX1_appendRow 2 = .ok (.iconst 0, 1) := by decide +kernel
theorem dX1_appendRow_3 : decode cX1_appendRow 3 = .ok (.iload_n 2, 1) := by decide +kernel
theorem dX1_appendRow_4 : decode cX1_appendRow 4 = .ok (.iload_n 3, 1) := by decide +kernel
theorem dX1_appendRow_5 : decode cX1_appendRow 5 = .ok (.invokevirtual 29, 3) := by decide +kernel
theorem dX1_appendRow_8 : decode cX1_appendRow 8 = .ok (.return_, 1) := by decide +kernel
theorem dX1_appendDeletion_0 : decode cX1_appendDeletion 0 = .ok (.aload_n 0, 1) := by decide +kernel
theorem dX1_appendDeletion_1 : decode cX1_appendDeletion 1 = .ok (.iload_n 1, 1) := by decide +kernel
theorem dX1_appendDeletion_2 : decode cX1_appendDeletion 2 = .ok (.iconst 1, 1) := by decide +kernel
theorem dX1_appendDeletion_3 : decode cX1_appendDeletion 3 = .ok (.iconst 0, 1) := by decide +kernel
theorem dX1_appendDeletion_4 : decode cX1_appendDeletion 4 = .ok (.iconst 0, 1) := by decide +kernel
theorem dX1_appendDeletion_5 : decode cX1_appendDeletion 5 = .ok (.invokevirtual 29, 3) := by decide +kernel
theorem dX1_appendDeletion_8 : decode cX1_appendDeletion 8 = .ok (.return_, 1) := by decide +kernel
theorem dX1_append_0 : decode cX1_append 0 = .ok (.aload_n 0, 1) := by decide +kernel
theorem dX1_append_1 : decode cX1_append 1 = .ok (.getfield 25, 3) := by decide +kernel
theorem dX1_append_4 : decode cX1_append 4 = .ok (.ifCond .lt 63, 3) := by decide +kernel
theorem dX1_append_7 : decode cX1_append 7 = .ok (.aload_n 0, 1) := by decide +kernel
theorem dX1_append_8 : decode cX1_append 8 = .ok (.getfield 25, 3) := by decide +kernel
theorem dX1_append_11 : decode cX1_append 11 = .ok (.bipush 120, 2) := by decide +kernel
theorem dX1_append_13 : decode cX1_append 13 = .ok (.if_icmp .ge 54, 3) := by decide +kernel
theorem dX1_append_16 : decode cX1_append 16 = .ok (.aload_n 0, 1) := by decide +kernel
theorem dX1_append_17 : decode cX1_append 17 = .ok (.getfield 9, 3) := by decide +kernel
theorem dX1_append_20 : decode cX1_append 20 = .ok (.aload_n 0, 1) := by decide +kernel
theorem dX1_append_21 : decode cX1_append 21 = .ok (.getfield 25, 3) := by decide +kernel
theorem dX1_append_24 : decode cX1_append 24 = .ok (.iload_n 1, 1) := by decide +kernel
theorem dX1_append_25 : decode cX1_append 25 = .ok (.iastore, 1) := by decide +kernel
theorem dX1_append_26 : decode cX1_append 26 = .ok (.aload_n 0, 1) := by decide +kernel
theorem dX1_append_27 : decode cX1_append 27 = .ok (.getfield 15, 3) := by decide +kernel
theorem dX1_append_30 : decode cX1_append 30 = .ok (.aload_n 0, 1) := by decide +kernel
theorem dX1_append_31 : decode cX1_append 31 = .ok (.getfield 25, 3) := by decide +kernel
theorem dX1_append_34 : decode cX1_append 34 = .ok (.iload_n 2, 1) := by decide +kernel
theorem dX1_append_35 : decode cX1_append 35 = .ok (.bastore, 1) := by decide +kernel
theorem dX1_append_36 : decode cX1_append 36 = .ok (.aload_n 0, 1) := by decide +kernel
theorem dX1_append_37 : decode cX1_append 37 = .ok (.getfield 19, 3) := by decide +kernel
theorem dX1_append_40 : decode cX1_append 40 = .ok (.aload_n 0, 1) := by decide +kernel
theorem dX1_append_41 : decode cX1_append 41 = .ok (.getfield 25, 3) := by decide +kernel
theorem dX1_append_44 : decode cX1_append 44 = .ok (.iload_n 3, 1) := by decide +kernel
theorem dX1_append_45 : decode cX1_append 45 = .ok (.iastore, 1) := by decide +kernel
theorem dX1_append_46 : decode cX1_append 46 = .ok (.aload_n 0, 1) := by decide +kernel
theorem dX1_append_47 : decode cX1_append 47 = .ok (.getfield 22, 3) := by decide +kernel
theorem dX1_append_50 : decode cX1_append 50 = .ok (.aload_n 0, 1) := by decide +kernel
theorem dX1_append_51 : decode cX1_append 51 = .ok (.getfield 25, 3) := by decide +kernel
theorem dX1_append_54 : decode cX1_append 54 = .ok (.iload 4, 2) := by decide +kernel
theorem dX1_append_56 : decode cX1_append 56 = .ok (.iastore, 1) := by decide +kernel
theorem dX1_append_57 : decode cX1_append 57 = .ok (.aload_n 0, 1) := by decide +kernel
theorem dX1_append_58 : decode cX1_append 58 = .ok (.dup, 1) := by decide +kernel
theorem dX1_append_59 : decode cX1_append 59 = .ok (.getfield 25, 3) := by decide +kernel
theorem dX1_append_62 : decode cX1_append 62 = .ok (.iconst 1, 1) := by decide +kernel
theorem dX1_append_63 : decode cX1_append 63 = .ok (.iadd, 1) := by decide +kernel
theorem dX1_append_64 : decode cX1_append 64 = .ok (.putfield 25, 3) := by decide +kernel
theorem dX1_append_67 : decode cX1_append 67 = .ok (.return_, 1) := by decide +kernel
theorem dX1_isIndex_0 : decode cX1_isIndex 0 = .ok (.iload_n 0, 1) := by decide +kernel
theorem dX1_isIndex_1 : decode cX1_isIndex 1 = .ok (.ifCond .lt 13, 3) := by decide +kernel
theorem dX1_isIndex_4 : decode cX1_isIndex 4 = .ok (.iload_n 0, 1) := by decide +kernel
theorem dX1_isIndex_5 : decode cX1_isIndex 5 = .ok (.bipush 120, 2) := by decide +kernel
theorem dX1_isIndex_7 : decode cX1_isIndex 7 = .ok (.if_icmp .ge 7, 3) := by decide +kernel
theorem dX1_isIndex_10 : decode cX1_isIndex 10 = .ok (.iconst 1, 1) := by decide +kernel
theorem dX1_isIndex_11 : decode cX1_isIndex 11 = .ok (.goto 4, 3) := by decide +kernel
theorem dX1_isIndex_14 : decode cX1_isIndex 14 = .ok (.iconst 0, 1) := by decide +kernel
theorem dX1_isIndex_15 : decode cX1_isIndex 15 = .ok (.ireturn, 1) := by decide +kernel
theorem dX1_key_0 : decode cX1_key 0 = .ok (.iload_n 1, 1) := by decide +kernel
theorem dX1_key_1 : decode cX1_key 1 = .ok (.invokestatic 33, 3) := by decide +kernel
theorem dX1_key_4 : decode cX1_key 4 = .ok (.ifCond .eq 12, 3) := by decide +kernel
theorem dX1_key_7 : decode cX1_key 7 = .ok (.aload_n 0, 1) := by decide +kernel
theorem dX1_key_8 : decode cX1_key 8 = .ok (.getfield 9, 3) := by decide +kernel
theorem dX1_key_11 : decode cX1_key 11 = .ok (.iload_n 1, 1) := by decide +kernel
theorem dX1_key_12 : decode cX1_key 12 = .ok (.iaload, 1) := by decide +kernel
theorem dX1_key_13 : decode cX1_key 13 = .ok (.goto 4, 3) := by decide +kernel
theorem dX1_key_16 : decode cX1_key 16 = .ok (.iconst 0, 1) := by decide +kernel
theorem dX1_key_17 : decode cX1_key 17 = .ok (.ireturn, 1) := by decide +kernel
theorem dX1_isDeletion_0 : decode cX1_isDeletion 0 = .ok (.iload_n 1, 1) := by decide +kernel
theorem dX1_isDeletion_1 : decode cX1_isDeletion 1 = .ok (.invokestatic 33, 3) := by decide +kernel
theorem dX1_isDeletion_4 : decode cX1_isDeletion 4 = .ok (.ifCond .eq 16, 3) := by decide +kernel
theorem dX1_isDeletion_7 : decode cX1_isDeletion 7 = .ok (.aload_n 0, 1) := by decide +kernel
theorem dX1_isDeletion_8 : decode cX1_isDeletion 8 = .ok (.getfield 15, 3) := by decide +kernel
theorem dX1_isDeletion_11 : decode cX1_isDeletion 11 = .ok (.iload_n 1, 1) := by decide +kernel
theorem dX1_isDeletion_12 : decode cX1_isDeletion 12 = .ok (.baload, 1) := by decide +kernel
theorem dX1_isDeletion_13 : decode cX1_isDeletion 13 = .ok (.ifCond .eq 7, 3) := by decide +kernel
theorem dX1_isDeletion_16 : decode cX1_isDeletion 16 = .ok (.iconst 1, 1) := by decide +kernel
theorem dX1_isDeletion_17 : decode cX1_isDeletion 17 = .ok (.goto 4, 3) := by decide +kernel
theorem dX1_isDeletion_20 : decode cX1_isDeletion 20 = .ok (.iconst 0, 1) := by decide +kernel
theorem dX1_isDeletion_21 : decode cX1_isDeletion 21 = .ok (.ireturn, 1) := by decide +kernel
theorem dX1_number_0 : decode cX1_number 0 = .ok (.iload_n 1, 1) := by decide +kernel
theorem dX1_number_1 : decode cX1_number 1 = .ok (.invokestatic 33, 3) := by decide +kernel
theorem dX1_number_4 : decode cX1_number 4 = .ok (.ifCond .ne 5, 3) := by decide +kernel
theorem dX1_number_7 : decode cX1_number 7 = .ok (.iconst 0, 1) := by decide +kernel
theorem dX1_number_8 : decode cX1_number 8 = .ok (.ireturn, 1) := by decide +kernel
theorem dX1_number_9 : decode cX1_number 9 = .ok (.iload_n 2, 1) := by decide +kernel
theorem dX1_number_10 : decode cX1_number 10 = .ok (.ifCond .eq 12, 3) := by decide +kernel
theorem dX1_number_13 : decode cX1_number 13 = .ok (.aload_n 0, 1) := by decide +kernel
theorem dX1_number_14 : decode cX1_number 14 = .ok (.getfield 22, 3) := by decide +kernel
theorem dX1_number_17 : decode cX1_number 17 = .ok (.iload_n 1, 1) := by decide +kernel
theorem dX1_number_18 : decode cX1_number 18 = .ok (.iaload, 1) := by decide +kernel
theorem dX1_number_19 : decode cX1_number 19 = .ok (.goto 9, 3) := by decide +kernel
theorem dX1_number_22 : decode cX1_number 22 = .ok (.aload_n 0, 1) := by decide +kernel
theorem dX1_number_23 : decode cX1_number 23 = .ok (.getfield 19, 3) := by decide +kernel
theorem dX1_number_26 : decode cX1_number 26 = .ok (.iload_n 1, 1) := by decide +kernel
theorem dX1_number_27 : decode cX1_number 27 = .ok (.iaload, 1) := by decide +kernel
theorem dX1_number_28 : decode cX1_number 28 = .ok (.ireturn, 1) := by decide +kernel
theorem dX2_init_0 : decode cX2_init 0 = .ok (.aload_n 0, 1) := by decide +kernel
theorem dX2_init_1 : decode cX2_init 1 = .ok (.invokespecial 3, 3) := by decide +kernel
theorem dX2_init_4 : decode cX2_init 4 = .ok (.aload_n 0, 1) := by decide +kernel
theorem dX2_init_5 : decode cX2_init 5 = .ok (.new 9, 3) := by decide +kernel
theorem dX2_init_8 : decode cX2_init 8 = .ok (.dup, 1) := by decide +kernel
theorem dX2_init_9 : decode cX2_init 9 = .ok (.invokespecial 11, 3) := by decide +kernel
theorem dX2_init_12 : decode cX2_init 12 = .ok (.putfield 12, 3) := by decide +kernel
theorem dX2_init_15 : decode cX2_init 15 = .ok (.aload_n 0, 1) := by decide +kernel
theorem dX2_init_16 : decode cX2_init 16 = .ok (.bipush 40, 2) := by decide +kernel
theorem dX2_init_18 : decode cX2_init 18 = .ok (.newarray .int, 2) := by decide +kernel
theorem dX2_init_20 : decode cX2_init 20 = .ok (.putfield 18, 3) := by decide +kernel
theorem dX2_init_23 : decode cX2_init 23 = .ok (.aload_n 0, 1) := by decide +kernel
theorem dX2_init_24 : decode cX2_init 24 = .ok (.bipush 40, 2) := by decide +kernel
theorem dX2_init_26 : decode cX2_init 26 = .ok (.newarray .int, 2) := by decide +kernel
theorem dX2_init_28 : decode cX2_init 28 = .ok (.putfield 22, 3) := by decide +kernel
theorem dX2_init_31 : decode cX2_init 31 = .ok (.aload_n 0, 1) := by decide +kernel
theorem dX2_init_32 : decode cX2_init 32 = .ok (.bipush 40, 2) := by decide +kernel
theorem dX2_init_34 : decode cX2_init 34 = .ok (.newarray .int, 2) := by decide +kernel
theorem dX2_init_36 : decode cX2_init 36 = .ok (.putfield 25, 3) := by decide +kernel
theorem dX2_init_39 : decode cX2_init 39 = .ok (.aload_n 0, 1) := by decide +kernel
theorem dX2_init_40 : decode cX2_init 40 = .ok (.bipush 40, 2) := by decide +kernel
theorem dX2_init_42 : decode cX2_init 42 = .ok (.newarray .boolean, 2) := by decide +kernel
theorem dX2_init_44 : decode cX2_init 44 = .ok (.putfield 28, 3) := by decide +kernel
theorem dX2_init_47 : decode cX2_init 47 = .ok (.return_, 1) := by decide +kernel
theorem dX2_keysLeft_0 : decode cX2_keysLeft 0 = .ok (.bipush 40, 2) := by decide +kernel
theorem dX2_keysLeft_2 : decode cX2_keysLeft 2 = .ok (.aload_n 0, 1) := by decide +kernel
theorem dX2_keysLeft_3 : decode cX2_keysLeft 3 = .ok (.getfield 32, 3) := by decide +kernel
theorem dX2_keysLeft_6 : decode cX2_keysLeft 6 = .ok (.isub, 1) := by decide +kernel
theorem dX2_keysLeft_7 : decode cX2_keysLeft 7 = .ok (.ireturn, 1) := by decide +kernel
theorem dX2_waiting_0 : decode cX2_waiting 0 = .ok (.aload_n 0, 1) := by decide +kernel
theorem dX2_waiting_1 : decode cX2_waiting 1 = .ok (.getfield 36, 3) := by decide +kernel
theorem dX2_waiting_4 : decode cX2_waiting 4 = .ok (.ireturn, 1) := by decide +kernel
theorem dX2_take_0 : decode cX2_take 0 = .ok (.aload_n 0, 1) := by decide +kernel
theorem dX2_take_1 : decode cX2_take 1 = .ok (.getfield 39, 3) := by decide +kernel
theorem dX2_take_4 : decode cX2_take 4 = .ok (.istore 4, 2) := by decide +kernel
theorem dX2_take_6 : decode cX2_take 6 = .ok (.aload_n 0, 1) := by decide +kernel
theorem dX2_take_7 : decode cX2_take 7 = .ok (.getfield 32, 3) := by decide +kernel
theorem dX2_take_10 : decode cX2_take 10 = .ok (.iload_n 2, 1) := by decide +kernel
theorem dX2_take_11 : decode cX2_take 11 = .ok (.aload_n 0, 1) := by decide +kernel
theorem dX2_take_12 : decode cX2_take 12 = .ok (.invokevirtual 42, 3) := by decide +kernel
theorem dX2_take_15 : decode cX2_take 15 = .ok (.invokestatic 46, 3) := by decide +kernel
theorem dX2_take_18 : decode cX2_take 18 = .ok (.iadd, 1) := by decide +kernel
theorem dX2_take_19 : decode cX2_take 19 = .ok (.istore 5, 2) := by decide +kernel
theorem dX2_take_21 : decode cX2_take 21 = .ok (.aload_n 0, 1) := by decide +kernel
theorem dX2_take_22 : decode cX2_take 22 = .ok (.getfield 32, 3) := by decide +kernel
theorem dX2_take_25 : decode cX2_take 25 = .ok (.istore 6, 2) := by decide +kernel
theorem dX2_take_27 : decode cX2_take 27 = .ok (.iload 6, 2) := by decide +kernel
theorem dX2_take_29 : decode cX2_take 29 = .ok (.iload 5, 2) := by decide +kernel
theorem dX2_take_31 : decode cX2_take 31 = .ok (.if_icmp .ge 48, 3) := by decide +kernel
theorem dX2_take_34 : decode cX2_take 34 = .ok (.iload 6, 2) := by decide +kernel
theorem dX2_take_36 : decode cX2_take 36 = .ok (.bipush 40, 2) := by decide +kernel
theorem dX2_take_38 : decode cX2_take 38 = .ok (.if_icmp .ge 41, 3) := by decide +kernel
theorem dX2_take_41 : decode cX2_take 41 = .ok (.aload_n 1, 1) := by decide +kernel
theorem dX2_take_42 : decode cX2_take 42 = .ok (.iload 6, 2) := by decide +kernel
theorem dX2_take_44 : decode cX2_take 44 = .ok (.invokevirtual 52, 3) := by decide +kernel
theorem dX2_take_47 : decode cX2_take 47 = .ok (.ifCond .eq 26, 3) := by decide +kernel
theorem dX2_take_50 : decode cX2_take 50 = .ok (.aload_n 0, 1) := by decide +kernel
theorem dX2_take_51 : decode cX2_take 51 = .ok (.getfield 12, 3) := by decide +kernel
theorem dX2_take_54 : decode cX2_take 54 = .ok (.iload 6, 2) := by decide +kernel
theorem dX2_take_56 : decode cX2_take 56 = .ok (.aload_n 1, 1) := by decide +kernel
theorem dX2_take_57 : decode cX2_take 57 = .ok (.iload 6, 2) := by decide +kernel
theorem dX2_take_59 : decode cX2_take 59 = .ok (.iconst 0, 1) := by decide +kernel
theorem dX2_take_60 : decode cX2_take 60 = .ok (.invokevirtual 56, 3) := by decide +kernel
theorem dX2_take_63 : decode cX2_take 63 = .ok (.aload_n 1, 1) := by decide +kernel
theorem dX2_take_64 : decode cX2_take 64 = .ok (.iload 6, 2) := by decide +kernel
theorem dX2_take_66 : decode cX2_take 66 = .ok (.iconst 1, 1) := by decide +kernel
theorem dX2_take_67 : decode cX2_take 67 = .ok (.invokevirtual 56, 3) := by decide +kernel
theorem dX2_take_70 : decode cX2_take 70 = .ok (.invokevirtual 60, 3) := by decide +kernel
theorem dX2_take_73 : decode cX2_take 73 = .ok (.iinc 6 1, 3) := by decide +kernel
theorem dX2_take_76 : decode cX2_take 76 = .ok (.goto (-49), 3) := by decide +kernel
theorem dX2_take_79 : decode cX2_take 79 = .ok (.iload 4, 2) := by decide +kernel
theorem dX2_take_81 : decode cX2_take 81 = .ok (.invokestatic 64, 3) := by decide +kernel
theorem dX2_take_84 : decode cX2_take 84 = .ok (.ifCond .eq 65, 3) := by decide +kernel
theorem dX2_take_87 : decode cX2_take 87 = .ok (.aload_n 0, 1) := by decide +kernel
theorem dX2_take_88 : decode cX2_take 88 = .ok (.getfield 18, 3) := by decide +kernel
theorem dX2_take_91 : decode cX2_take 91 = .ok (.iload 4, 2) := by decide +kernel
theorem dX2_take_93 : decode cX2_take 93 = .ok (.aload_n 0, 1) := by decide +kernel
theorem dX2_take_94 : decode cX2_take 94 = .ok (.getfield 32, 3) := by decide +kernel
theorem dX2_take_97 : decode cX2_take 97 = .ok (.iastore, 1) := by decide +kernel
theorem dX2_take_98 : decode cX2_take 98 = .ok (.aload_n 0, 1) := by decide +kernel
theorem dX2_take_99 : decode cX2_take 99 = .ok (.getfield 22, 3) := by decide +kernel
theorem dX2_take_102 : decode cX2_take 102 = .ok (.iload 4, 2) := by decide +kernel
theorem dX2_take_104 : decode cX2_take 104 = .ok (.iload 5, 2) := by decide +kernel
theorem dX2_take_106 : decode cX2_take 106 = .ok (.iastore, 1) := by decide +kernel
theorem dX2_take_107 : decode cX2_take 107 = .ok (.aload_n 0, 1) := by decide +kernel
theorem dX2_take_108 : decode cX2_take 108 = .ok (.getfield 25, 3) := by decide +kernel
theorem dX2_take_111 : decode cX2_take 111 = .ok (.iload 4, 2) := by decide +kernel
theorem dX2_take_113 : decode cX2_take 113 = .ok (.iload_n 3, 1) := by decide +kernel
theorem dX2_take_114 : decode cX2_take 114 = .ok (.iastore, 1) := by decide +kernel
theorem dX2_take_115 : decode cX2_take 115 = .ok (.aload_n 0, 1) := by decide +kernel
theorem dX2_take_116 : decode cX2_take 116 = .ok (.getfield 28, 3) := by decide +kernel
theorem dX2_take_119 : decode cX2_take 119 = .ok (.iload 4, 2) := by decide +kernel
theorem dX2_take_121 : decode cX2_take 121 = .ok (.iconst 1, 1) := by decide +kernel
theorem dX2_take_122 : decode cX2_take 122 = .ok (.bastore, 1) := by decide +kernel
theorem dX2_take_123 : decode cX2_take 123 = .ok (.aload_n 0, 1) := by decide +kernel
theorem dX2_take_124 : decode cX2_take 124 = .ok (.dup, 1) := by decide +kernel
theorem dX2_take_125 : decode cX2_take 125 = .ok (.getfield 36, 3) := by decide +kernel
theorem dX2_take_128 : decode cX2_take 128 = .ok (.iconst 1, 1) := by decide +kernel
theorem dX2_take_129 : decode cX2_take 129 = .ok (.iadd, 1) := by decide +kernel
theorem dX2_take_130 : decode cX2_take 130 = .ok (.putfield 36, 3) := by decide +kernel
theorem dX2_take_133 : decode cX2_take 133 = .ok (.aload_n 0, 1) := by decide +kernel
theorem dX2_take_134 : decode cX2_take 134 = .ok (.dup, 1) := by decide +kernel
theorem dX2_take_135 : decode cX2_take 135 = .ok (.getfield 39, 3) := by decide +kernel
theorem dX2_take_138 : decode cX2_take 138 = .ok (.iconst 1, 1) := by decide +kernel
theorem dX2_take_139 : decode cX2_take 139 = .ok (.iadd, 1) := by decide +kernel
theorem dX2_take_140 : decode cX2_take 140 = .ok (.putfield 39, 3) := by decide +kernel
theorem dX2_take_143 : decode cX2_take 143 = .ok (.aload_n 0, 1) := by decide +kernel
theorem dX2_take_144 : decode cX2_take 144 = .ok (.iload 5, 2) := by decide +kernel
theorem dX2_take_146 : decode cX2_take 146 = .ok (.putfield 32, 3) := by decide +kernel
theorem dX2_take_149 : decode cX2_take 149 = .ok (.iload 4, 2) := by decide +kernel
theorem dX2_take_151 : decode cX2_take 151 = .ok (.ireturn, 1) := by decide +kernel
theorem dX2_isPart_0 : decode cX2_isPart 0 = .ok (.iload_n 0, 1) := by decide +kernel
theorem dX2_isPart_1 : decode cX2_isPart 1 = .ok (.ifCond .lt 13, 3) := by decide +kernel
theorem dX2_isPart_4 : decode cX2_isPart 4 = .ok (.iload_n 0, 1) := by decide +kernel
theorem dX2_isPart_5 : decode cX2_isPart 5 = .ok (.bipush 40, 2) := by decide +kernel
theorem dX2_isPart_7 : decode cX2_isPart 7 = .ok (.if_icmp .ge 7, 3) := by decide +kernel
theorem dX2_isPart_10 : decode cX2_isPart 10 = .ok (.iconst 1, 1) := by decide +kernel
theorem dX2_isPart_11 : decode cX2_isPart 11 = .ok (.goto 4, 3) := by decide +kernel
theorem dX2_isPart_14 : decode cX2_isPart 14 = .ok (.iconst 0, 1) := by decide +kernel
theorem dX2_isPart_15 : decode cX2_isPart 15 = .ok (.ireturn, 1) := by decide +kernel
theorem dX2_isWaiting_0 : decode cX2_isWaiting 0 = .ok (.iload_n 1, 1) := by decide +kernel
theorem dX2_isWaiting_1 : decode cX2_isWaiting 1 = .ok (.invokestatic 64, 3) := by decide +kernel
theorem dX2_isWaiting_4 : decode cX2_isWaiting 4 = .ok (.ifCond .eq 16, 3) := by decide +kernel
theorem dX2_isWaiting_7 : decode cX2_isWaiting 7 = .ok (.aload_n 0, 1) := by decide +kernel
theorem dX2_isWaiting_8 : decode cX2_isWaiting 8 = .ok (.getfield 28, 3) := by decide +kernel
theorem dX2_isWaiting_11 : decode cX2_isWaiting 11 = .ok (.iload_n 1, 1) := by decide +kernel
theorem dX2_isWaiting_12 : decode cX2_isWaiting 12 = .ok (.baload, 1) := by decide +kernel
theorem dX2_isWaiting_13 : decode cX2_isWaiting 13 = .ok (.ifCond .eq 7, 3) := by decide +kernel
theorem dX2_isWaiting_16 : decode cX2_isWaiting 16 = .ok (.iconst 1, 1) := by decide +kernel
theorem dX2_isWaiting_17 : decode cX2_isWaiting 17 = .ok (.goto 4, 3) := by decide +kernel
theorem dX2_isWaiting_20 : decode cX2_isWaiting 20 = .ok (.iconst 0, 1) := by decide +kernel
theorem dX2_isWaiting_21 : decode cX2_isWaiting 21 = .ok (.ireturn, 1) := by decide +kernel
theorem dX2_lowOf_0 : decode cX2_lowOf 0 = .ok (.iload_n 1, 1) := by decide +kernel
theorem dX2_lowOf_1 : decode cX2_lowOf 1 = .ok (.invokestatic 64, 3) := by decide +kernel
theorem dX2_lowOf_4 : decode cX2_lowOf 4 = .ok (.ifCond .eq 12, 3) := by decide +kernel
theorem dX2_lowOf_7 : decode cX2_lowOf 7 = .ok (.aload_n 0, 1) := by decide +kernel
theorem dX2_lowOf_8 : decode cX2_lowOf 8 = .ok (.getfield 18, 3) := by decide +kernel
theorem dX2_lowOf_11 : decode cX2_lowOf 11 = .ok (.iload_n 1, 1) := by decide +kernel
theorem dX2_lowOf_12 : decode cX2_lowOf 12 = .ok (.iaload, 1) := by decide +kernel
theorem dX2_lowOf_13 : decode cX2_lowOf 13 = .ok (.goto 4, 3) := by decide +kernel
theorem dX2_lowOf_16 : decode cX2_lowOf 16 = .ok (.iconst 0, 1) := by decide +kernel
theorem dX2_lowOf_17 : decode cX2_lowOf 17 = .ok (.ireturn, 1) := by decide +kernel
theorem dX2_endOf_0 : decode cX2_endOf 0 = .ok (.iload_n 1, 1) := by decide +kernel
theorem dX2_endOf_1 : decode cX2_endOf 1 = .ok (.invokestatic 64, 3) := by decide +kernel
theorem dX2_endOf_4 : decode cX2_endOf 4 = .ok (.ifCond .eq 12, 3) := by decide +kernel
theorem dX2_endOf_7 : decode cX2_endOf 7 = .ok (.aload_n 0, 1) := by decide +kernel
theorem dX2_endOf_8 : decode cX2_endOf 8 = .ok (.getfield 22, 3) := by decide +kernel
theorem dX2_endOf_11 : decode cX2_endOf 11 = .ok (.iload_n 1, 1) := by decide +kernel
theorem dX2_endOf_12 : decode cX2_endOf 12 = .ok (.iaload, 1) := by decide +kernel
theorem dX2_endOf_13 : decode cX2_endOf 13 = .ok (.goto 4, 3) := by decide +kernel
theorem dX2_endOf_16 : decode cX2_endOf 16 = .ok (.iconst 0, 1) := by decide +kernel
theorem dX2_endOf_17 : decode cX2_endOf 17 = .ok (.ireturn, 1) := by decide +kernel
theorem dX2_stampOf_0 : decode cX2_stampOf 0 = .ok (.iload_n 1, 1) := by decide +kernel
theorem dX2_stampOf_1 : decode cX2_stampOf 1 = .ok (.invokestatic 64, 3) := by decide +kernel
theorem dX2_stampOf_4 : decode cX2_stampOf 4 = .ok (.ifCond .eq 12, 3) := by decide +kernel
theorem dX2_stampOf_7 : decode cX2_stampOf 7 = .ok (.aload_n 0, 1) := by decide +kernel
theorem dX2_stampOf_8 : decode cX2_stampOf 8 = .ok (.getfield 25, 3) := by decide +kernel
theorem dX2_stampOf_11 : decode cX2_stampOf 11 = .ok (.iload_n 1, 1) := by decide +kernel
theorem dX2_stampOf_12 : decode cX2_stampOf 12 = .ok (.iaload, 1) := by decide +kernel
theorem dX2_stampOf_13 : decode cX2_stampOf 13 = .ok (.goto 4, 3) := by decide +kernel
theorem dX2_stampOf_16 : decode cX2_stampOf 16 = .ok (.iconst 0, 1) := by decide +kernel
theorem dX2_stampOf_17 : decode cX2_stampOf 17 = .ok (.ireturn, 1) := by decide +kernel
theorem dX2_hasRow_0 : decode cX2_hasRow 0 = .ok (.aload_n 0, 1) := by decide +kernel
theorem dX2_hasRow_1 : decode cX2_hasRow 1 = .ok (.getfield 12, 3) := by decide +kernel
theorem dX2_hasRow_4 : decode cX2_hasRow 4 = .ok (.iload_n 1, 1) := by decide +kernel
theorem dX2_hasRow_5 : decode cX2_hasRow 5 = .ok (.invokevirtual 52, 3) := by decide +kernel
theorem dX2_hasRow_8 : decode cX2_hasRow 8 = .ok (.ireturn, 1) := by decide +kernel
theorem dX2_number_0 : decode cX2_number 0 = .ok (.aload_n 0, 1) := by decide +kernel
theorem dX2_number_1 : decode cX2_number 1 = .ok (.getfield 12, 3) := by decide +kernel
theorem dX2_number_4 : decode cX2_number 4 = .ok (.iload_n 1, 1) := by decide +kernel
theorem dX2_number_5 : decode cX2_number 5 = .ok (.iload_n 2, 1) := by decide +kernel
theorem dX2_number_6 : decode cX2_number 6 = .ok (.invokevirtual 56, 3) := by decide +kernel
theorem dX2_number_9 : decode cX2_number 9 = .ok (.ireturn, 1) := by decide +kernel
theorem dX2_finish_0 : decode cX2_finish 0 = .ok (.aload_n 0, 1) := by decide +kernel
theorem dX2_finish_1 : decode cX2_finish 1 = .ok (.iload_n 1, 1) := by decide +kernel
theorem dX2_finish_2 : decode cX2_finish 2 = .ok (.invokevirtual 67, 3) := by decide +kernel
theorem dX2_finish_5 : decode cX2_finish 5 = .ok (.ifCond .eq 20, 3) := by decide +kernel
theorem dX2_finish_8 : decode cX2_finish 8 = .ok (.aload_n 0, 1) := by decide +kernel
theorem dX2_finish_9 : decode cX2_finish 9 = .ok (.getfield 28, 3) := by decide +kernel
theorem dX2_finish_12 : decode cX2_finish 12 = .ok (.iload_n 1, 1) := by decide +kernel
theorem dX2_finish_13 : decode cX2_finish 13 = .ok (.iconst 0, 1) := by decide +kernel
theorem dX2_finish_14 : decode cX2_finish 14 = .ok (.bastore, 1) := by decide +kernel
theorem dX2_finish_15 : decode cX2_finish 15 = .ok (.aload_n 0, 1) := by decide +kernel
theorem dX2_finish_16 : decode cX2_finish 16 = .ok (.dup, 1) := by decide +kernel
theorem dX2_finish_17 : decode cX2_finish 17 = .ok (.getfield 36, 3) := by decide +kernel
theorem dX2_finish_20 : decode cX2_finish 20 = .ok (.iconst 1, 1) := by decide +kernel
theorem dX2_finish_21 : decode cX2_finish 21 = .ok (.isub, 1) := by decide +kernel
theorem dX2_finish_22 : decode cX2_finish 22 = .ok (.putfield 36, 3) := by decide +kernel
theorem dX2_finish_25 : decode cX2_finish 25 = .ok (.return_, 1) := by decide +kernel
theorem dX3_init_0 : decode cX3_init 0 = .ok (.aload_n 0, 1) := by decide +kernel
theorem dX3_init_1 : decode cX3_init 1 = .ok (.invokespecial 3, 3) := by decide +kernel
theorem dX3_init_4 : decode cX3_init 4 = .ok (.aload_n 0, 1) := by decide +kernel
theorem dX3_init_5 : decode cX3_init 5 = .ok (.bipush 40, 2) := by decide +kernel
theorem dX3_init_7 : decode cX3_init 7 = .ok (.newarray .boolean, 2) := by decide +kernel
theorem dX3_init_9 : decode cX3_init 9 = .ok (.putfield 9, 3) := by decide +kernel
theorem dX3_init_12 : decode cX3_init 12 = .ok (.aload_n 0, 1) := by decide +kernel
theorem dX3_init_13 : decode cX3_init 13 = .ok (.bipush 40, 2) := by decide +kernel
theorem dX3_init_15 : decode cX3_init 15 = .ok (.newarray .int, 2) := by decide +kernel
theorem dX3_init_17 : decode cX3_init 17 = .ok (.putfield 15, 3) := by decide +kernel
theorem dX3_init_20 : decode cX3_init 20 = .ok (.aload_n 0, 1) := by decide +kernel
theorem dX3_init_21 : decode cX3_init 21 = .ok (.bipush 40, 2) := by decide +kernel
theorem dX3_init_23 : decode cX3_init 23 = .ok (.newarray .int, 2) := by decide +kernel
theorem dX3_init_25 : decode cX3_init 25 = .ok (.putfield 19, 3) := by decide +kernel
theorem dX3_init_28 : decode cX3_init 28 = .ok (.return_, 1) := by decide +kernel
theorem dX3_has_0 : decode cX3_has 0 = .ok (.iload_n 1, 1) := by decide +kernel
theorem dX3_has_1 : decode cX3_has 1 = .ok (.invokestatic 22, 3) := by decide +kernel
theorem dX3_has_4 : decode cX3_has 4 = .ok (.ifCond .eq 16, 3) := by decide +kernel
theorem dX3_has_7 : decode cX3_has 7 = .ok (.aload_n 0, 1) := by decide +kernel
theorem dX3_has_8 : decode cX3_has 8 = .ok (.getfield 9, 3) := by decide +kernel
theorem dX3_has_11 : decode cX3_has 11 = .ok (.iload_n 1, 1) := by decide +kernel
theorem dX3_has_12 : decode cX3_has 12 = .ok (.baload, 1) := by decide +kernel
theorem dX3_has_13 : decode cX3_has 13 = .ok (.ifCond .eq 7, 3) := by decide +kernel
theorem dX3_has_16 : decode cX3_has 16 = .ok (.iconst 1, 1) := by decide +kernel
theorem dX3_has_17 : decode cX3_has 17 = .ok (.goto 4, 3) := by decide +kernel
theorem dX3_has_20 : decode cX3_has 20 = .ok (.iconst 0, 1) := by decide +kernel
theorem dX3_has_21 : decode cX3_has 21 = .ok (.ireturn, 1) := by decide +kernel
theorem dX3_number_0 : decode cX3_number 0 = .ok (.iload_n 1, 1) := by decide +kernel
theorem dX3_number_1 : decode cX3_number 1 = .ok (.invokestatic 22, 3) := by decide +kernel
theorem dX3_number_4 : decode cX3_number 4 = .ok (.ifCond .ne 5, 3) := by decide +kernel
theorem dX3_number_7 : decode cX3_number 7 = .ok (.iconst 0, 1) := by decide +kernel
theorem dX3_number_8 : decode cX3_number 8 = .ok (.ireturn, 1) := by decide +kernel
theorem dX3_number_9 : decode cX3_number 9 = .ok (.iload_n 2, 1) := by decide +kernel
theorem dX3_number_10 : decode cX3_number 10 = .ok (.ifCond .eq 12, 3) := by decide +kernel
theorem dX3_number_13 : decode cX3_number 13 = .ok (.aload_n 0, 1) := by decide +kernel
theorem dX3_number_14 : decode cX3_number 14 = .ok (.getfield 19, 3) := by decide +kernel
theorem dX3_number_17 : decode cX3_number 17 = .ok (.iload_n 1, 1) := by decide +kernel
theorem dX3_number_18 : decode cX3_number 18 = .ok (.iaload, 1) := by decide +kernel
theorem dX3_number_19 : decode cX3_number 19 = .ok (.goto 9, 3) := by decide +kernel
theorem dX3_number_22 : decode cX3_number 22 = .ok (.aload_n 0, 1) := by decide +kernel
theorem dX3_number_23 : decode cX3_number 23 = .ok (.getfield 15, 3) := by decide +kernel
theorem dX3_number_26 : decode cX3_number 26 = .ok (.iload_n 1, 1) := by decide +kernel
theorem dX3_number_27 : decode cX3_number 27 = .ok (.iaload, 1) := by decide +kernel
theorem dX3_number_28 : decode cX3_number 28 = .ok (.ireturn, 1) := by decide +kernel
theorem dX3_holds_0 : decode cX3_holds 0 = .ok (.aload_n 0, 1) := by decide +kernel
theorem dX3_holds_1 : decode cX3_holds 1 = .ok (.iload_n 1, 1) := by decide +kernel
theorem dX3_holds_2 : decode cX3_holds 2 = .ok (.invokevirtual 26, 3) := by decide +kernel
theorem dX3_holds_5 : decode cX3_holds 5 = .ok (.ifCond .eq 27, 3) := by decide +kernel
theorem dX3_holds_8 : decode cX3_holds 8 = .ok (.aload_n 0, 1) := by decide +kernel
theorem dX3_holds_9 : decode cX3_holds 9 = .ok (.iload_n 1, 1) := by decide +kernel
theorem dX3_holds_10 : decode cX3_holds 10 = .ok (.iconst 0, 1) := by decide +kernel
theorem dX3_holds_11 : decode cX3_holds 11 = .ok (.invokevirtual 29, 3) := by decide +kernel
theorem dX3_holds_14 : decode cX3_holds 14 = .ok (.iload_n 2, 1) := by decide +kernel
theorem dX3_holds_15 : decode cX3_holds 15 = .ok (.if_icmp .ne 17, 3) := by decide +kernel
theorem dX3_holds_18 : decode cX3_holds 18 = .ok (.aload_n 0, 1) := by decide +kernel
theorem dX3_holds_19 : decode cX3_holds 19 = .ok (.iload_n 1, 1) := by decide +kernel
theorem dX3_holds_20 : decode cX3_holds 20 = .ok (.iconst 1, 1) := by decide +kernel
theorem dX3_holds_21 : decode cX3_holds 21 = .ok (.invokevirtual 29, 3) := by decide +kernel
theorem dX3_holds_24 : decode cX3_holds 24 = .ok (.iload_n 3, 1) := by decide +kernel
theorem dX3_holds_25 : decode cX3_holds 25 = .ok (.if_icmp .ne 7, 3) := by decide +kernel
theorem dX3_holds_28 : decode cX3_holds 28 = .ok (.iconst 1, 1) := by decide +kernel
theorem dX3_holds_29 : decode cX3_holds 29 = .ok (.goto 4, 3) := by decide +kernel
theorem dX3_holds_32 : decode cX3_holds 32 = .ok (.iconst 0, 1) := by decide +kernel
theorem dX3_holds_33 : decode cX3_holds 33 = .ok (.ireturn, 1) := by decide +kernel
theorem dX3_put_0 : decode cX3_put 0 = .ok (.iload_n 1, 1) := by decide +kernel
theorem dX3_put_1 : decode cX3_put 1 = .ok (.invokestatic 22, 3) := by decide +kernel
theorem dX3_put_4 : decode cX3_put 4 = .ok (.ifCond .eq 24, 3) := by decide +kernel
theorem dX3_put_7 : decode cX3_put 7 = .ok (.aload_n 0, 1) := by decide +kernel
theorem dX3_put_8 : decode cX3_put 8 = .ok (.getfield 9, 3) := by decide +kernel
theorem dX3_put_11 : decode cX3_put 11 = .ok (.iload_n 1, 1) := by decide +kernel
theorem dX3_put_12 : decode cX3_put 12 = .ok (.iconst 1, 1) := by decide +kernel
theorem dX3_put_13 : decode cX3_put 13 = .ok (.bastore, 1) := by decide +kernel
theorem dX3_put_14 : decode cX3_put 14 = .ok (.aload_n 0, 1) := by decide +kernel
theorem dX3_put_15 : decode cX3_put 15 = .ok (.getfield 15, 3) := by decide +kernel
theorem dX3_put_18 : decode cX3_put 18 = .ok (.iload_n 1, 1) := by decide +kernel
theorem dX3_put_19 : decode cX3_put 19 = .ok (.iload_n 2, 1) := by decide +kernel
theorem dX3_put_20 : decode cX3_put 20 = .ok (.iastore, 1) := by decide +kernel
theorem dX3_put_21 : decode cX3_put 21 = .ok (.aload_n 0, 1) := by decide +kernel
theorem dX3_put_22 : decode cX3_put 22 = .ok (.getfield 19, 3) := by decide +kernel
theorem dX3_put_25 : decode cX3_put 25 = .ok (.iload_n 1, 1) := by decide +kernel
theorem dX3_put_26 : decode cX3_put 26 = .ok (.iload_n 3, 1) := by decide +kernel
theorem dX3_put_27 : decode cX3_put 27 = .ok (.iastore, 1) := by decide +kernel
theorem dX3_put_28 : decode cX3_put 28 = .ok (.return_, 1) := by decide +kernel
theorem dX3_remove_0 : decode cX3_remove 0 = .ok (.iload_n 1, 1) := by decide +kernel
theorem dX3_remove_1 : decode cX3_remove 1 = .ok (.invokestatic 22, 3) := by decide +kernel
theorem dX3_remove_4 : decode cX3_remove 4 = .ok (.ifCond .eq 10, 3) := by decide +kernel
theorem dX3_remove_7 : decode cX3_remove 7 = .ok (.aload_n 0, 1) := by decide +kernel
theorem dX3_remove_8 : decode cX3_remove 8 = .ok (.getfield 9, 3) := by decide +kernel
theorem dX3_remove_11 : decode cX3_remove 11 = .ok (.iload_n 1, 1) := by decide +kernel
theorem dX3_remove_12 : decode cX3_remove 12 = .ok (.iconst 0, 1) := by decide +kernel
theorem dX3_remove_13 : decode cX3_remove 13 = .ok (.bastore, 1) := by decide +kernel
theorem dX3_remove_14 : decode cX3_remove 14 = .ok (.return_, 1) := by decide +kernel
theorem dX3_count_0 : decode cX3_count 0 = .ok (.iconst 0, 1) := by decide +kernel
theorem dX3_count_1 : decode cX3_count 1 = .ok (.istore_n 1, 1) := by decide +kernel
theorem dX3_count_2 : decode cX3_count 2 = .ok (.iconst 0, 1) := by decide +kernel
theorem dX3_count_3 : decode cX3_count 3 = .ok (.istore_n 2, 1) := by decide +kernel
theorem dX3_count_4 : decode cX3_count 4 = .ok (.iload_n 2, 1) := by decide +kernel
theorem dX3_count_5 : decode cX3_count 5 = .ok (.bipush 40, 2) := by decide +kernel
theorem dX3_count_7 : decode cX3_count 7 = .ok (.if_icmp .ge 21, 3) := by decide +kernel
theorem dX3_count_10 : decode cX3_count 10 = .ok (.aload_n 0, 1) := by decide +kernel
theorem dX3_count_11 : decode cX3_count 11 = .ok (.getfield 9, 3) := by decide +kernel
theorem dX3_count_14 : decode cX3_count 14 = .ok (.iload_n 2, 1) := by decide +kernel
theorem dX3_count_15 : decode cX3_count 15 = .ok (.baload, 1) := by decide +kernel
theorem dX3_count_16 : decode cX3_count 16 = .ok (.ifCond .eq 6, 3) := by decide +kernel
theorem dX3_count_19 : decode cX3_count 19 = .ok (.iinc 1 1, 3) := by decide +kernel
theorem dX3_count_22 : decode cX3_count 22 = .ok (.iinc 2 1, 3) := by decide +kernel
theorem dX3_count_25 : decode cX3_count 25 = .ok (.goto (-21), 3) := by decide +kernel
theorem dX3_count_28 : decode cX3_count 28 = .ok (.iload_n 1, 1) := by decide +kernel
theorem dX3_count_29 : decode cX3_count 29 = .ok (.ireturn, 1) := by decide +kernel
theorem dX4_init_0 : decode cX4_init 0 = .ok (.aload_n 0, 1) := by decide +kernel
theorem dX4_init_1 : decode cX4_init 1 = .ok (.invokespecial 3, 3) := by decide +kernel
theorem dX4_init_4 : decode cX4_init 4 = .ok (.aload_n 0, 1) := by decide +kernel
theorem dX4_init_5 : decode cX4_init 5 = .ok (.bipush 6, 2) := by decide +kernel
theorem dX4_init_7 : decode cX4_init 7 = .ok (.newarray .char, 2) := by decide +kernel
theorem dX4_init_9 : decode cX4_init 9 = .ok (.putfield 9, 3) := by decide +kernel
theorem dX4_init_12 : decode cX4_init 12 = .ok (.aload_n 0, 1) := by decide +kernel
theorem dX4_init_13 : decode cX4_init 13 = .ok (.bipush 6, 2) := by decide +kernel
theorem dX4_init_15 : decode cX4_init 15 = .ok (.newarray .int, 2) := by decide +kernel
theorem dX4_init_17 : decode cX4_init 17 = .ok (.putfield 15, 3) := by decide +kernel
theorem dX4_init_20 : decode cX4_init 20 = .ok (.return_, 1) := by decide +kernel
theorem dX4_isStep_0 : decode cX4_isStep 0 = .ok (.iload_n 0, 1) := by decide +kernel
theorem dX4_isStep_1 : decode cX4_isStep 1 = .ok (.bipush 112, 2) := by decide +kernel
theorem dX4_isStep_3 : decode cX4_isStep 3 = .ok (.if_icmp .ne 11, 3) := by decide +kernel
theorem dX4_isStep_6 : decode cX4_isStep 6 = .ok (.iload_n 1, 1) := by decide +kernel
theorem dX4_isStep_7 : decode cX4_isStep 7 = .ok (.sipush 999, 3) := by decide +kernel
theorem dX4_isStep_10 : decode cX4_isStep 10 = .ok (.invokestatic 19, 3) := by decide +kernel
theorem dX4_isStep_13 : decode cX4_isStep 13 = .ok (.ireturn, 1) := by decide +kernel
theorem dX4_isStep_14 : decode cX4_isStep 14 = .ok (.iload_n 0, 1) := by decide +kernel
theorem dX4_isStep_15 : decode cX4_isStep 15 = .ok (.bipush 109, 2) := by decide +kernel
theorem dX4_isStep_17 : decode cX4_isStep 17 = .ok (.if_icmp .ne 22, 3) := by decide +kernel
theorem dX4_isStep_20 : decode cX4_isStep 20 = .ok (.iload_n 1, 1) := by decide +kernel
theorem dX4_isStep_21 : decode cX4_isStep 21 = .ok (.bipush 9, 2) := by decide +kernel
theorem dX4_isStep_23 : decode cX4_isStep 23 = .ok (.invokestatic 19, 3) := by decide +kernel
theorem dX4_isStep_26 : decode cX4_isStep 26 = .ok (.ifCond .eq 11, 3) := by decide +kernel
theorem dX4_isStep_29 : decode cX4_isStep 29 = .ok (.iload_n 1, 1) := by decide +kernel
theorem dX4_isStep_30 : decode cX4_isStep 30 = .ok (.ifCond .eq 7, 3) := by decide +kernel
theorem dX4_isStep_33 : decode cX4_isStep 33 = .ok (.iconst 1, 1) := by decide +kernel
theorem dX4_isStep_34 : decode cX4_isStep 34 = .ok (.goto 4, 3) := by decide +kernel
theorem dX4_isStep_37 : decode cX4_isStep 37 = .ok (.iconst 0, 1) := by decide +kernel
theorem dX4_isStep_38 : decode cX4_isStep 38 = .ok (.ireturn, 1) := by decide +kernel
theorem dX4_isStep_39 : decode cX4_isStep 39 = .ok (.iload_n 0, 1) := by decide +kernel
theorem dX4_isStep_40 : decode cX4_isStep 40 = .ok (.bipush 110, 2) := by decide +kernel
theorem dX4_isStep_42 : decode cX4_isStep 42 = .ok (.if_icmp .eq 15, 3) := by decide +kernel
theorem dX4_isStep_45 : decode cX4_isStep 45 = .ok (.iload_n 0, 1) := by decide +kernel
theorem dX4_isStep_46 : decode cX4_isStep 46 = .ok (.bipush 120, 2) := by decide +kernel
theorem dX4_isStep_48 : decode cX4_isStep 48 = .ok (.if_icmp .eq 9, 3) := by decide +kernel
theorem dX4_isStep_51 : decode cX4_isStep 51 = .ok (.iload_n 0, 1) := by decide +kernel
theorem dX4_isStep_52 : decode cX4_isStep 52 = .ok (.bipush 115, 2) := by decide +kernel
theorem dX4_isStep_54 : decode cX4_isStep 54 = .ok (.if_icmp .ne 7, 3) := by decide +kernel
theorem dX4_isStep_57 : decode cX4_isStep 57 = .ok (.iconst 1, 1) := by decide +kernel
theorem dX4_isStep_58 : decode cX4_isStep 58 = .ok (.goto 4, 3) := by decide +kernel
theorem dX4_isStep_61 : decode cX4_isStep 61 = .ok (.iconst 0, 1) := by decide +kernel
theorem dX4_isStep_62 : decode cX4_isStep 62 = .ok (.ireturn, 1) := by decide +kernel
theorem dX4_size_0 : decode cX4_size 0 = .ok (.aload_n 0, 1) := by decide +kernel
theorem dX4_size_1 : decode cX4_size 1 = .ok (.getfield 23, 3) := by decide +kernel
theorem dX4_size_4 : decode cX4_size 4 = .ok (.ireturn, 1) := by decide +kernel
theorem dX4_isFull_0 : decode cX4_isFull 0 = .ok (.aload_n 0, 1) := by decide +kernel
theorem dX4_isFull_1 : decode cX4_isFull 1 = .ok (.getfield 23, 3) := by decide +kernel
theorem dX4_isFull_4 : decode cX4_isFull 4 = .ok (.bipush 6, 2) := by decide +kernel
theorem dX4_isFull_6 : decode cX4_isFull 6 = .ok (.if_icmp .lt 7, 3) := by decide +kernel
theorem dX4_isFull_9 : decode cX4_isFull 9 = .ok (.iconst 1, 1) := by decide +kernel
theorem dX4_isFull_10 : decode cX4_isFull 10 = .ok (.goto 4, 3) := by decide +kernel
theorem dX4_isFull_13 : decode cX4_isFull 13 = .ok (.iconst 0, 1) := by decide +kernel
theorem dX4_isFull_14 : decode cX4_isFull 14 = .ok (.ireturn, 1) := by decide +kernel
theorem dX4_append_0 : decode cX4_append 0 = .ok (.aload_n 0, 1) := by decide +kernel
theorem dX4_append_1 : decode cX4_append 1 = .ok (.getfield 23, 3) := by decide +kernel
theorem dX4_append_4 : decode cX4_append 4 = .ok (.ifCond .lt 42, 3) := by decide +kernel
theorem dX4_append_7 : decode cX4_append 7 = .ok (.aload_n 0, 1) := by decide +kernel
theorem dX4_append_8 : decode cX4_append 8 = .ok (.getfield 23, 3) := by decide +kernel
theorem dX4_append_11 : decode cX4_append 11 = .ok (.bipush 6, 2) := by decide +kernel
theorem dX4_append_13 : decode cX4_append 13 = .ok (.if_icmp .ge 33, 3) := by decide +kernel
theorem dX4_append_16 : decode cX4_append 16 = .ok (.aload_n 0, 1) := by decide +kernel
theorem dX4_append_17 : decode cX4_append 17 = .ok (.getfield 9, 3) := by decide +kernel
theorem dX4_append_20 : decode cX4_append 20 = .ok (.aload_n 0, 1) := by decide +kernel
theorem dX4_append_21 : decode cX4_append 21 = .ok (.getfield 23, 3) := by decide +kernel
theorem dX4_append_24 : decode cX4_append 24 = .ok (.iload_n 1, 1) := by decide +kernel
theorem dX4_append_25 : decode cX4_append 25 = .ok (.castore, 1) := by decide +kernel
theorem dX4_append_26 : decode cX4_append 26 = .ok (.aload_n 0, 1) := by decide +kernel
theorem dX4_append_27 : decode cX4_append 27 = .ok (.getfield 15, 3) := by decide +kernel
theorem dX4_append_30 : decode cX4_append 30 = .ok (.aload_n 0, 1) := by decide +kernel
theorem dX4_append_31 : decode cX4_append 31 = .ok (.getfield 23, 3) := by decide +kernel
theorem dX4_append_34 : decode cX4_append 34 = .ok (.iload_n 2, 1) := by decide +kernel
theorem dX4_append_35 : decode cX4_append 35 = .ok (.iastore, 1) := by decide +kernel
theorem dX4_append_36 : decode cX4_append 36 = .ok (.aload_n 0, 1) := by decide +kernel
theorem dX4_append_37 : decode cX4_append 37 = .ok (.dup, 1) := by decide +kernel
theorem dX4_append_38 : decode cX4_append 38 = .ok (.getfield 23, 3) := by decide +kernel
theorem dX4_append_41 : decode cX4_append 41 = .ok (.iconst 1, 1) := by decide +kernel
theorem dX4_append_42 : decode cX4_append 42 = .ok (.iadd, 1) := by decide +kernel
theorem dX4_append_43 : decode cX4_append 43 = .ok (.putfield 23, 3) := by decide +kernel
theorem dX4_append_46 : decode cX4_append 46 = .ok (.return_, 1) := by decide +kernel
theorem dX4_turn_0 : decode cX4_turn 0 = .ok (.iconst 0, 1) := by decide +kernel
theorem dX4_turn_1 : decode cX4_turn 1 = .ok (.istore_n 2, 1) := by decide +kernel
theorem dX4_turn_2 : decode cX4_turn 2 = .ok (.iload_n 2, 1) := by decide +kernel
theorem dX4_turn_3 : decode cX4_turn 3 = .ok (.aload_n 0, 1) := by decide +kernel
theorem dX4_turn_4 : decode cX4_turn 4 = .ok (.getfield 23, 3) := by decide +kernel
theorem dX4_turn_7 : decode cX4_turn 7 = .ok (.if_icmp .ge 42, 3) := by decide +kernel
theorem dX4_turn_10 : decode cX4_turn 10 = .ok (.iload_n 2, 1) := by decide +kernel
theorem dX4_turn_11 : decode cX4_turn 11 = .ok (.bipush 6, 2) := by decide +kernel
theorem dX4_turn_13 : decode cX4_turn 13 = .ok (.if_icmp .ge 36, 3) := by decide +kernel
theorem dX4_turn_16 : decode cX4_turn 16 = .ok (.aload_n 1, 1) := by decide +kernel
theorem dX4_turn_17 : decode cX4_turn 17 = .ok (.aload_n 0, 1) := by decide +kernel
theorem dX4_turn_18 : decode cX4_turn 18 = .ok (.getfield 9, 3) := by decide +kernel
theorem dX4_turn_21 : decode cX4_turn 21 = .ok (.iload_n 2, 1) := by decide +kernel
theorem dX4_turn_22 : decode cX4_turn 22 = .ok (.caload, 1) := by decide +kernel
theorem dX4_turn_23 : decode cX4_turn 23 = .ok (.aload_n 0, 1) := by decide +kernel
theorem dX4_turn_24 : decode cX4_turn 24 = .ok (.getfield 15, 3) := by decide +kernel
theorem dX4_turn_27 : decode cX4_turn 27 = .ok (.iload_n 2, 1) := by decide +kernel
theorem dX4_turn_28 : decode cX4_turn 28 = .ok (.iaload, 1) := by decide +kernel
theorem dX4_turn_29 : decode cX4_turn 29 = .ok (.invokevirtual 27, 3) := by decide +kernel
theorem dX4_turn_32 : decode cX4_turn 32 = .ok (.aload_n 1, 1) := by decide +kernel
theorem dX4_turn_33 : decode cX4_turn 33 = .ok (.ldc 33, 2) := by decide +kernel
theorem dX4_turn_35 : decode cX4_turn 35 = .ok (.invokevirtual 34, 3) := by decide +kernel
theorem dX4_turn_38 : decode cX4_turn 38 = .ok (.ifCond .ne 5, 3) := by decide +kernel
theorem dX4_turn_41 : decode cX4_turn 41 = .ok (.iconst 0, 1) := by decide +kernel
theorem dX4_turn_42 : decode cX4_turn 42 = .ok (.ireturn, 1) := by decide +kernel
theorem dX4_turn_43 : decode cX4_turn 43 = .ok (.iinc 2 1, 3) := by decide +kernel
theorem dX4_turn_46 : decode cX4_turn 46 = .ok (.goto (-44), 3) := by decide +kernel
theorem dX4_turn_49 : decode cX4_turn 49 = .ok (.aload_n 1, 1) := by decide +kernel
theorem dX4_turn_50 : decode cX4_turn 50 = .ok (.sipush 999, 3) := by decide +kernel
theorem dX4_turn_53 : decode cX4_turn 53 = .ok (.invokevirtual 34, 3) := by decide +kernel
theorem dX4_turn_56 : decode cX4_turn 56 = .ok (.ireturn, 1) := by decide +kernel
theorem dX4_turnBack_0 : decode cX4_turnBack 0 = .ok (.iconst 5, 1) := by decide +kernel
theorem dX4_turnBack_1 : decode cX4_turnBack 1 = .ok (.istore_n 2, 1) := by decide +kernel
theorem dX4_turnBack_2 : decode cX4_turnBack 2 = .ok (.iload_n 2, 1) := by decide +kernel
theorem dX4_turnBack_3 : decode cX4_turnBack 3 = .ok (.ifCond .lt 38, 3) := by decide +kernel
theorem dX4_turnBack_6 : decode cX4_turnBack 6 = .ok (.iload_n 2, 1) := by decide +kernel
theorem dX4_turnBack_7 : decode cX4_turnBack 7 = .ok (.aload_n 0, 1) := by decide +kernel
theorem dX4_turnBack_8 : decode cX4_turnBack 8 = .ok (.getfield 23, 3) := by decide +kernel
theorem dX4_turnBack_11 : decode cX4_turnBack 11 = .ok (.if_icmp .ge 24, 3) := by decide +kernel
theorem dX4_turnBack_14 : decode cX4_turnBack 14 = .ok (.aload_n 1, 1) := by decide +kernel
theorem dX4_turnBack_15 : decode cX4_turnBack 15 = .ok (.aload_n 0, 1) := by decide +kernel
theorem dX4_turnBack_16 : decode cX4_turnBack 16 = .ok (.getfield 9, 3) := by decide +kernel
theorem dX4_turnBack_19 : decode cX4_turnBack 19 = .ok (.iload_n 2, 1) := by decide +kernel
theorem dX4_turnBack_20 : decode cX4_turnBack 20 = .ok (.caload, 1) := by decide +kernel
theorem dX4_turnBack_21 : decode cX4_turnBack 21 = .ok (.aload_n 0, 1) := by decide +kernel
theorem dX4_turnBack_22 : decode cX4_turnBack 22 = .ok (.getfield 15, 3) := by decide +kernel
theorem dX4_turnBack_25 : decode cX4_turnBack 25 = .ok (.iload_n 2, 1) := by decide +kernel
theorem dX4_turnBack_26 : decode cX4_turnBack 26 = .ok (.iaload, 1) := by decide +kernel
theorem dX4_turnBack_27 : decode cX4_turnBack 27 = .ok (.invokevirtual 38, 3) := by decide +kernel
theorem dX4_turnBack_30 : decode cX4_turnBack 30 = .ok (.ifCond .ne 5, 3) := by decide +kernel
theorem dX4_turnBack_33 : decode cX4_turnBack 33 = .ok (.iconst 0, 1) := by decide +kernel
theorem dX4_turnBack_34 : decode cX4_turnBack 34 = .ok (.ireturn, 1) := by decide +kernel
theorem dX4_turnBack_35 : decode cX4_turnBack 35 = .ok (.iinc 2 (-1), 3) := by decide +kernel
theorem dX4_turnBack_38 : decode cX4_turnBack 38 = .ok (.goto (-36), 3) := by decide +kernel
theorem dX4_turnBack_41 : decode cX4_turnBack 41 = .ok (.aload_n 1, 1) := by decide +kernel
theorem dX4_turnBack_42 : decode cX4_turnBack 42 = .ok (.bipush 99, 2) := by decide +kernel
theorem dX4_turnBack_44 : decode cX4_turnBack 44 = .ok (.invokevirtual 34, 3) := by decide +kernel
theorem dX4_turnBack_47 : decode cX4_turnBack 47 = .ok (.ireturn, 1) := by decide +kernel
theorem dX5_init_0 : decode cX5_init 0 = .ok (.aload_n 0, 1) := by decide +kernel
theorem dX5_init_1 : decode cX5_init 1 = .ok (.invokespecial 3, 3) := by decide +kernel
theorem dX5_init_4 : decode cX5_init 4 = .ok (.aload_n 0, 1) := by decide +kernel
theorem dX5_init_5 : decode cX5_init 5 = .ok (.bipush 40, 2) := by decide +kernel
theorem dX5_init_7 : decode cX5_init 7 = .ok (.newarray .int, 2) := by decide +kernel
theorem dX5_init_9 : decode cX5_init 9 = .ok (.putfield 9, 3) := by decide +kernel
theorem dX5_init_12 : decode cX5_init 12 = .ok (.aload_n 0, 1) := by decide +kernel
theorem dX5_init_13 : decode cX5_init 13 = .ok (.bipush 40, 2) := by decide +kernel
theorem dX5_init_15 : decode cX5_init 15 = .ok (.newarray .int, 2) := by decide +kernel
theorem dX5_init_17 : decode cX5_init 17 = .ok (.putfield 15, 3) := by decide +kernel
theorem dX5_init_20 : decode cX5_init 20 = .ok (.aload_n 0, 1) := by decide +kernel
theorem dX5_init_21 : decode cX5_init 21 = .ok (.bipush 40, 2) := by decide +kernel
theorem dX5_init_23 : decode cX5_init 23 = .ok (.newarray .int, 2) := by decide +kernel
theorem dX5_init_25 : decode cX5_init 25 = .ok (.putfield 18, 3) := by decide +kernel
theorem dX5_init_28 : decode cX5_init 28 = .ok (.aload_n 0, 1) := by decide +kernel
theorem dX5_init_29 : decode cX5_init 29 = .ok (.bipush 40, 2) := by decide +kernel
theorem dX5_init_31 : decode cX5_init 31 = .ok (.newarray .int, 2) := by decide +kernel
theorem dX5_init_33 : decode cX5_init 33 = .ok (.putfield 21, 3) := by decide +kernel
theorem dX5_init_36 : decode cX5_init 36 = .ok (.return_, 1) := by decide +kernel
theorem dX5_isStamped_0 : decode cX5_isStamped 0 = .ok (.iload_n 1, 1) := by decide +kernel
theorem dX5_isStamped_1 : decode cX5_isStamped 1 = .ok (.invokestatic 24, 3) := by decide +kernel
theorem dX5_isStamped_4 : decode cX5_isStamped 4 = .ok (.ifCond .eq 16, 3) := by decide +kernel
theorem dX5_isStamped_7 : decode cX5_isStamped 7 = .ok (.aload_n 0, 1) := by decide +kernel
theorem dX5_isStamped_8 : decode cX5_isStamped 8 = .ok (.getfield 9, 3) := by decide +kernel
theorem dX5_isStamped_11 : decode cX5_isStamped 11 = .ok (.iload_n 1, 1) := by decide +kernel
theorem dX5_isStamped_12 : decode cX5_isStamped 12 = .ok (.iaload, 1) := by decide +kernel
theorem dX5_isStamped_13 : decode cX5_isStamped 13 = .ok (.ifCond .eq 7, 3) := by decide +kernel
theorem dX5_isStamped_16 : decode cX5_isStamped 16 = .ok (.iconst 1, 1) := by decide +kernel
theorem dX5_isStamped_17 : decode cX5_isStamped 17 = .ok (.goto 4, 3) := by decide +kernel
theorem dX5_isStamped_20 : decode cX5_isStamped 20 = .ok (.iconst 0, 1) := by decide +kernel
theorem dX5_isStamped_21 : decode cX5_isStamped 21 = .ok (.ireturn, 1) := by decide +kernel
theorem dX5_stampOf_0 : decode cX5_stampOf 0 = .ok (.iload_n 1, 1) := by decide +kernel
theorem dX5_stampOf_1 : decode cX5_stampOf 1 = .ok (.invokestatic 24, 3) := by decide +kernel
theorem dX5_stampOf_4 : decode cX5_stampOf 4 = .ok (.ifCond .eq 12, 3) := by decide +kernel
theorem dX5_stampOf_7 : decode cX5_stampOf 7 = .ok (.aload_n 0, 1) := by decide +kernel
theorem dX5_stampOf_8 : decode cX5_stampOf 8 = .ok (.getfield 15, 3) := by decide +kernel
theorem dX5_stampOf_11 : decode cX5_stampOf 11 = .ok (.iload_n 1, 1) := by decide +kernel
theorem dX5_stampOf_12 : decode cX5_stampOf 12 = .ok (.iaload, 1) := by decide +kernel
theorem dX5_stampOf_13 : decode cX5_stampOf 13 = .ok (.goto 4, 3) := by decide +kernel
theorem dX5_stampOf_16 : decode cX5_stampOf 16 = .ok (.iconst 0, 1) := by decide +kernel
theorem dX5_stampOf_17 : decode cX5_stampOf 17 = .ok (.ireturn, 1) := by decide +kernel
theorem dX5_givesWay_0 : decode cX5_givesWay 0 = .ok (.aload_n 0, 1) := by decide +kernel
theorem dX5_givesWay_1 : decode cX5_givesWay 1 = .ok (.iload_n 1, 1) := by decide +kernel
theorem dX5_givesWay_2 : decode cX5_givesWay 2 = .ok (.invokevirtual 28, 3) := by decide +kernel
theorem dX5_givesWay_5 : decode cX5_givesWay 5 = .ok (.ifCond .eq 12, 3) := by decide +kernel
theorem dX5_givesWay_8 : decode cX5_givesWay 8 = .ok (.aload_n 0, 1) := by decide +kernel
theorem dX5_givesWay_9 : decode cX5_givesWay 9 = .ok (.iload_n 1, 1) := by decide +kernel
theorem dX5_givesWay_10 : decode cX5_givesWay 10 = .ok (.invokevirtual 31, 3) := by decide +kernel
theorem dX5_givesWay_13 : decode cX5_givesWay 13 = .ok (.iload_n 2, 1) := by decide +kernel
theorem dX5_givesWay_14 : decode cX5_givesWay 14 = .ok (.if_icmp .ge 7, 3) := by decide +kernel
theorem dX5_givesWay_17 : decode cX5_givesWay 17 = .ok (.iconst 1, 1) := by decide +kernel
theorem dX5_givesWay_18 : decode cX5_givesWay 18 = .ok (.goto 4, 3) := by decide +kernel
theorem dX5_givesWay_21 : decode cX5_givesWay 21 = .ok (.iconst 0, 1) := by decide +kernel
theorem dX5_givesWay_22 : decode cX5_givesWay 22 = .ok (.ireturn, 1) := by decide +kernel
theorem dX5_isAside_0 : decode cX5_isAside 0 = .ok (.iload_n 1, 1) := by decide +kernel
theorem dX5_isAside_1 : decode cX5_isAside 1 = .ok (.invokestatic 24, 3) := by decide +kernel
theorem dX5_isAside_4 : decode cX5_isAside 4 = .ok (.ifCond .eq 17, 3) := by decide +kernel
theorem dX5_isAside_7 : decode cX5_isAside 7 = .ok (.aload_n 0, 1) := by decide +kernel
theorem dX5_isAside_8 : decode cX5_isAside 8 = .ok (.getfield 9, 3) := by decide +kernel
theorem dX5_isAside_11 : decode cX5_isAside 11 = .ok (.iload_n 1, 1) := by decide +kernel
theorem dX5_isAside_12 : decode cX5_isAside 12 = .ok (.iaload, 1) := by decide +kernel
theorem dX5_isAside_13 : decode cX5_isAside 13 = .ok (.iconst 2, 1) := by decide +kernel
theorem dX5_isAside_14 : decode cX5_isAside 14 = .ok (.if_icmp .ne 7, 3) := by decide +kernel
theorem dX5_isAside_17 : decode cX5_isAside 17 = .ok (.iconst 1, 1) := by decide +kernel
theorem dX5_isAside_18 : decode cX5_isAside 18 = .ok (.goto 4, 3) := by decide +kernel
theorem dX5_isAside_21 : decode cX5_isAside 21 = .ok (.iconst 0, 1) := by decide +kernel
theorem dX5_isAside_22 : decode cX5_isAside 22 = .ok (.ireturn, 1) := by decide +kernel
theorem dX5_isAnyAside_0 : decode cX5_isAnyAside 0 = .ok (.aload_n 0, 1) := by decide +kernel
theorem dX5_isAnyAside_1 : decode cX5_isAnyAside 1 = .ok (.iconst 2, 1) := by decide +kernel
theorem dX5_isAnyAside_2 : decode cX5_isAnyAside 2 = .ok (.invokevirtual 35, 3) := by decide +kernel
theorem dX5_isAnyAside_5 : decode cX5_isAnyAside 5 = .ok (.ifCond .le 7, 3) := by decide +kernel
theorem dX5_isAnyAside_8 : decode cX5_isAnyAside 8 = .ok (.iconst 1, 1) := by decide +kernel
theorem dX5_isAnyAside_9 : decode cX5_isAnyAside 9 = .ok (.goto 4, 3) := by decide +kernel
theorem dX5_isAnyAside_12 : decode cX5_isAnyAside 12 = .ok (.iconst 0, 1) := by decide +kernel
theorem dX5_isAnyAside_13 : decode cX5_isAnyAside 13 = .ok (.ireturn, 1) := by decide +kernel
theorem dX5_hasEntry_0 : decode cX5_hasEntry 0 = .ok (.iload_n 1, 1) := by decide +kernel
theorem dX5_hasEntry_1 : decode cX5_hasEntry 1 = .ok (.invokestatic 24, 3) := by decide +kernel
theorem dX5_hasEntry_4 : decode cX5_hasEntry 4 = .ok (.ifCond .eq 17, 3) := by decide +kernel
theorem dX5_hasEntry_7 : decode cX5_hasEntry 7 = .ok (.aload_n 0, 1) := by decide +kernel
theorem dX5_hasEntry_8 : decode cX5_hasEntry 8 = .ok (.getfield 9, 3) := by decide +kernel
theorem dX5_hasEntry_11 : decode cX5_hasEntry 11 = .ok (.iload_n 1, 1) := by decide +kernel
theorem dX5_hasEntry_12 : decode cX5_hasEntry 12 = .ok (.iaload, 1) := by decide +kernel
theorem dX5_hasEntry_13 : decode cX5_hasEntry 13 = .ok (.iconst 1, 1) := by decide +kernel
theorem dX5_hasEntry_14 : decode cX5_hasEntry 14 = .ok (.if_icmp .ne 7, 3) := by decide +kernel
theorem dX5_hasEntry_17 : decode cX5_hasEntry 17 = .ok (.iconst 1, 1) := by decide +kernel
theorem dX5_hasEntry_18 : decode cX5_hasEntry 18 = .ok (.goto 4, 3) := by decide +kernel
theorem dX5_hasEntry_21 : decode cX5_hasEntry 21 = .ok (.iconst 0, 1) := by decide +kernel
theorem dX5_hasEntry_22 : decode cX5_hasEntry 22 = .ok (.ireturn, 1) := by decide +kernel
theorem dX5_number_0 : decode cX5_number 0 = .ok (.iload_n 1, 1) := by decide +kernel
theorem dX5_number_1 : decode cX5_number 1 = .ok (.invokestatic 24, 3) := by decide +kernel
theorem dX5_number_4 : decode cX5_number 4 = .ok (.ifCond .ne 5, 3) := by decide +kernel
theorem dX5_number_7 : decode cX5_number 7 = .ok (.iconst 0, 1) := by decide +kernel
theorem dX5_number_8 : decode cX5_number 8 = .ok (.ireturn, 1) := by decide +kernel
theorem dX5_number_9 : decode cX5_number 9 = .ok (.iload_n 2, 1) := by decide +kernel
theorem dX5_number_10 : decode cX5_number 10 = .ok (.ifCond .eq 12, 3) := by decide +kernel
theorem dX5_number_13 : decode cX5_number 13 = .ok (.aload_n 0, 1) := by decide +kernel
theorem dX5_number_14 : decode cX5_number 14 = .ok (.getfield 21, 3) := by decide +kernel
theorem dX5_number_17 : decode cX5_number 17 = .ok (.iload_n 1, 1) := by decide +kernel
theorem dX5_number_18 : decode cX5_number 18 = .ok (.iaload, 1) := by decide +kernel
theorem dX5_number_19 : decode cX5_number 19 = .ok (.goto 9, 3) := by decide +kernel
theorem dX5_number_22 : decode cX5_number 22 = .ok (.aload_n 0, 1) := by decide +kernel
theorem dX5_number_23 : decode cX5_number 23 = .ok (.getfield 18, 3) := by decide +kernel
theorem dX5_number_26 : decode cX5_number 26 = .ok (.iload_n 1, 1) := by decide +kernel
theorem dX5_number_27 : decode cX5_number 27 = .ok (.iaload, 1) := by decide +kernel
theorem dX5_number_28 : decode cX5_number 28 = .ok (.ireturn, 1) := by decide +kernel
theorem dX5_countEntries_0 : decode cX5_countEntries 0 = .ok (.aload_n 0, 1) := by decide +kernel
theorem dX5_countEntries_1 : decode cX5_countEntries 1 = .ok (.iconst 1, 1) := by decide +kernel
theorem dX5_countEntries_2 : decode cX5_countEntries 2 = .ok (.invokevirtual 35, 3) := by decide +kernel
theorem dX5_countEntries_5 : decode cX5_countEntries 5 = .ok (.ireturn, 1) := by decide +kernel
theorem dX5_count_0 : decode cX5_count 0 = .ok (.iconst 0, 1) := by decide +kernel
theorem dX5_count_1 : decode cX5_count 1 = .ok (.istore_n 2, 1) := by decide +kernel
theorem dX5_count_2 : decode cX5_count 2 = .ok (.iconst 0, 1) := by decide +kernel
theorem dX5_count_3 : decode cX5_count 3 = .ok (.istore_n 3, 1) := by decide +kernel
theorem dX5_count_4 : decode cX5_count 4 = .ok (.iload_n 3, 1) := by decide +kernel
theorem dX5_count_5 : decode cX5_count 5 = .ok (.bipush 40, 2) := by decide +kernel
theorem dX5_count_7 : decode cX5_count 7 = .ok (.if_icmp .ge 22, 3) := by decide +kernel
theorem dX5_count_10 : decode cX5_count 10 = .ok (.aload_n 0, 1) := by decide +kernel
theorem dX5_count_11 : decode cX5_count 11 = .ok (.getfield 9, 3) := by decide +kernel
theorem dX5_count_14 : decode cX5_count 14 = .ok (.iload_n 3, 1) := by decide +kernel
theorem dX5_count_15 : decode cX5_count 15 = .ok (.iaload, 1) := by decide +kernel
theorem dX5_count_16 : decode cX5_count 16 = .ok (.iload_n 1, 1) := by decide +kernel
theorem dX5_count_17 : decode cX5_count 17 = .ok (.if_icmp .ne 6, 3) := by decide +kernel
theorem dX5_count_20 : decode cX5_count 20 = .ok (.iinc 2 1, 3) := by decide +kernel
theorem dX5_count_23 : decode cX5_count 23 = .ok (.iinc 3 1, 3) := by decide +kernel
theorem dX5_count_26 : decode cX5_count 26 = .ok (.goto (-22), 3) := by decide +kernel
theorem dX5_count_29 : decode cX5_count 29 = .ok (.iload_n 2, 1) := by decide +kernel
theorem dX5_count_30 : decode cX5_count 30 = .ok (.ireturn, 1) := by decide +kernel
theorem dX5_addStamps_0 : decode cX5_addStamps 0 = .ok (.iconst 0, 1) := by decide +kernel
theorem dX5_addStamps_1 : decode cX5_addStamps 1 = .ok (.istore_n 1, 1) := by decide +kernel
theorem dX5_addStamps_2 : decode cX5_addStamps 2 = .ok (.iconst 0, 1) := by decide +kernel
theorem dX5_addStamps_3 : decode cX5_addStamps 3 = .ok (.istore_n 2, 1) := by decide +kernel
theorem dX5_addStamps_4 : decode cX5_addStamps 4 = .ok (.iload_n 2, 1) := by decide +kernel
theorem dX5_addStamps_5 : decode cX5_addStamps 5 = .ok (.bipush 40, 2) := by decide +kernel
theorem dX5_addStamps_7 : decode cX5_addStamps 7 = .ok (.if_icmp .ge 28, 3) := by decide +kernel
theorem dX5_addStamps_10 : decode cX5_addStamps 10 = .ok (.aload_n 0, 1) := by decide +kernel
theorem dX5_addStamps_11 : decode cX5_addStamps 11 = .ok (.getfield 9, 3) := by decide +kernel
theorem dX5_addStamps_14 : decode cX5_addStamps 14 = .ok (.iload_n 2, 1) := by decide +kernel
theorem dX5_addStamps_15 : decode cX5_addStamps 15 = .ok (.iaload, 1) := by decide +kernel
theorem dX5_addStamps_16 : decode cX5_addStamps 16 = .ok (.iconst 1, 1) := by decide +kernel
theorem dX5_addStamps_17 : decode cX5_addStamps 17 = .ok (.if_icmp .ne 12, 3) := by decide +kernel
theorem dX5_addStamps_20 : decode cX5_addStamps 20 = .ok (.iload_n 1, 1) := by decide +kernel
theorem dX5_addStamps_21 : decode cX5_addStamps 21 = .ok (.aload_n 0, 1) := by decide +kernel
theorem dX5_addStamps_22 : decode cX5_addStamps 22 = .ok (.getfield 15, 3) := by decide +kernel
theorem dX5_addStamps_25 : decode cX5_addStamps 25 = .ok (.iload_n 2, 1) := by decide +kernel
theorem dX5_addStamps_26 : decode cX5_addStamps 26 = .ok (.iaload, 1) := by decide +kernel
theorem dX5_addStamps_27 : decode cX5_addStamps 27 = .ok (.iadd, 1) := by decide +kernel
theorem dX5_addStamps_28 : decode cX5_addStamps 28 = .ok (.istore_n 1, 1) := by decide +kernel
theorem dX5_addStamps_29 : decode cX5_addStamps 29 = .ok (.iinc 2 1, 3) := by decide +kernel
theorem dX5_addStamps_32 : decode cX5_addStamps 32 = .ok (.goto (-28), 3) := by decide +kernel
theorem dX5_addStamps_35 : decode cX5_addStamps 35 = .ok (.iload_n 1, 1) := by decide +kernel
theorem dX5_addStamps_36 : decode cX5_addStamps 36 = .ok (.ireturn, 1) := by decide +kernel
theorem dX5_putEntry_0 : decode cX5_putEntry 0 = .ok (.iload_n 1, 1) := by decide +kernel
theorem dX5_putEntry_1 : decode cX5_putEntry 1 = .ok (.invokestatic 24, 3) := by decide +kernel
theorem dX5_putEntry_4 : decode cX5_putEntry 4 = .ok (.ifCond .eq 32, 3) := by decide +kernel
theorem dX5_putEntry_7 : decode cX5_putEntry 7 = .ok (.aload_n 0, 1) := by decide +kernel
theorem dX5_putEntry_8 : decode cX5_putEntry 8 = .ok (.getfield 9, 3) := by decide +kernel
theorem dX5_putEntry_11 : decode cX5_putEntry 11 = .ok (.iload_n 1, 1) := by decide +kernel
theorem dX5_putEntry_12 : decode cX5_putEntry 12 = .ok (.iconst 1, 1) := by decide +kernel
theorem dX5_putEntry_13 : decode cX5_putEntry 13 = .ok (.iastore, 1) := by decide +kernel
theorem dX5_putEntry_14 : decode cX5_putEntry 14 = .ok (.aload_n 0, 1) := by decide +kernel
theorem dX5_putEntry_15 : decode cX5_putEntry 15 = .ok (.getfield 18, 3) := by decide +kernel
theorem dX5_putEntry_18 : decode cX5_putEntry 18 = .ok (.iload_n 1, 1) := by decide +kernel
theorem dX5_putEntry_19 : decode cX5_putEntry 19 = .ok (.iload_n 2, 1) := by decide +kernel
theorem dX5_putEntry_20 : decode cX5_putEntry 20 = .ok (.iastore, 1) := by decide +kernel
theorem dX5_putEntry_21 : decode cX5_putEntry 21 = .ok (.aload_n 0, 1) := by decide +kernel
theorem dX5_putEntry_22 : decode cX5_putEntry 22 = .ok (.getfield 21, 3) := by decide +kernel
theorem dX5_putEntry_25 : decode cX5_putEntry 25 = .ok (.iload_n 1, 1) := by decide +kernel
theorem dX5_putEntry_26 : decode cX5_putEntry 26 = .ok (.iload_n 3, 1) := by decide +kernel
theorem dX5_putEntry_27 : decode cX5_putEntry 27 = .ok (.iastore, 1) := by decide +kernel
theorem dX5_putEntry_28 : decode cX5_putEntry 28 = .ok (.aload_n 0, 1) := by decide +kernel
theorem dX5_putEntry_29 : decode cX5_putEntry 29 = .ok (.getfield 15, 3) := by decide +kernel
theorem dX5_putEntry_32 : decode cX5_putEntry 32 = .ok (.iload_n 1, 1) := by decide +kernel
theorem dX5_putEntry_33 : decode cX5_putEntry 33 = .ok (.iload 4, 2) := by decide +kernel
theorem dX5_putEntry_35 : decode cX5_putEntry 35 = .ok (.iastore, 1) := by decide +kernel
theorem dX5_putEntry_36 : decode cX5_putEntry 36 = .ok (.return_, 1) := by decide +kernel
theorem dX5_putAside_0 : decode cX5_putAside 0 = .ok (.aload_n 0, 1) := by decide +kernel
theorem dX5_putAside_1 : decode cX5_putAside 1 = .ok (.iload_n 1, 1) := by decide +kernel
theorem dX5_putAside_2 : decode cX5_putAside 2 = .ok (.iconst 2, 1) := by decide +kernel
theorem dX5_putAside_3 : decode cX5_putAside 3 = .ok (.iload_n 2, 1) := by decide +kernel
theorem dX5_putAside_4 : decode cX5_putAside 4 = .ok (.invokevirtual 38, 3) := by decide +kernel
theorem dX5_putAside_7 : decode cX5_putAside 7 = .ok (.return_, 1) := by decide +kernel
theorem dX5_putTrace_0 : decode cX5_putTrace 0 = .ok (.aload_n 0, 1) := by decide +kernel
theorem dX5_putTrace_1 : decode cX5_putTrace 1 = .ok (.iload_n 1, 1) := by decide +kernel
theorem dX5_putTrace_2 : decode cX5_putTrace 2 = .ok (.iconst 3, 1) := by decide +kernel
theorem dX5_putTrace_3 : decode cX5_putTrace 3 = .ok (.iload_n 2, 1) := by decide +kernel
theorem dX5_putTrace_4 : decode cX5_putTrace 4 = .ok (.invokevirtual 38, 3) := by decide +kernel
theorem dX5_putTrace_7 : decode cX5_putTrace 7 = .ok (.return_, 1) := by decide +kernel
theorem dX5_put_0 : decode cX5_put 0 = .ok (.iload_n 1, 1) := by decide +kernel
theorem dX5_put_1 : decode cX5_put 1 = .ok (.invokestatic 24, 3) := by decide +kernel
theorem dX5_put_4 : decode cX5_put 4 = .ok (.ifCond .eq 17, 3) := by decide +kernel
theorem dX5_put_7 : decode cX5_put 7 = .ok (.aload_n 0, 1) := by decide +kernel
theorem dX5_put_8 : decode cX5_put 8 = .ok (.getfield 9, 3) := by decide +kernel
theorem dX5_put_11 : decode cX5_put 11 = .ok (.iload_n 1, 1) := by decide +kernel
theorem dX5_put_12 : decode cX5_put 12 = .ok (.iload_n 2, 1) := by decide +kernel
theorem dX5_put_13 : decode cX5_put 13 = .ok (.iastore, 1) := by decide +kernel
theorem dX5_put_14 : decode cX5_put 14 = .ok (.aload_n 0, 1) := by decide +kernel
theorem dX5_put_15 : decode cX5_put 15 = .ok (.getfield 15, 3) := by decide +kernel
theorem dX5_put_18 : decode cX5_put 18 = .ok (.iload_n 1, 1) := by decide +kernel
theorem dX5_put_19 : decode cX5_put 19 = .ok (.iload_n 3, 1) := by decide +kernel
theorem dX5_put_20 : decode cX5_put 20 = .ok (.iastore, 1) := by decide +kernel
theorem dX5_put_21 : decode cX5_put 21 = .ok (.return_, 1) := by decide +kernel
theorem dX6_init_0 : decode cX6_init 0 = .ok (.aload_n 0, 1) := by decide +kernel
theorem dX6_init_1 : decode cX6_init 1 = .ok (.invokespecial 1, 3) := by decide +kernel
theorem dX6_init_4 : decode cX6_init 4 = .ok (.aload_n 0, 1) := by decide +kernel
theorem dX6_init_5 : decode cX6_init 5 = .ok (.new 7, 3) := by decide +kernel
theorem dX6_init_8 : decode cX6_init 8 = .ok (.dup, 1) := by decide +kernel
theorem dX6_init_9 : decode cX6_init 9 = .ok (.invokespecial 9, 3) := by decide +kernel
theorem dX6_init_12 : decode cX6_init 12 = .ok (.putfield 10, 3) := by decide +kernel
theorem dX6_init_15 : decode cX6_init 15 = .ok (.aload_n 0, 1) := by decide +kernel
theorem dX6_init_16 : decode cX6_init 16 = .ok (.new 16, 3) := by decide +kernel
theorem dX6_init_19 : decode cX6_init 19 = .ok (.dup, 1) := by decide +kernel
theorem dX6_init_20 : decode cX6_init 20 = .ok (.invokespecial 18, 3) := by decide +kernel
theorem dX6_init_23 : decode cX6_init 23 = .ok (.putfield 19, 3) := by decide +kernel
theorem dX6_init_26 : decode cX6_init 26 = .ok (.aload_n 0, 1) := by decide +kernel
theorem dX6_init_27 : decode cX6_init 27 = .ok (.new 23, 3) := by decide +kernel
theorem dX6_init_30 : decode cX6_init 30 = .ok (.dup, 1) := by decide +kernel
theorem dX6_init_31 : decode cX6_init 31 = .ok (.invokespecial 25, 3) := by decide +kernel
theorem dX6_init_34 : decode cX6_init 34 = .ok (.putfield 26, 3) := by decide +kernel
theorem dX6_init_37 : decode cX6_init 37 = .ok (.aload_n 0, 1) := by decide +kernel
theorem dX6_init_38 : decode cX6_init 38 = .ok (.new 30, 3) := by decide +kernel
theorem dX6_init_41 : decode cX6_init 41 = .ok (.dup, 1) := by decide +kernel
theorem dX6_init_42 : decode cX6_init 42 = .ok (.invokespecial 32, 3) := by decide +kernel
theorem dX6_init_45 : decode cX6_init 45 = .ok (.putfield 33, 3) := by decide +kernel
theorem dX6_init_48 : decode cX6_init 48 = .ok (.aload_n 0, 1) := by decide +kernel
theorem dX6_init_49 : decode cX6_init 49 = .ok (.new 30, 3) := by decide +kernel
theorem dX6_init_52 : decode cX6_init 52 = .ok (.dup, 1) := by decide +kernel
theorem dX6_init_53 : decode cX6_init 53 = .ok (.invokespecial 32, 3) := by decide +kernel
theorem dX6_init_56 : decode cX6_init 56 = .ok (.putfield 37, 3) := by decide +kernel
theorem dX6_init_59 : decode cX6_init 59 = .ok (.aload_n 0, 1) := by decide +kernel
theorem dX6_init_60 : decode cX6_init 60 = .ok (.new 40, 3) := by decide +kernel
theorem dX6_init_63 : decode cX6_init 63 = .ok (.dup, 1) := by decide +kernel
theorem dX6_init_64 : decode cX6_init 64 = .ok (.invokespecial 42, 3) := by decide +kernel
theorem dX6_init_67 : decode cX6_init 67 = .ok (.putfield 43, 3) := by decide +kernel
theorem dX6_init_70 : decode cX6_init 70 = .ok (.aload_n 0, 1) := by decide +kernel
theorem dX6_init_71 : decode cX6_init 71 = .ok (.new 47, 3) := by decide +kernel
theorem dX6_init_74 : decode cX6_init 74 = .ok (.dup, 1) := by decide +kernel
theorem dX6_init_75 : decode cX6_init 75 = .ok (.invokespecial 49, 3) := by decide +kernel
theorem dX6_init_78 : decode cX6_init 78 = .ok (.putfield 50, 3) := by decide +kernel
theorem dX6_init_81 : decode cX6_init 81 = .ok (.aload_n 0, 1) := by decide +kernel
theorem dX6_init_82 : decode cX6_init 82 = .ok (.bipush 105, 2) := by decide +kernel
theorem dX6_init_84 : decode cX6_init 84 = .ok (.putfield 54, 3) := by decide +kernel
theorem dX6_init_87 : decode cX6_init 87 = .ok (.aload_n 0, 1) := by decide +kernel
theorem dX6_init_88 : decode cX6_init 88 = .ok (.iconst 0, 1) := by decide +kernel
theorem dX6_init_89 : decode cX6_init 89 = .ok (.putfield 58, 3) := by decide +kernel
theorem dX6_init_92 : decode cX6_init 92 = .ok (.aload_n 0, 1) := by decide +kernel
theorem dX6_init_93 : decode cX6_init 93 = .ok (.iconst 0, 1) := by decide +kernel
theorem dX6_init_94 : decode cX6_init 94 = .ok (.putfield 62, 3) := by decide +kernel
theorem dX6_init_97 : decode cX6_init 97 = .ok (.aload_n 0, 1) := by decide +kernel
theorem dX6_init_98 : decode cX6_init 98 = .ok (.iconst 1, 1) := by decide +kernel
theorem dX6_init_99 : decode cX6_init 99 = .ok (.putfield 65, 3) := by decide +kernel
theorem dX6_init_102 : decode cX6_init 102 = .ok (.aload_n 0, 1) := by decide +kernel
theorem dX6_init_103 : decode cX6_init 103 = .ok (.iconst 0, 1) := by decide +kernel
theorem dX6_init_104 : decode cX6_init 104 = .ok (.putfield 68, 3) := by decide +kernel
theorem dX6_init_107 : decode cX6_init 107 = .ok (.return_, 1) := by decide +kernel
theorem dX6_addStep_0 : decode cX6_addStep 0 = .ok (.iload_n 1, 1) := by decide +kernel
theorem dX6_addStep_1 : decode cX6_addStep 1 = .ok (.iload_n 2, 1) := by decide +kernel
theorem dX6_addStep_2 : decode cX6_addStep 2 = .ok (.invokestatic 71, 3) := by decide +kernel
theorem dX6_addStep_5 : decode cX6_addStep 5 = .ok (.ifCond .ne 13, 3) := by decide +kernel
theorem dX6_addStep_8 : decode cX6_addStep 8 = .ok (.new 75, 3) := by decide +kernel
theorem dX6_addStep_11 : decode cX6_addStep 11 = .ok (.dup, 1) := by decide +kernel
theorem dX6_addStep_12 : decode cX6_addStep 12 = .ok (.ldc 77, 2) := by decide +kernel
theorem dX6_addStep_14 : decode cX6_addStep 14 = .ok (.invokespecial 79, 3) := by decide +kernel
theorem dX6_addStep_17 : decode cX6_addStep 17 = .ok (.athrow, 1) := by decide +kernel
theorem dX6_addStep_18 : decode cX6_addStep 18 = .ok (.aload_n 0, 1) := by decide +kernel
theorem dX6_addStep_19 : decode cX6_addStep 19 = .ok (.getfield 54, 3) := by decide +kernel
theorem dX6_addStep_22 : decode cX6_addStep 22 = .ok (.bipush 105, 2) := by decide +kernel
theorem dX6_addStep_24 : decode cX6_addStep 24 = .ok (.if_icmp .ne 13, 3) := by decide +kernel
theorem dX6_addStep_27 : decode cX6_addStep 27 = .ok (.aload_n 0, 1) := by decide +kernel
theorem dX6_addStep_28 : decode cX6_addStep 28 = .ok (.getfield 10, 3) := by decide +kernel
theorem dX6_addStep_31 : decode cX6_addStep 31 = .ok (.invokevirtual 82, 3) := by decide +kernel
theorem dX6_addStep_34 : decode cX6_addStep 34 = .ok (.ifCond .eq 13, 3) := by decide +kernel
theorem dX6_addStep_37 : decode cX6_addStep 37 = .ok (.new 86, 3) := by decide +kernel
theorem dX6_addStep_40 : decode cX6_addStep 40 = .ok (.dup, 1) := by decide +kernel
theorem dX6_addStep_41 : decode cX6_addStep 41 = .ok (.ldc 88, 2) := by decide +kernel
theorem dX6_addStep_43 : decode cX6_addStep 43 = .ok (.invokespecial 90, 3) := by decide +kernel
theorem dX6_addStep_46 : decode cX6_addStep 46 = .ok (.athrow, 1) := by decide +kernel
theorem dX6_addStep_47 : decode cX6_addStep 47 = .ok (.aload_n 0, 1) := by decide +kernel
theorem dX6_addStep_48 : decode cX6_addStep 48 = .ok (.getfield 10, 3) := by decide +kernel
theorem dX6_addStep_51 : decode cX6_addStep 51 = .ok (.iload_n 1, 1) := by decide +kernel
theorem dX6_addStep_52 : decode cX6_addStep 52 = .ok (.iload_n 2, 1) := by decide +kernel
theorem dX6_addStep_53 : decode cX6_addStep 53 = .ok (.invokevirtual 91, 3) := by decide +kernel
theorem dX6_addStep_56 : decode cX6_addStep 56 = .ok (.aload_n 0, 1) := by decide +kernel
theorem dX6_addStep_57 : decode cX6_addStep 57 = .ok (.getfield 10, 3) := by decide +kernel
theorem dX6_addStep_60 : decode cX6_addStep 60 = .ok (.invokevirtual 95, 3) := by decide +kernel
theorem dX6_addStep_63 : decode cX6_addStep 63 = .ok (.ireturn, 1) := by decide +kernel
theorem dX6_start_0 : decode cX6_start 0 = .ok (.aload_n 0, 1) := by decide +kernel
theorem dX6_start_1 : decode cX6_start 1 = .ok (.getfield 54, 3) := by decide +kernel
theorem dX6_start_4 : decode cX6_start 4 = .ok (.bipush 105, 2) := by decide +kernel
theorem dX6_start_6 : decode cX6_start 6 = .ok (.if_icmp .eq 13, 3) := by decide +kernel
theorem dX6_start_9 : decode cX6_start 9 = .ok (.new 86, 3) := by decide +kernel
theorem dX6_start_12 : decode cX6_start 12 = .ok (.dup, 1) := by decide +kernel
theorem dX6_start_13 : decode cX6_start 13 = .ok (.ldc 99, 2) := by decide +kernel
theorem dX6_start_15 : decode cX6_start 15 = .ok (.invokespecial 90, 3) := by decide +kernel
theorem dX6_start_18 : decode cX6_start 18 = .ok (.athrow, 1) := by decide +kernel
theorem dX6_start_19 : decode cX6_start 19 = .ok (.aload_n 0, 1) := by decide +kernel
theorem dX6_start_20 : decode cX6_start 20 = .ok (.bipush 99, 2) := by decide +kernel
theorem dX6_start_22 : decode cX6_start 22 = .ok (.putfield 54, 3) := by decide +kernel
theorem dX6_start_25 : decode cX6_start 25 = .ok (.aload_n 0, 1) := by decide +kernel
theorem dX6_start_26 : decode cX6_start 26 = .ok (.getfield 19, 3) := by decide +kernel
theorem dX6_start_29 : decode cX6_start 29 = .ok (.invokevirtual 101, 3) := by decide +kernel
theorem dX6_start_32 : decode cX6_start 32 = .ok (.ireturn, 1) := by decide +kernel
theorem dX6_phase_0 : decode cX6_phase 0 = .ok (.aload_n 0, 1) := by decide +kernel
theorem dX6_phase_1 : decode cX6_phase 1 = .ok (.getfield 54, 3) := by decide +kernel
theorem dX6_phase_4 : decode cX6_phase 4 = .ok (.ireturn, 1) := by decide +kernel
theorem dX6_goToBoth_0 : decode cX6_goToBoth 0 = .ok (.aload_n 0, 1) := by decide +kernel
theorem dX6_goToBoth_1 : decode cX6_goToBoth 1 = .ok (.getfield 54, 3) := by decide +kernel
theorem dX6_goToBoth_4 : decode cX6_goToBoth 4 = .ok (.bipush 99, 2) := by decide +kernel
theorem dX6_goToBoth_6 : decode cX6_goToBoth 6 = .ok (.if_icmp .eq 13, 3) := by decide +kernel
theorem dX6_goToBoth_9 : decode cX6_goToBoth 9 = .ok (.new 86, 3) := by decide +kernel
theorem dX6_goToBoth_12 : decode cX6_goToBoth 12 = .ok (.dup, 1) := by decide +kernel
theorem dX6_goToBoth_13 : decode cX6_goToBoth 13 = .ok (.ldc 104, 2) := by decide +kernel
theorem dX6_goToBoth_15 : decode cX6_goToBoth 15 = .ok (.invokespecial 90, 3) := by decide +kernel
theorem dX6_goToBoth_18 : decode cX6_goToBoth 18 = .ok (.athrow, 1) := by decide +kernel
theorem dX6_goToBoth_19 : decode cX6_goToBoth 19 = .ok (.aload_n 0, 1) := by decide +kernel
theorem dX6_goToBoth_20 : decode cX6_goToBoth 20 = .ok (.getfield 43, 3) := by decide +kernel
theorem dX6_goToBoth_23 : decode cX6_goToBoth 23 = .ok (.invokevirtual 106, 3) := by decide +kernel
theorem dX6_goToBoth_26 : decode cX6_goToBoth 26 = .ok (.ifCond .gt 13, 3) := by decide +kernel
theorem dX6_goToBoth_29 : decode cX6_goToBoth 29 = .ok (.aload_n 0, 1) := by decide +kernel
theorem dX6_goToBoth_30 : decode cX6_goToBoth 30 = .ok (.getfield 43, 3) := by decide +kernel
theorem dX6_goToBoth_33 : decode cX6_goToBoth 33 = .ok (.invokevirtual 109, 3) := by decide +kernel
theorem dX6_goToBoth_36 : decode cX6_goToBoth 36 = .ok (.ifCond .le 13, 3) := by decide +kernel
theorem dX6_goToBoth_39 : decode cX6_goToBoth 39 = .ok (.new 112, 3) := by decide +kernel
theorem dX6_goToBoth_42 : decode cX6_goToBoth 42 = .ok (.dup, 1) := by decide +kernel
theorem dX6_goToBoth_43 : decode cX6_goToBoth 43 = .ok (.ldc 114, 2) := by decide +kernel
theorem dX6_goToBoth_45 : decode cX6_goToBoth 45 = .ok (.invokespecial 116, 3) := by decide +kernel
theorem dX6_goToBoth_48 : decode cX6_goToBoth 48 = .ok (.athrow, 1) := by decide +kernel
theorem dX6_goToBoth_49 : decode cX6_goToBoth 49 = .ok (.aload_n 0, 1) := by decide +kernel
theorem dX6_goToBoth_50 : decode cX6_goToBoth 50 = .ok (.bipush 120, 2) := by decide +kernel
theorem dX6_goToBoth_52 : decode cX6_goToBoth 52 = .ok (.invokevirtual 117, 3) := by decide +kernel
theorem dX6_goToBoth_55 : decode cX6_goToBoth 55 = .ok (.istore_n 1, 1) := by decide +kernel
theorem dX6_goToBoth_56 : decode cX6_goToBoth 56 = .ok (.aload_n 0, 1) := by decide +kernel
theorem dX6_goToBoth_57 : decode cX6_goToBoth 57 = .ok (.bipush 98, 2) := by decide +kernel
theorem dX6_goToBoth_59 : decode cX6_goToBoth 59 = .ok (.putfield 54, 3) := by decide +kernel
theorem dX6_goToBoth_62 : decode cX6_goToBoth 62 = .ok (.iload_n 1, 1) := by decide +kernel
theorem dX6_goToBoth_63 : decode cX6_goToBoth 63 = .ok (.ireturn, 1) := by decide +kernel
theorem dX6_switchOver_0 : decode cX6_switchOver 0 = .ok (.aload_n 0, 1) := by decide +kernel
theorem dX6_switchOver_1 : decode cX6_switchOver 1 = .ok (.getfield 54, 3) := by decide +kernel
theorem dX6_switchOver_4 : decode cX6_switchOver 4 = .ok (.bipush 98, 2) := by decide +kernel
theorem dX6_switchOver_6 : decode cX6_switchOver 6 = .ok (.if_icmp .eq 13, 3) := by decide +kernel
theorem dX6_switchOver_9 : decode cX6_switchOver 9 = .ok (.new 86, 3) := by decide +kernel
theorem dX6_switchOver_12 : decode cX6_switchOver 12 = .ok (.dup, 1) := by decide +kernel
theorem dX6_switchOver_13 : decode cX6_switchOver 13 = .ok (.ldc 121, 2) := by decide +kernel
theorem dX6_switchOver_15 : decode cX6_switchOver 15 = .ok (.invokespecial 90, 3) := by decide +kernel
theorem dX6_switchOver_18 : decode cX6_switchOver 18 = .ok (.athrow, 1) := by decide +kernel
theorem dX6_switchOver_19 : decode cX6_switchOver 19 = .ok (.aload_n 0, 1) := by decide +kernel
theorem dX6_switchOver_20 : decode cX6_switchOver 20 = .ok (.getfield 26, 3) := by decide +kernel
theorem dX6_switchOver_23 : decode cX6_switchOver 23 = .ok (.invokevirtual 123, 3) := by decide +kernel
theorem dX6_switchOver_26 : decode cX6_switchOver 26 = .ok (.ifCond .ne 13, 3) := by decide +kernel
theorem dX6_switchOver_29 : decode cX6_switchOver 29 = .ok (.aload_n 0, 1) := by decide +kernel
theorem dX6_switchOver_30 : decode cX6_switchOver 30 = .ok (.iconst 0, 1) := by decide +kernel
theorem dX6_switchOver_31 : decode cX6_switchOver 31 = .ok (.bipush 39, 2) := by decide +kernel
theorem dX6_switchOver_33 : decode cX6_switchOver 33 = .ok (.invokevirtual 126, 3) := by decide +kernel
theorem dX6_switchOver_36 : decode cX6_switchOver 36 = .ok (.ifCond .ne 13, 3) := by decide +kernel
theorem dX6_switchOver_39 : decode cX6_switchOver 39 = .ok (.new 112, 3) := by decide +kernel
theorem dX6_switchOver_42 : decode cX6_switchOver 42 = .ok (.dup, 1) := by decide +kernel
theorem dX6_switchOver_43 : decode cX6_switchOver 43 = .ok (.ldc 130, 2) := by decide +kernel
theorem dX6_switchOver_45 : decode cX6_switchOver 45 = .ok (.invokespecial 116, 3) := by decide +kernel
theorem dX6_switchOver_48 : decode cX6_switchOver 48 = .ok (.athrow, 1) := by decide +kernel
theorem dX6_switchOver_49 : decode cX6_switchOver 49 = .ok (.aload_n 0, 1) := by decide +kernel
theorem dX6_switchOver_50 : decode cX6_switchOver 50 = .ok (.bipush 116, 2) := by decide +kernel
theorem dX6_switchOver_52 : decode cX6_switchOver 52 = .ok (.putfield 54, 3) := by decide +kernel
theorem dX6_switchOver_55 : decode cX6_switchOver 55 = .ok (.aload_n 0, 1) := by decide +kernel
theorem dX6_switchOver_56 : decode cX6_switchOver 56 = .ok (.getfield 26, 3) := by decide +kernel
theorem dX6_switchOver_59 : decode cX6_switchOver 59 = .ok (.invokevirtual 132, 3) := by decide +kernel
theorem dX6_switchOver_62 : decode cX6_switchOver 62 = .ok (.ireturn, 1) := by decide +kernel
theorem dX6_goBack_0 : decode cX6_goBack 0 = .ok (.aload_n 0, 1) := by decide +kernel
theorem dX6_goBack_1 : decode cX6_goBack 1 = .ok (.getfield 54, 3) := by decide +kernel
theorem dX6_goBack_4 : decode cX6_goBack 4 = .ok (.bipush 116, 2) := by decide +kernel
theorem dX6_goBack_6 : decode cX6_goBack 6 = .ok (.if_icmp .eq 13, 3) := by decide +kernel
theorem dX6_goBack_9 : decode cX6_goBack 9 = .ok (.new 86, 3) := by decide +kernel
theorem dX6_goBack_12 : decode cX6_goBack 12 = .ok (.dup, 1) := by decide +kernel
theorem dX6_goBack_13 : decode cX6_goBack 13 = .ok (.ldc 135, 2) := by decide +kernel
theorem dX6_goBack_15 : decode cX6_goBack 15 = .ok (.invokespecial 90, 3) := by decide +kernel
theorem dX6_goBack_18 : decode cX6_goBack 18 = .ok (.athrow, 1) := by decide +kernel
theorem dX6_goBack_19 : decode cX6_goBack 19 = .ok (.aload_n 0, 1) := by decide +kernel
theorem dX6_goBack_20 : decode cX6_goBack 20 = .ok (.invokevirtual 137, 3) := by decide +kernel
theorem dX6_goBack_23 : decode cX6_goBack 23 = .ok (.ifCond .ne 13, 3) := by decide +kernel
theorem dX6_goBack_26 : decode cX6_goBack 26 = .ok (.new 112, 3) := by decide +kernel
theorem dX6_goBack_29 : decode cX6_goBack 29 = .ok (.dup, 1) := by decide +kernel
theorem dX6_goBack_30 : decode cX6_goBack 30 = .ok (.ldc 140, 2) := by decide +kernel
theorem dX6_goBack_32 : decode cX6_goBack 32 = .ok (.invokespecial 116, 3) := by decide +kernel
theorem dX6_goBack_35 : decode cX6_goBack 35 = .ok (.athrow, 1) := by decide +kernel
theorem dX6_goBack_36 : decode cX6_goBack 36 = .ok (.aload_n 0, 1) := by decide +kernel
theorem dX6_goBack_37 : decode cX6_goBack 37 = .ok (.getfield 37, 3) := by decide +kernel
theorem dX6_goBack_40 : decode cX6_goBack 40 = .ok (.invokevirtual 142, 3) := by decide +kernel
theorem dX6_goBack_43 : decode cX6_goBack 43 = .ok (.istore_n 1, 1) := by decide +kernel
theorem dX6_goBack_44 : decode cX6_goBack 44 = .ok (.iconst 0, 1) := by decide +kernel
theorem dX6_goBack_45 : decode cX6_goBack 45 = .ok (.istore_n 2, 1) := by decide +kernel
theorem dX6_goBack_46 : decode cX6_goBack 46 = .ok (.iconst 0, 1) := by decide +kernel
theorem dX6_goBack_47 : decode cX6_goBack 47 = .ok (.istore_n 3, 1) := by decide +kernel
theorem dX6_goBack_48 : decode cX6_goBack 48 = .ok (.iload_n 3, 1) := by decide +kernel
theorem dX6_goBack_49 : decode cX6_goBack 49 = .ok (.iload_n 1, 1) := by decide +kernel
theorem dX6_goBack_50 : decode cX6_goBack 50 = .ok (.if_icmp .ge 27, 3) := by decide +kernel
theorem dX6_goBack_53 : decode cX6_goBack 53 = .ok (.aload_n 0, 1) := by decide +kernel
theorem dX6_goBack_54 : decode cX6_goBack 54 = .ok (.aload_n 0, 1) := by decide +kernel
theorem dX6_goBack_55 : decode cX6_goBack 55 = .ok (.getfield 37, 3) := by decide +kernel
theorem dX6_goBack_58 : decode cX6_goBack 58 = .ok (.iload_n 3, 1) := by decide +kernel
theorem dX6_goBack_59 : decode cX6_goBack 59 = .ok (.invokevirtual 143, 3) := by decide +kernel
theorem dX6_goBack_62 : decode cX6_goBack 62 = .ok (.invokevirtual 146, 3) := by decide +kernel
theorem dX6_goBack_65 : decode cX6_goBack 65 = .ok (.ifCond .eq 6, 3) := by decide +kernel
theorem dX6_goBack_68 : decode cX6_goBack 68 = .ok (.iinc 2 1, 3) := by decide +kernel
theorem dX6_goBack_71 : decode cX6_goBack 71 = .ok (.iinc 3 1, 3) := by decide +kernel
theorem dX6_goBack_74 : decode cX6_goBack 74 = .ok (.goto (-26), 3) := by decide +kernel
theorem dX6_goBack_77 : decode cX6_goBack 77 = .ok (.aload_n 0, 1) := by decide +kernel
theorem dX6_goBack_78 : decode cX6_goBack 78 = .ok (.getfield 37, 3) := by decide +kernel
theorem dX6_goBack_81 : decode cX6_goBack 81 = .ok (.invokevirtual 150, 3) := by decide +kernel
theorem dX6_goBack_84 : decode cX6_goBack 84 = .ok (.aload_n 0, 1) := by decide +kernel
theorem dX6_goBack_85 : decode cX6_goBack 85 = .ok (.bipush 98, 2) := by decide +kernel
theorem dX6_goBack_87 : decode cX6_goBack 87 = .ok (.putfield 54, 3) := by decide +kernel
theorem dX6_goBack_90 : decode cX6_goBack 90 = .ok (.iload_n 2, 1) := by decide +kernel
theorem dX6_goBack_91 : decode cX6_goBack 91 = .ok (.ireturn, 1) := by decide +kernel
theorem dX6_end_0 : decode cX6_end 0 = .ok (.aload_n 0, 1) := by decide +kernel
theorem dX6_end_1 : decode cX6_end 1 = .ok (.getfield 54, 3) := by decide +kernel
theorem dX6_end_4 : decode cX6_end 4 = .ok (.bipush 116, 2) := by decide +kernel
theorem dX6_end_6 : decode cX6_end 6 = .ok (.if_icmp .eq 13, 3) := by decide +kernel
theorem dX6_end_9 : decode cX6_end 9 = .ok (.new 86, 3) := by decide +kernel
theorem dX6_end_12 : decode cX6_end 12 = .ok (.dup, 1) := by decide +kernel
theorem dX6_end_13 : decode cX6_end 13 = .ok (.ldc 135, 2) := by decide +kernel
theorem dX6_end_15 : decode cX6_end 15 = .ok (.invokespecial 90, 3) := by decide +kernel
theorem dX6_end_18 : decode cX6_end 18 = .ok (.athrow, 1) := by decide +kernel
theorem dX6_end_19 : decode cX6_end 19 = .ok (.aload_n 0, 1) := by decide +kernel
theorem dX6_end_20 : decode cX6_end 20 = .ok (.bipush 100, 2) := by decide +kernel
theorem dX6_end_22 : decode cX6_end 22 = .ok (.putfield 54, 3) := by decide +kernel
theorem dX6_end_25 : decode cX6_end 25 = .ok (.aload_n 0, 1) := by decide +kernel
theorem dX6_end_26 : decode cX6_end 26 = .ok (.getfield 37, 3) := by decide +kernel
theorem dX6_end_29 : decode cX6_end 29 = .ok (.invokevirtual 142, 3) := by decide +kernel
theorem dX6_end_32 : decode cX6_end 32 = .ok (.ireturn, 1) := by decide +kernel
theorem dX6_write_0 : decode cX6_write 0 = .ok (.aload_n 0, 1) := by decide +kernel
theorem dX6_write_1 : decode cX6_write 1 = .ok (.invokevirtual 153, 3) := by decide +kernel
theorem dX6_write_4 : decode cX6_write 4 = .ok (.ifCond .eq 9, 3) := by decide +kernel
theorem dX6_write_7 : decode cX6_write 7 = .ok (.sipush 999, 3) := by decide +kernel
theorem dX6_write_10 : decode cX6_write 10 = .ok (.goto 5, 3) := by decide +kernel
theorem dX6_write_13 : decode cX6_write 13 = .ok (.bipush 99, 2) := by decide +kernel
theorem dX6_write_15 : decode cX6_write 15 = .ok (.istore 4, 2) := by decide +kernel
theorem dX6_write_17 : decode cX6_write 17 = .ok (.iload_n 1, 1) := by decide +kernel
theorem dX6_write_18 : decode cX6_write 18 = .ok (.invokestatic 156, 3) := by decide +kernel
theorem dX6_write_21 : decode cX6_write 21 = .ok (.ifCond .eq 21, 3) := by decide +kernel
theorem dX6_write_24 : decode cX6_write 24 = .ok (.iload_n 2, 1) := by decide +kernel
theorem dX6_write_25 : decode cX6_write 25 = .ok (.iload 4, 2) := by decide +kernel
theorem dX6_write_27 : decode cX6_write 27 = .ok (.invokestatic 159, 3) := by decide +kernel
theorem dX6_write_30 : decode cX6_write 30 = .ok (.ifCond .eq 12, 3) := by decide +kernel
theorem dX6_write_33 : decode cX6_write 33 = .ok (.iload_n 3, 1) := by decide +kernel
theorem dX6_write_34 : decode cX6_write 34 = .ok (.iload 4, 2) := by decide +kernel
theorem dX6_write_36 : decode cX6_write 36 = .ok (.invokestatic 159, 3) := by decide +kernel
theorem dX6_write_39 : decode cX6_write 39 = .ok (.ifCond .ne 13, 3) := by decide +kernel
theorem dX6_write_42 : decode cX6_write 42 = .ok (.new 75, 3) := by decide +kernel
theorem dX6_write_45 : decode cX6_write 45 = .ok (.dup, 1) := by decide +kernel
theorem dX6_write_46 : decode cX6_write 46 = .ok (.ldc 162, 2) := by decide +kernel
theorem dX6_write_48 : decode cX6_write 48 = .ok (.invokespecial 79, 3) := by decide +kernel
theorem dX6_write_51 : decode cX6_write 51 = .ok (.athrow, 1) := by decide +kernel
theorem dX6_write_52 : decode cX6_write 52 = .ok (.aload_n 0, 1) := by decide +kernel
theorem dX6_write_53 : decode cX6_write 53 = .ok (.getfield 54, 3) := by decide +kernel
theorem dX6_write_56 : decode cX6_write 56 = .ok (.bipush 100, 2) := by decide +kernel
theorem dX6_write_58 : decode cX6_write 58 = .ok (.if_icmp .eq 10, 3) := by decide +kernel
theorem dX6_write_61 : decode cX6_write 61 = .ok (.aload_n 0, 1) := by decide +kernel
theorem dX6_write_62 : decode cX6_write 62 = .ok (.invokevirtual 164, 3) := by decide +kernel
theorem dX6_write_65 : decode cX6_write 65 = .ok (.ifCond .eq 13, 3) := by decide +kernel
theorem dX6_write_68 : decode cX6_write 68 = .ok (.new 86, 3) := by decide +kernel
theorem dX6_write_71 : decode cX6_write 71 = .ok (.dup, 1) := by decide +kernel
theorem dX6_write_72 : decode cX6_write 72 = .ok (.ldc 167, 2) := by decide +kernel
theorem dX6_write_74 : decode cX6_write 74 = .ok (.invokespecial 90, 3) := by decide +kernel
theorem dX6_write_77 : decode cX6_write 77 = .ok (.athrow, 1) := by decide +kernel
theorem dX6_write_78 : decode cX6_write 78 = .ok (.aload_n 0, 1) := by decide +kernel
theorem dX6_write_79 : decode cX6_write 79 = .ok (.iload_n 1, 1) := by decide +kernel
theorem dX6_write_80 : decode cX6_write 80 = .ok (.invokevirtual 169, 3) := by decide +kernel
theorem dX6_write_83 : decode cX6_write 83 = .ok (.istore 5, 2) := by decide +kernel
theorem dX6_write_85 : decode cX6_write 85 = .ok (.aload_n 0, 1) := by decide +kernel
theorem dX6_write_86 : decode cX6_write 86 = .ok (.getfield 54, 3) := by decide +kernel
theorem dX6_write_89 : decode cX6_write 89 = .ok (.bipush 116, 2) := by decide +kernel
theorem dX6_write_91 : decode cX6_write 91 = .ok (.if_icmp .ne 33, 3) := by decide +kernel
theorem dX6_write_94 : decode cX6_write 94 = .ok (.aload_n 0, 1) := by decide +kernel
theorem dX6_write_95 : decode cX6_write 95 = .ok (.getfield 26, 3) := by decide +kernel
theorem dX6_write_98 : decode cX6_write 98 = .ok (.iload_n 1, 1) := by decide +kernel
theorem dX6_write_99 : decode cX6_write 99 = .ok (.iload_n 2, 1) := by decide +kernel
theorem dX6_write_100 : decode cX6_write 100 = .ok (.iload_n 3, 1) := by decide +kernel
theorem dX6_write_101 : decode cX6_write 101 = .ok (.aload_n 0, 1) := by decide +kernel
theorem dX6_write_102 : decode cX6_write 102 = .ok (.getfield 33, 3) := by decide +kernel
theorem dX6_write_105 : decode cX6_write 105 = .ok (.invokevirtual 142, 3) := by decide +kernel
theorem dX6_write_108 : decode cX6_write 108 = .ok (.invokevirtual 172, 3) := by decide +kernel
theorem dX6_write_111 : decode cX6_write 111 = .ok (.aload_n 0, 1) := by decide +kernel
theorem dX6_write_112 : decode cX6_write 112 = .ok (.getfield 37, 3) := by decide +kernel
theorem dX6_write_115 : decode cX6_write 115 = .ok (.iload_n 1, 1) := by decide +kernel
theorem dX6_write_116 : decode cX6_write 116 = .ok (.iload_n 2, 1) := by decide +kernel
theorem dX6_write_117 : decode cX6_write 117 = .ok (.iload_n 3, 1) := by decide +kernel
theorem dX6_write_118 : decode cX6_write 118 = .ok (.invokevirtual 176, 3) := by decide +kernel
theorem dX6_write_121 : decode cX6_write 121 = .ok (.goto 45, 3) := by decide +kernel
theorem dX6_write_124 : decode cX6_write 124 = .ok (.aload_n 0, 1) := by decide +kernel
theorem dX6_write_125 : decode cX6_write 125 = .ok (.getfield 19, 3) := by decide +kernel
theorem dX6_write_128 : decode cX6_write 128 = .ok (.iload_n 1, 1) := by decide +kernel
theorem dX6_write_129 : decode cX6_write 129 = .ok (.iload_n 2, 1) := by decide +kernel
theorem dX6_write_130 : decode cX6_write 130 = .ok (.iload_n 3, 1) := by decide +kernel
theorem dX6_write_131 : decode cX6_write 131 = .ok (.invokevirtual 180, 3) := by decide +kernel
theorem dX6_write_134 : decode cX6_write 134 = .ok (.aload_n 0, 1) := by decide +kernel
theorem dX6_write_135 : decode cX6_write 135 = .ok (.getfield 54, 3) := by decide +kernel
theorem dX6_write_138 : decode cX6_write 138 = .ok (.bipush 105, 2) := by decide +kernel
theorem dX6_write_140 : decode cX6_write 140 = .ok (.if_icmp .eq 13, 3) := by decide +kernel
theorem dX6_write_143 : decode cX6_write 143 = .ok (.aload_n 0, 1) := by decide +kernel
theorem dX6_write_144 : decode cX6_write 144 = .ok (.getfield 33, 3) := by decide +kernel
theorem dX6_write_147 : decode cX6_write 147 = .ok (.iload_n 1, 1) := by decide +kernel
theorem dX6_write_148 : decode cX6_write 148 = .ok (.iload_n 2, 1) := by decide +kernel
theorem dX6_write_149 : decode cX6_write 149 = .ok (.iload_n 3, 1) := by decide +kernel
theorem dX6_write_150 : decode cX6_write 150 = .ok (.invokevirtual 176, 3) := by decide +kernel
theorem dX6_write_153 : decode cX6_write 153 = .ok (.aload_n 0, 1) := by decide +kernel
theorem dX6_write_154 : decode cX6_write 154 = .ok (.getfield 54, 3) := by decide +kernel
theorem dX6_write_157 : decode cX6_write 157 = .ok (.bipush 98, 2) := by decide +kernel
theorem dX6_write_159 : decode cX6_write 159 = .ok (.if_icmp .ne 7, 3) := by decide +kernel
theorem dX6_write_162 : decode cX6_write 162 = .ok (.aload_n 0, 1) := by decide +kernel
theorem dX6_write_163 : decode cX6_write 163 = .ok (.invokevirtual 183, 3) := by decide +kernel
theorem dX6_write_166 : decode cX6_write 166 = .ok (.iload 5, 2) := by decide +kernel
theorem dX6_write_168 : decode cX6_write 168 = .ok (.ireturn, 1) := by decide +kernel
theorem dX6_delete_0 : decode cX6_delete 0 = .ok (.iload_n 1, 1) := by decide +kernel
theorem dX6_delete_1 : decode cX6_delete 1 = .ok (.invokestatic 186, 3) := by decide +kernel
theorem dX6_delete_4 : decode cX6_delete 4 = .ok (.aload_n 0, 1) := by decide +kernel
theorem dX6_delete_5 : decode cX6_delete 5 = .ok (.getfield 54, 3) := by decide +kernel
theorem dX6_delete_8 : decode cX6_delete 8 = .ok (.bipush 100, 2) := by decide +kernel
theorem dX6_delete_10 : decode cX6_delete 10 = .ok (.if_icmp .ne 13, 3) := by decide +kernel
theorem dX6_delete_13 : decode cX6_delete 13 = .ok (.new 86, 3) := by decide +kernel
theorem dX6_delete_16 : decode cX6_delete 16 = .ok (.dup, 1) := by decide +kernel
theorem dX6_delete_17 : decode cX6_delete 17 = .ok (.ldc 190, 2) := by decide +kernel
theorem dX6_delete_19 : decode cX6_delete 19 = .ok (.invokespecial 90, 3) := by decide +kernel
theorem dX6_delete_22 : decode cX6_delete 22 = .ok (.athrow, 1) := by decide +kernel
theorem dX6_delete_23 : decode cX6_delete 23 = .ok (.aload_n 0, 1) := by decide +kernel
theorem dX6_delete_24 : decode cX6_delete 24 = .ok (.iload_n 1, 1) := by decide +kernel
theorem dX6_delete_25 : decode cX6_delete 25 = .ok (.invokevirtual 169, 3) := by decide +kernel
theorem dX6_delete_28 : decode cX6_delete 28 = .ok (.ifCond .ne 5, 3) := by decide +kernel
theorem dX6_delete_31 : decode cX6_delete 31 = .ok (.iconst 0, 1) := by decide +kernel
theorem dX6_delete_32 : decode cX6_delete 32 = .ok (.ireturn, 1) := by decide +kernel
theorem dX6_delete_33 : decode cX6_delete 33 = .ok (.aload_n 0, 1) := by decide +kernel
theorem dX6_delete_34 : decode cX6_delete 34 = .ok (.invokevirtual 164, 3) := by decide +kernel
theorem dX6_delete_37 : decode cX6_delete 37 = .ok (.ifCond .eq 13, 3) := by decide +kernel
theorem dX6_delete_40 : decode cX6_delete 40 = .ok (.new 86, 3) := by decide +kernel
theorem dX6_delete_43 : decode cX6_delete 43 = .ok (.dup, 1) := by decide +kernel
theorem dX6_delete_44 : decode cX6_delete 44 = .ok (.ldc 192, 2) := by decide +kernel
theorem dX6_delete_46 : decode cX6_delete 46 = .ok (.invokespecial 90, 3) := by decide +kernel
theorem dX6_delete_49 : decode cX6_delete 49 = .ok (.athrow, 1) := by decide +kernel
theorem dX6_delete_50 : decode cX6_delete 50 = .ok (.aload_n 0, 1) := by decide +kernel
theorem dX6_delete_51 : decode cX6_delete 51 = .ok (.getfield 54, 3) := by decide +kernel
theorem dX6_delete_54 : decode cX6_delete 54 = .ok (.bipush 116, 2) := by decide +kernel
theorem dX6_delete_56 : decode cX6_delete 56 = .ok (.if_icmp .ne 29, 3) := by decide +kernel
theorem dX6_delete_59 : decode cX6_delete 59 = .ok (.aload_n 0, 1) := by decide +kernel
theorem dX6_delete_60 : decode cX6_delete 60 = .ok (.getfield 26, 3) := by decide +kernel
theorem dX6_delete_63 : decode cX6_delete 63 = .ok (.iload_n 1, 1) := by decide +kernel
theorem dX6_delete_64 : decode cX6_delete 64 = .ok (.aload_n 0, 1) := by decide +kernel
theorem dX6_delete_65 : decode cX6_delete 65 = .ok (.getfield 33, 3) := by decide +kernel
theorem dX6_delete_68 : decode cX6_delete 68 = .ok (.invokevirtual 142, 3) := by decide +kernel
theorem dX6_delete_71 : decode cX6_delete 71 = .ok (.invokevirtual 194, 3) := by decide +kernel
theorem dX6_delete_74 : decode cX6_delete 74 = .ok (.aload_n 0, 1) := by decide +kernel
theorem dX6_delete_75 : decode cX6_delete 75 = .ok (.getfield 37, 3) := by decide +kernel
theorem dX6_delete_78 : decode cX6_delete 78 = .ok (.iload_n 1, 1) := by decide +kernel
theorem dX6_delete_79 : decode cX6_delete 79 = .ok (.invokevirtual 198, 3) := by decide +kernel
theorem dX6_delete_82 : decode cX6_delete 82 = .ok (.goto 41, 3) := by decide +kernel
theorem dX6_delete_85 : decode cX6_delete 85 = .ok (.aload_n 0, 1) := by decide +kernel
theorem dX6_delete_86 : decode cX6_delete 86 = .ok (.getfield 19, 3) := by decide +kernel
theorem dX6_delete_89 : decode cX6_delete 89 = .ok (.iload_n 1, 1) := by decide +kernel
theorem dX6_delete_90 : decode cX6_delete 90 = .ok (.invokevirtual 201, 3) := by decide +kernel
theorem dX6_delete_93 : decode cX6_delete 93 = .ok (.aload_n 0, 1) := by decide +kernel
theorem dX6_delete_94 : decode cX6_delete 94 = .ok (.getfield 54, 3) := by decide +kernel
theorem dX6_delete_97 : decode cX6_delete 97 = .ok (.bipush 105, 2) := by decide +kernel
theorem dX6_delete_99 : decode cX6_delete 99 = .ok (.if_icmp .eq 11, 3) := by decide +kernel
theorem dX6_delete_102 : decode cX6_delete 102 = .ok (.aload_n 0, 1) := by decide +kernel
theorem dX6_delete_103 : decode cX6_delete 103 = .ok (.getfield 33, 3) := by decide +kernel
theorem dX6_delete_106 : decode cX6_delete 106 = .ok (.iload_n 1, 1) := by decide +kernel
theorem dX6_delete_107 : decode cX6_delete 107 = .ok (.invokevirtual 198, 3) := by decide +kernel
theorem dX6_delete_110 : decode cX6_delete 110 = .ok (.aload_n 0, 1) := by decide +kernel
theorem dX6_delete_111 : decode cX6_delete 111 = .ok (.getfield 54, 3) := by decide +kernel
theorem dX6_delete_114 : decode cX6_delete 114 = .ok (.bipush 98, 2) := by decide +kernel
theorem dX6_delete_116 : decode cX6_delete 116 = .ok (.if_icmp .ne 7, 3) := by decide +kernel
theorem dX6_delete_119 : decode cX6_delete 119 = .ok (.aload_n 0, 1) := by decide +kernel
theorem dX6_delete_120 : decode cX6_delete 120 = .ok (.invokevirtual 183, 3) := by decide +kernel
theorem dX6_delete_123 : decode cX6_delete 123 = .ok (.iconst 1, 1) := by decide +kernel
theorem dX6_delete_124 : decode cX6_delete 124 = .ok (.ireturn, 1) := by decide +kernel
theorem dX6_read_0 : decode cX6_read 0 = .ok (.iload_n 1, 1) := by decide +kernel
theorem dX6_read_1 : decode cX6_read 1 = .ok (.invokestatic 186, 3) := by decide +kernel
theorem dX6_read_4 : decode cX6_read 4 = .ok (.aload_n 0, 1) := by decide +kernel
theorem dX6_read_5 : decode cX6_read 5 = .ok (.iload_n 1, 1) := by decide +kernel
theorem dX6_read_6 : decode cX6_read 6 = .ok (.invokevirtual 169, 3) := by decide +kernel
theorem dX6_read_9 : decode cX6_read 9 = .ok (.ifCond .ne 13, 3) := by decide +kernel
theorem dX6_read_12 : decode cX6_read 12 = .ok (.new 204, 3) := by decide +kernel
theorem dX6_read_15 : decode cX6_read 15 = .ok (.dup, 1) := by decide +kernel
theorem dX6_read_16 : decode cX6_read 16 = .ok (.ldc 206, 2) := by decide +kernel
theorem dX6_read_18 : decode cX6_read 18 = .ok (.invokespecial 208, 3) := by decide +kernel
theorem dX6_read_21 : decode cX6_read 21 = .ok (.athrow, 1) := by decide +kernel
theorem dX6_read_22 : decode cX6_read 22 = .ok (.aload_n 0, 1) := by decide +kernel
theorem dX6_read_23 : decode cX6_read 23 = .ok (.invokevirtual 153, 3) := by decide +kernel
theorem dX6_read_26 : decode cX6_read 26 = .ok (.ifCond .eq 15, 3) := by decide +kernel
theorem dX6_read_29 : decode cX6_read 29 = .ok (.aload_n 0, 1) := by decide +kernel
theorem dX6_read_30 : decode cX6_read 30 = .ok (.getfield 26, 3) := by decide +kernel
theorem dX6_read_33 : decode cX6_read 33 = .ok (.iload_n 1, 1) := by decide +kernel
theorem dX6_read_34 : decode cX6_read 34 = .ok (.iload_n 2, 1) := by decide +kernel
theorem dX6_read_35 : decode cX6_read 35 = .ok (.invokevirtual 209, 3) := by decide +kernel
theorem dX6_read_38 : decode cX6_read 38 = .ok (.goto 12, 3) := by decide +kernel
theorem dX6_read_41 : decode cX6_read 41 = .ok (.aload_n 0, 1) := by decide +kernel
theorem dX6_read_42 : decode cX6_read 42 = .ok (.getfield 19, 3) := by decide +kernel
theorem dX6_read_45 : decode cX6_read 45 = .ok (.iload_n 1, 1) := by decide +kernel
theorem dX6_read_46 : decode cX6_read 46 = .ok (.iload_n 2, 1) := by decide +kernel
theorem dX6_read_47 : decode cX6_read 47 = .ok (.invokevirtual 213, 3) := by decide +kernel
theorem dX6_read_50 : decode cX6_read 50 = .ok (.ireturn, 1) := by decide +kernel
theorem dX6_nextNumber_0 : decode cX6_nextNumber 0 = .ok (.aload_n 0, 1) := by decide +kernel
theorem dX6_nextNumber_1 : decode cX6_nextNumber 1 = .ok (.getfield 54, 3) := by decide +kernel
theorem dX6_nextNumber_4 : decode cX6_nextNumber 4 = .ok (.bipush 100, 2) := by decide +kernel
theorem dX6_nextNumber_6 : decode cX6_nextNumber 6 = .ok (.if_icmp .ne 13, 3) := by decide +kernel
theorem dX6_nextNumber_9 : decode cX6_nextNumber 9 = .ok (.new 86, 3) := by decide +kernel
theorem dX6_nextNumber_12 : decode cX6_nextNumber 12 = .ok (.dup, 1) := by decide +kernel
theorem dX6_nextNumber_13 : decode cX6_nextNumber 13 = .ok (.ldc 214, 2) := by decide +kernel
theorem dX6_nextNumber_15 : decode cX6_nextNumber 15 = .ok (.invokespecial 90, 3) := by decide +kernel
theorem dX6_nextNumber_18 : decode cX6_nextNumber 18 = .ok (.athrow, 1) := by decide +kernel
theorem dX6_nextNumber_19 : decode cX6_nextNumber 19 = .ok (.aload_n 0, 1) := by decide +kernel
theorem dX6_nextNumber_20 : decode cX6_nextNumber 20 = .ok (.getfield 54, 3) := by decide +kernel
theorem dX6_nextNumber_23 : decode cX6_nextNumber 23 = .ok (.bipush 116, 2) := by decide +kernel
theorem dX6_nextNumber_25 : decode cX6_nextNumber 25 = .ok (.if_icmp .ne 20, 3) := by decide +kernel
theorem dX6_nextNumber_28 : decode cX6_nextNumber 28 = .ok (.aload_n 0, 1) := by decide +kernel
theorem dX6_nextNumber_29 : decode cX6_nextNumber 29 = .ok (.dup, 1) := by decide +kernel
theorem dX6_nextNumber_30 : decode cX6_nextNumber 30 = .ok (.getfield 65, 3) := by decide +kernel
theorem dX6_nextNumber_33 : decode cX6_nextNumber 33 = .ok (.iconst 2, 1) := by decide +kernel
theorem dX6_nextNumber_34 : decode cX6_nextNumber 34 = .ok (.iadd, 1) := by decide +kernel
theorem dX6_nextNumber_35 : decode cX6_nextNumber 35 = .ok (.putfield 65, 3) := by decide +kernel
theorem dX6_nextNumber_38 : decode cX6_nextNumber 38 = .ok (.aload_n 0, 1) := by decide +kernel
theorem dX6_nextNumber_39 : decode cX6_nextNumber 39 = .ok (.getfield 65, 3) := by decide +kernel
theorem dX6_nextNumber_42 : decode cX6_nextNumber 42 = .ok (.iconst 2, 1) := by decide +kernel
theorem dX6_nextNumber_43 : decode cX6_nextNumber 43 = .ok (.isub, 1) := by decide +kernel
theorem dX6_nextNumber_44 : decode cX6_nextNumber 44 = .ok (.ireturn, 1) := by decide +kernel
theorem dX6_nextNumber_45 : decode cX6_nextNumber 45 = .ok (.aload_n 0, 1) := by decide +kernel
theorem dX6_nextNumber_46 : decode cX6_nextNumber 46 = .ok (.dup, 1) := by decide +kernel
theorem dX6_nextNumber_47 : decode cX6_nextNumber 47 = .ok (.getfield 62, 3) := by decide +kernel
theorem dX6_nextNumber_50 : decode cX6_nextNumber 50 = .ok (.iconst 2, 1) := by decide +kernel
theorem dX6_nextNumber_51 : decode cX6_nextNumber 51 = .ok (.iadd, 1) := by decide +kernel
theorem dX6_nextNumber_52 : decode cX6_nextNumber 52 = .ok (.putfield 62, 3) := by decide +kernel
theorem dX6_nextNumber_55 : decode cX6_nextNumber 55 = .ok (.aload_n 0, 1) := by decide +kernel
theorem dX6_nextNumber_56 : decode cX6_nextNumber 56 = .ok (.getfield 62, 3) := by decide +kernel
theorem dX6_nextNumber_59 : decode cX6_nextNumber 59 = .ok (.iconst 2, 1) := by decide +kernel
theorem dX6_nextNumber_60 : decode cX6_nextNumber 60 = .ok (.isub, 1) := by decide +kernel
theorem dX6_nextNumber_61 : decode cX6_nextNumber 61 = .ok (.ireturn, 1) := by decide +kernel
theorem dX6_readPart_0 : decode cX6_readPart 0 = .ok (.iload_n 1, 1) := by decide +kernel
theorem dX6_readPart_1 : decode cX6_readPart 1 = .ok (.iconst 1, 1) := by decide +kernel
theorem dX6_readPart_2 : decode cX6_readPart 2 = .ok (.if_icmp .lt 9, 3) := by decide +kernel
theorem dX6_readPart_5 : decode cX6_readPart 5 = .ok (.iload_n 1, 1) := by decide +kernel
theorem dX6_readPart_6 : decode cX6_readPart 6 = .ok (.bipush 40, 2) := by decide +kernel
theorem dX6_readPart_8 : decode cX6_readPart 8 = .ok (.if_icmp .le 13, 3) := by decide +kernel
theorem dX6_readPart_11 : decode cX6_readPart 11 = .ok (.new 75, 3) := by decide +kernel
theorem dX6_readPart_14 : decode cX6_readPart 14 = .ok (.dup, 1) := by decide +kernel
theorem dX6_readPart_15 : decode cX6_readPart 15 = .ok (.ldc 216, 2) := by decide +kernel
theorem dX6_readPart_17 : decode cX6_readPart 17 = .ok (.invokespecial 79, 3) := by decide +kernel
theorem dX6_readPart_20 : decode cX6_readPart 20 = .ok (.athrow, 1) := by decide +kernel
theorem dX6_readPart_21 : decode cX6_readPart 21 = .ok (.aload_n 0, 1) := by decide +kernel
theorem dX6_readPart_22 : decode cX6_readPart 22 = .ok (.getfield 54, 3) := by decide +kernel
theorem dX6_readPart_25 : decode cX6_readPart 25 = .ok (.bipush 99, 2) := by decide +kernel
theorem dX6_readPart_27 : decode cX6_readPart 27 = .ok (.if_icmp .ne 25, 3) := by decide +kernel
theorem dX6_readPart_30 : decode cX6_readPart 30 = .ok (.aload_n 0, 1) := by decide +kernel
theorem dX6_readPart_31 : decode cX6_readPart 31 = .ok (.getfield 43, 3) := by decide +kernel
theorem dX6_readPart_34 : decode cX6_readPart 34 = .ok (.invokevirtual 106, 3) := by decide +kernel
theorem dX6_readPart_37 : decode cX6_readPart 37 = .ok (.ifCond .eq 15, 3) := by decide +kernel
theorem dX6_readPart_40 : decode cX6_readPart 40 = .ok (.aload_n 0, 1) := by decide +kernel
theorem dX6_readPart_41 : decode cX6_readPart 41 = .ok (.getfield 43, 3) := by decide +kernel
theorem dX6_readPart_44 : decode cX6_readPart 44 = .ok (.invokevirtual 109, 3) := by decide +kernel
theorem dX6_readPart_47 : decode cX6_readPart 47 = .ok (.bipush 8, 2) := by decide +kernel
theorem dX6_readPart_49 : decode cX6_readPart 49 = .ok (.if_icmp .lt 13, 3) := by decide +kernel
theorem dX6_readPart_52 : decode cX6_readPart 52 = .ok (.new 86, 3) := by decide +kernel
theorem dX6_readPart_55 : decode cX6_readPart 55 = .ok (.dup, 1) := by decide +kernel
theorem dX6_readPart_56 : decode cX6_readPart 56 = .ok (.ldc 218, 2) := by decide +kernel
theorem dX6_readPart_58 : decode cX6_readPart 58 = .ok (.invokespecial 90, 3) := by decide +kernel
theorem dX6_readPart_61 : decode cX6_readPart 61 = .ok (.athrow, 1) := by decide +kernel
theorem dX6_readPart_62 : decode cX6_readPart 62 = .ok (.aload_n 0, 1) := by decide +kernel
theorem dX6_readPart_63 : decode cX6_readPart 63 = .ok (.getfield 43, 3) := by decide +kernel
theorem dX6_readPart_66 : decode cX6_readPart 66 = .ok (.aload_n 0, 1) := by decide +kernel
theorem dX6_readPart_67 : decode cX6_readPart 67 = .ok (.getfield 19, 3) := by decide +kernel
theorem dX6_readPart_70 : decode cX6_readPart 70 = .ok (.iload_n 1, 1) := by decide +kernel
theorem dX6_readPart_71 : decode cX6_readPart 71 = .ok (.aload_n 0, 1) := by decide +kernel
theorem dX6_readPart_72 : decode cX6_readPart 72 = .ok (.getfield 33, 3) := by decide +kernel
theorem dX6_readPart_75 : decode cX6_readPart 75 = .ok (.invokevirtual 142, 3) := by decide +kernel
theorem dX6_readPart_78 : decode cX6_readPart 78 = .ok (.invokevirtual 220, 3) := by decide +kernel
theorem dX6_readPart_81 : decode cX6_readPart 81 = .ok (.ireturn, 1) := by decide +kernel
theorem dX6_putDown_0 : decode cX6_putDown 0 = .ok (.aload_n 0, 1) := by decide +kernel
theorem dX6_putDown_1 : decode cX6_putDown 1 = .ok (.getfield 43, 3) := by decide +kernel
theorem dX6_putDown_4 : decode cX6_putDown 4 = .ok (.iload_n 1, 1) := by decide +kernel
theorem dX6_putDown_5 : decode cX6_putDown 5 = .ok (.invokevirtual 224, 3) := by decide +kernel
theorem dX6_putDown_8 : decode cX6_putDown 8 = .ok (.ifCond .ne 13, 3) := by decide +kernel
theorem dX6_putDown_11 : decode cX6_putDown 11 = .ok (.new 227, 3) := by decide +kernel
theorem dX6_putDown_14 : decode cX6_putDown 14 = .ok (.dup, 1) := by decide +kernel
theorem dX6_putDown_15 : decode cX6_putDown 15 = .ok (.ldc 229, 2) := by decide +kernel
theorem dX6_putDown_17 : decode cX6_putDown 17 = .ok (.invokespecial 231, 3) := by decide +kernel
theorem dX6_putDown_20 : decode cX6_putDown 20 = .ok (.athrow, 1) := by decide +kernel
theorem dX6_putDown_21 : decode cX6_putDown 21 = .ok (.aload_n 0, 1) := by decide +kernel
theorem dX6_putDown_22 : decode cX6_putDown 22 = .ok (.getfield 43, 3) := by decide +kernel
theorem dX6_putDown_25 : decode cX6_putDown 25 = .ok (.iload_n 1, 1) := by decide +kernel
theorem dX6_putDown_26 : decode cX6_putDown 26 = .ok (.invokevirtual 232, 3) := by decide +kernel
theorem dX6_putDown_29 : decode cX6_putDown 29 = .ok (.istore_n 2, 1) := by decide +kernel
theorem dX6_putDown_30 : decode cX6_putDown 30 = .ok (.aload_n 0, 1) := by decide +kernel
theorem dX6_putDown_31 : decode cX6_putDown 31 = .ok (.getfield 43, 3) := by decide +kernel
theorem dX6_putDown_34 : decode cX6_putDown 34 = .ok (.iload_n 1, 1) := by decide +kernel
theorem dX6_putDown_35 : decode cX6_putDown 35 = .ok (.invokevirtual 235, 3) := by decide +kernel
theorem dX6_putDown_38 : decode cX6_putDown 38 = .ok (.istore_n 3, 1) := by decide +kernel
theorem dX6_putDown_39 : decode cX6_putDown 39 = .ok (.iconst 0, 1) := by decide +kernel
theorem dX6_putDown_40 : decode cX6_putDown 40 = .ok (.istore 4, 2) := by decide +kernel
theorem dX6_putDown_42 : decode cX6_putDown 42 = .ok (.aload_n 0, 1) := by decide +kernel
theorem dX6_putDown_43 : decode cX6_putDown 43 = .ok (.getfield 43, 3) := by decide +kernel
theorem dX6_putDown_46 : decode cX6_putDown 46 = .ok (.iload_n 1, 1) := by decide +kernel
theorem dX6_putDown_47 : decode cX6_putDown 47 = .ok (.invokevirtual 238, 3) := by decide +kernel
theorem dX6_putDown_50 : decode cX6_putDown 50 = .ok (.istore 5, 2) := by decide +kernel
theorem dX6_putDown_52 : decode cX6_putDown 52 = .ok (.iload 5, 2) := by decide +kernel
theorem dX6_putDown_54 : decode cX6_putDown 54 = .ok (.iload_n 3, 1) := by decide +kernel
theorem dX6_putDown_55 : decode cX6_putDown 55 = .ok (.if_icmp .ge 54, 3) := by decide +kernel
theorem dX6_putDown_58 : decode cX6_putDown 58 = .ok (.aload_n 0, 1) := by decide +kernel
theorem dX6_putDown_59 : decode cX6_putDown 59 = .ok (.getfield 43, 3) := by decide +kernel
theorem dX6_putDown_62 : decode cX6_putDown 62 = .ok (.iload 5, 2) := by decide +kernel
theorem dX6_putDown_64 : decode cX6_putDown 64 = .ok (.invokevirtual 241, 3) := by decide +kernel
theorem dX6_putDown_67 : decode cX6_putDown 67 = .ok (.ifCond .eq 36, 3) := by decide +kernel
theorem dX6_putDown_70 : decode cX6_putDown 70 = .ok (.aload_n 0, 1) := by decide +kernel
theorem dX6_putDown_71 : decode cX6_putDown 71 = .ok (.iload 5, 2) := by decide +kernel
theorem dX6_putDown_73 : decode cX6_putDown 73 = .ok (.aload_n 0, 1) := by decide +kernel
theorem dX6_putDown_74 : decode cX6_putDown 74 = .ok (.getfield 43, 3) := by decide +kernel
theorem dX6_putDown_77 : decode cX6_putDown 77 = .ok (.iload 5, 2) := by decide +kernel
theorem dX6_putDown_79 : decode cX6_putDown 79 = .ok (.iconst 0, 1) := by decide +kernel
theorem dX6_putDown_80 : decode cX6_putDown 80 = .ok (.invokevirtual 244, 3) := by decide +kernel
theorem dX6_putDown_83 : decode cX6_putDown 83 = .ok (.aload_n 0, 1) := by decide +kernel
theorem dX6_putDown_84 : decode cX6_putDown 84 = .ok (.getfield 43, 3) := by decide +kernel
theorem dX6_putDown_87 : decode cX6_putDown 87 = .ok (.iload 5, 2) := by decide +kernel
theorem dX6_putDown_89 : decode cX6_putDown 89 = .ok (.iconst 1, 1) := by decide +kernel
theorem dX6_putDown_90 : decode cX6_putDown 90 = .ok (.invokevirtual 244, 3) := by decide +kernel
theorem dX6_putDown_93 : decode cX6_putDown 93 = .ok (.iload_n 2, 1) := by decide +kernel
theorem dX6_putDown_94 : decode cX6_putDown 94 = .ok (.invokevirtual 245, 3) := by decide +kernel
theorem dX6_putDown_97 : decode cX6_putDown 97 = .ok (.ifCond .eq 6, 3) := by decide +kernel
theorem dX6_putDown_100 : decode cX6_putDown 100 = .ok (.iinc 4 1, 3) := by decide +kernel
theorem dX6_putDown_103 : decode cX6_putDown 103 = .ok (.iinc 5 1, 3) := by decide +kernel
theorem dX6_putDown_106 : decode cX6_putDown 106 = .ok (.goto (-54), 3) := by decide +kernel
theorem dX6_putDown_109 : decode cX6_putDown 109 = .ok (.aload_n 0, 1) := by decide +kernel
theorem dX6_putDown_110 : decode cX6_putDown 110 = .ok (.getfield 43, 3) := by decide +kernel
theorem dX6_putDown_113 : decode cX6_putDown 113 = .ok (.iload_n 1, 1) := by decide +kernel
theorem dX6_putDown_114 : decode cX6_putDown 114 = .ok (.invokevirtual 249, 3) := by decide +kernel
theorem dX6_putDown_117 : decode cX6_putDown 117 = .ok (.iload 4, 2) := by decide +kernel
theorem dX6_putDown_119 : decode cX6_putDown 119 = .ok (.ireturn, 1) := by decide +kernel
theorem dX6_follow_0 : decode cX6_follow 0 = .ok (.iload_n 1, 1) := by decide +kernel
theorem dX6_follow_1 : decode cX6_follow 1 = .ok (.iconst 1, 1) := by decide +kernel
theorem dX6_follow_2 : decode cX6_follow 2 = .ok (.if_icmp .lt 9, 3) := by decide +kernel
theorem dX6_follow_5 : decode cX6_follow 5 = .ok (.iload_n 1, 1) := by decide +kernel
theorem dX6_follow_6 : decode cX6_follow 6 = .ok (.bipush 120, 2) := by decide +kernel
theorem dX6_follow_8 : decode cX6_follow 8 = .ok (.if_icmp .le 13, 3) := by decide +kernel
theorem dX6_follow_11 : decode cX6_follow 11 = .ok (.new 75, 3) := by decide +kernel
theorem dX6_follow_14 : decode cX6_follow 14 = .ok (.dup, 1) := by decide +kernel
theorem dX6_follow_15 : decode cX6_follow 15 = .ok (.ldc 252, 2) := by decide +kernel
theorem dX6_follow_17 : decode cX6_follow 17 = .ok (.invokespecial 79, 3) := by decide +kernel
theorem dX6_follow_20 : decode cX6_follow 20 = .ok (.athrow, 1) := by decide +kernel
theorem dX6_follow_21 : decode cX6_follow 21 = .ok (.aload_n 0, 1) := by decide +kernel
theorem dX6_follow_22 : decode cX6_follow 22 = .ok (.getfield 54, 3) := by decide +kernel
theorem dX6_follow_25 : decode cX6_follow 25 = .ok (.bipush 99, 2) := by decide +kernel
theorem dX6_follow_27 : decode cX6_follow 27 = .ok (.if_icmp .eq 13, 3) := by decide +kernel
theorem dX6_follow_30 : decode cX6_follow 30 = .ok (.new 86, 3) := by decide +kernel
theorem dX6_follow_33 : decode cX6_follow 33 = .ok (.dup, 1) := by decide +kernel
theorem dX6_follow_34 : decode cX6_follow 34 = .ok (.ldc 104, 2) := by decide +kernel
theorem dX6_follow_36 : decode cX6_follow 36 = .ok (.invokespecial 90, 3) := by decide +kernel
theorem dX6_follow_39 : decode cX6_follow 39 = .ok (.athrow, 1) := by decide +kernel
theorem dX6_follow_40 : decode cX6_follow 40 = .ok (.aload_n 0, 1) := by decide +kernel
theorem dX6_follow_41 : decode cX6_follow 41 = .ok (.iload_n 1, 1) := by decide +kernel
theorem dX6_follow_42 : decode cX6_follow 42 = .ok (.invokevirtual 117, 3) := by decide +kernel
theorem dX6_follow_45 : decode cX6_follow 45 = .ok (.ireturn, 1) := by decide +kernel
theorem dX6_left_0 : decode cX6_left 0 = .ok (.aload_n 0, 1) := by decide +kernel
theorem dX6_left_1 : decode cX6_left 1 = .ok (.getfield 43, 3) := by decide +kernel
theorem dX6_left_4 : decode cX6_left 4 = .ok (.invokevirtual 106, 3) := by decide +kernel
theorem dX6_left_7 : decode cX6_left 7 = .ok (.ireturn, 1) := by decide +kernel
theorem dX6_behind_0 : decode cX6_behind 0 = .ok (.aload_n 0, 1) := by decide +kernel
theorem dX6_behind_1 : decode cX6_behind 1 = .ok (.getfield 33, 3) := by decide +kernel
theorem dX6_behind_4 : decode cX6_behind 4 = .ok (.invokevirtual 142, 3) := by decide +kernel
theorem dX6_behind_7 : decode cX6_behind 7 = .ok (.aload_n 0, 1) := by decide +kernel
theorem dX6_behind_8 : decode cX6_behind 8 = .ok (.getfield 58, 3) := by decide +kernel
theorem dX6_behind_11 : decode cX6_behind 11 = .ok (.isub, 1) := by decide +kernel
theorem dX6_behind_12 : decode cX6_behind 12 = .ok (.ireturn, 1) := by decide +kernel
theorem dX6_parts_0 : decode cX6_parts 0 = .ok (.aload_n 0, 1) := by decide +kernel
theorem dX6_parts_1 : decode cX6_parts 1 = .ok (.getfield 43, 3) := by decide +kernel
theorem dX6_parts_4 : decode cX6_parts 4 = .ok (.invokevirtual 109, 3) := by decide +kernel
theorem dX6_parts_7 : decode cX6_parts 7 = .ok (.ireturn, 1) := by decide +kernel
theorem dX6_state_0 : decode cX6_state 0 = .ok (.iload_n 1, 1) := by decide +kernel
theorem dX6_state_1 : decode cX6_state 1 = .ok (.invokestatic 186, 3) := by decide +kernel
theorem dX6_state_4 : decode cX6_state 4 = .ok (.aload_n 0, 1) := by decide +kernel
theorem dX6_state_5 : decode cX6_state 5 = .ok (.iload_n 1, 1) := by decide +kernel
theorem dX6_state_6 : decode cX6_state 6 = .ok (.invokevirtual 254, 3) := by decide +kernel
theorem dX6_state_9 : decode cX6_state 9 = .ok (.ireturn, 1) := by decide +kernel
theorem dX6_stamp_0 : decode cX6_stamp 0 = .ok (.iload_n 1, 1) := by decide +kernel
theorem dX6_stamp_1 : decode cX6_stamp 1 = .ok (.invokestatic 186, 3) := by decide +kernel
theorem dX6_stamp_4 : decode cX6_stamp 4 = .ok (.aload_n 0, 1) := by decide +kernel
theorem dX6_stamp_5 : decode cX6_stamp 5 = .ok (.getfield 26, 3) := by decide +kernel
theorem dX6_stamp_8 : decode cX6_stamp 8 = .ok (.iload_n 1, 1) := by decide +kernel
theorem dX6_stamp_9 : decode cX6_stamp 9 = .ok (.invokevirtual 258, 3) := by decide +kernel
theorem dX6_stamp_12 : decode cX6_stamp 12 = .ok (.ifCond .ne 14, 3) := by decide +kernel
theorem dX6_stamp_15 : decode cX6_stamp 15 = .ok (.new 204, 3) := by decide +kernel
theorem dX6_stamp_18 : decode cX6_stamp 18 = .ok (.dup, 1) := by decide +kernel
theorem dX6_stamp_19 : decode cX6_stamp 19 = .ok (.ldc_w 261, 3) := by decide +kernel
theorem dX6_stamp_22 : decode cX6_stamp 22 = .ok (.invokespecial 208, 3) := by decide +kernel
theorem dX6_stamp_25 : decode cX6_stamp 25 = .ok (.athrow, 1) := by decide +kernel
theorem dX6_stamp_26 : decode cX6_stamp 26 = .ok (.aload_n 0, 1) := by decide +kernel
theorem dX6_stamp_27 : decode cX6_stamp 27 = .ok (.getfield 26, 3) := by decide +kernel
theorem dX6_stamp_30 : decode cX6_stamp 30 = .ok (.iload_n 1, 1) := by decide +kernel
theorem dX6_stamp_31 : decode cX6_stamp 31 = .ok (.invokevirtual 263, 3) := by decide +kernel
theorem dX6_stamp_34 : decode cX6_stamp 34 = .ok (.ireturn, 1) := by decide +kernel
theorem dX6_turned_0 : decode cX6_turned 0 = .ok (.iload_n 1, 1) := by decide +kernel
theorem dX6_turned_1 : decode cX6_turned 1 = .ok (.invokestatic 186, 3) := by decide +kernel
theorem dX6_turned_4 : decode cX6_turned 4 = .ok (.aload_n 0, 1) := by decide +kernel
theorem dX6_turned_5 : decode cX6_turned 5 = .ok (.getfield 19, 3) := by decide +kernel
theorem dX6_turned_8 : decode cX6_turned 8 = .ok (.iload_n 1, 1) := by decide +kernel
theorem dX6_turned_9 : decode cX6_turned 9 = .ok (.invokevirtual 264, 3) := by decide +kernel
theorem dX6_turned_12 : decode cX6_turned 12 = .ok (.ifCond .ne 14, 3) := by decide +kernel
theorem dX6_turned_15 : decode cX6_turned 15 = .ok (.new 204, 3) := by decide +kernel
theorem dX6_turned_18 : decode cX6_turned 18 = .ok (.dup, 1) := by decide +kernel
theorem dX6_turned_19 : decode cX6_turned 19 = .ok (.ldc_w 267, 3) := by decide +kernel
theorem dX6_turned_22 : decode cX6_turned 22 = .ok (.invokespecial 208, 3) := by decide +kernel
theorem dX6_turned_25 : decode cX6_turned 25 = .ok (.athrow, 1) := by decide +kernel
theorem dX6_turned_26 : decode cX6_turned 26 = .ok (.aload_n 0, 1) := by decide +kernel
theorem dX6_turned_27 : decode cX6_turned 27 = .ok (.iload_n 1, 1) := by decide +kernel
theorem dX6_turned_28 : decode cX6_turned 28 = .ok (.invokevirtual 269, 3) := by decide +kernel
theorem dX6_turned_31 : decode cX6_turned 31 = .ok (.ifCond .ne 14, 3) := by decide +kernel
theorem dX6_turned_34 : decode cX6_turned 34 = .ok (.new 112, 3) := by decide +kernel
theorem dX6_turned_37 : decode cX6_turned 37 = .ok (.dup, 1) := by decide +kernel
theorem dX6_turned_38 : decode cX6_turned 38 = .ok (.ldc_w 272, 3) := by decide +kernel
theorem dX6_turned_41 : decode cX6_turned 41 = .ok (.invokespecial 116, 3) := by decide +kernel
theorem dX6_turned_44 : decode cX6_turned 44 = .ok (.athrow, 1) := by decide +kernel
theorem dX6_turned_45 : decode cX6_turned 45 = .ok (.aload_n 0, 1) := by decide +kernel
theorem dX6_turned_46 : decode cX6_turned 46 = .ok (.getfield 50, 3) := by decide +kernel
theorem dX6_turned_49 : decode cX6_turned 49 = .ok (.iload_n 2, 1) := by decide +kernel
theorem dX6_turned_50 : decode cX6_turned 50 = .ok (.invokevirtual 274, 3) := by decide +kernel
theorem dX6_turned_53 : decode cX6_turned 53 = .ok (.ireturn, 1) := by decide +kernel
theorem dX6_turnedBack_0 : decode cX6_turnedBack 0 = .ok (.iload_n 1, 1) := by decide +kernel
theorem dX6_turnedBack_1 : decode cX6_turnedBack 1 = .ok (.invokestatic 186, 3) := by decide +kernel
theorem dX6_turnedBack_4 : decode cX6_turnedBack 4 = .ok (.aload_n 0, 1) := by decide +kernel
theorem dX6_turnedBack_5 : decode cX6_turnedBack 5 = .ok (.getfield 26, 3) := by decide +kernel
theorem dX6_turnedBack_8 : decode cX6_turnedBack 8 = .ok (.iload_n 1, 1) := by decide +kernel
theorem dX6_turnedBack_9 : decode cX6_turnedBack 9 = .ok (.invokevirtual 277, 3) := by decide +kernel
theorem dX6_turnedBack_12 : decode cX6_turnedBack 12 = .ok (.ifCond .ne 14, 3) := by decide +kernel
theorem dX6_turnedBack_15 : decode cX6_turnedBack 15 = .ok (.new 204, 3) := by decide +kernel
theorem dX6_turnedBack_18 : decode cX6_turnedBack 18 = .ok (.dup, 1) := by decide +kernel
theorem dX6_turnedBack_19 : decode cX6_turnedBack 19 = .ok (.ldc_w 280, 3) := by decide +kernel
theorem dX6_turnedBack_22 : decode cX6_turnedBack 22 = .ok (.invokespecial 208, 3) := by decide +kernel
theorem dX6_turnedBack_25 : decode cX6_turnedBack 25 = .ok (.athrow, 1) := by decide +kernel
theorem dX6_turnedBack_26 : decode cX6_turnedBack 26 = .ok (.aload_n 0, 1) := by decide +kernel
theorem dX6_turnedBack_27 : decode cX6_turnedBack 27 = .ok (.iload_n 1, 1) := by decide +kernel
theorem dX6_turnedBack_28 : decode cX6_turnedBack 28 = .ok (.invokevirtual 282, 3) := by decide +kernel
theorem dX6_turnedBack_31 : decode cX6_turnedBack 31 = .ok (.ifCond .ne 14, 3) := by decide +kernel
theorem dX6_turnedBack_34 : decode cX6_turnedBack 34 = .ok (.new 112, 3) := by decide +kernel
theorem dX6_turnedBack_37 : decode cX6_turnedBack 37 = .ok (.dup, 1) := by decide +kernel
theorem dX6_turnedBack_38 : decode cX6_turnedBack 38 = .ok (.ldc_w 285, 3) := by decide +kernel
theorem dX6_turnedBack_41 : decode cX6_turnedBack 41 = .ok (.invokespecial 116, 3) := by decide +kernel
theorem dX6_turnedBack_44 : decode cX6_turnedBack 44 = .ok (.athrow, 1) := by decide +kernel
theorem dX6_turnedBack_45 : decode cX6_turnedBack 45 = .ok (.aload_n 0, 1) := by decide +kernel
theorem dX6_turnedBack_46 : decode cX6_turnedBack 46 = .ok (.getfield 50, 3) := by decide +kernel
theorem dX6_turnedBack_49 : decode cX6_turnedBack 49 = .ok (.iload_n 2, 1) := by decide +kernel
theorem dX6_turnedBack_50 : decode cX6_turnedBack 50 = .ok (.invokevirtual 274, 3) := by decide +kernel
theorem dX6_turnedBack_53 : decode cX6_turnedBack 53 = .ok (.ireturn, 1) := by decide +kernel
theorem dX6_sum_0 : decode cX6_sum 0 = .ok (.iload_n 2, 1) := by decide +kernel
theorem dX6_sum_1 : decode cX6_sum 1 = .ok (.iload_n 3, 1) := by decide +kernel
theorem dX6_sum_2 : decode cX6_sum 2 = .ok (.invokestatic 287, 3) := by decide +kernel
theorem dX6_sum_5 : decode cX6_sum 5 = .ok (.aload_n 0, 1) := by decide +kernel
theorem dX6_sum_6 : decode cX6_sum 6 = .ok (.iload_n 1, 1) := by decide +kernel
theorem dX6_sum_7 : decode cX6_sum 7 = .ok (.iload_n 2, 1) := by decide +kernel
theorem dX6_sum_8 : decode cX6_sum 8 = .ok (.iload_n 3, 1) := by decide +kernel
theorem dX6_sum_9 : decode cX6_sum 9 = .ok (.invokevirtual 290, 3) := by decide +kernel
theorem dX6_sum_12 : decode cX6_sum 12 = .ok (.lreturn, 1) := by decide +kernel
theorem dX6_firstUnlike_0 : decode cX6_firstUnlike 0 = .ok (.iload_n 1, 1) := by decide +kernel
theorem dX6_firstUnlike_1 : decode cX6_firstUnlike 1 = .ok (.iload_n 2, 1) := by decide +kernel
theorem dX6_firstUnlike_2 : decode cX6_firstUnlike 2 = .ok (.invokestatic 287, 3) := by decide +kernel
theorem dX6_firstUnlike_5 : decode cX6_firstUnlike 5 = .ok (.aload_n 0, 1) := by decide +kernel
theorem dX6_firstUnlike_6 : decode cX6_firstUnlike 6 = .ok (.iconst 1, 1) := by decide +kernel
theorem dX6_firstUnlike_7 : decode cX6_firstUnlike 7 = .ok (.putfield 68, 3) := by decide +kernel
theorem dX6_firstUnlike_10 : decode cX6_firstUnlike 10 = .ok (.aload_n 0, 1) := by decide +kernel
theorem dX6_firstUnlike_11 : decode cX6_firstUnlike 11 = .ok (.iload_n 1, 1) := by decide +kernel
theorem dX6_firstUnlike_12 : decode cX6_firstUnlike 12 = .ok (.iload_n 2, 1) := by decide +kernel
theorem dX6_firstUnlike_13 : decode cX6_firstUnlike 13 = .ok (.invokevirtual 126, 3) := by decide +kernel
theorem dX6_firstUnlike_16 : decode cX6_firstUnlike 16 = .ok (.ifCond .eq 14, 3) := by decide +kernel
theorem dX6_firstUnlike_19 : decode cX6_firstUnlike 19 = .ok (.new 204, 3) := by decide +kernel
theorem dX6_firstUnlike_22 : decode cX6_firstUnlike 22 = .ok (.dup, 1) := by decide +kernel
theorem dX6_firstUnlike_23 : decode cX6_firstUnlike 23 = .ok (.ldc_w 294, 3) := by decide +kernel
theorem dX6_firstUnlike_26 : decode cX6_firstUnlike 26 = .ok (.invokespecial 208, 3) := by decide +kernel
theorem dX6_firstUnlike_29 : decode cX6_firstUnlike 29 = .ok (.athrow, 1) := by decide +kernel
theorem dX6_firstUnlike_30 : decode cX6_firstUnlike 30 = .ok (.iload_n 1, 1) := by decide +kernel
theorem dX6_firstUnlike_31 : decode cX6_firstUnlike 31 = .ok (.istore_n 3, 1) := by decide +kernel
theorem dX6_firstUnlike_32 : decode cX6_firstUnlike 32 = .ok (.iload_n 2, 1) := by decide +kernel
theorem dX6_firstUnlike_33 : decode cX6_firstUnlike 33 = .ok (.istore 4, 2) := by decide +kernel
theorem dX6_firstUnlike_35 : decode cX6_firstUnlike 35 = .ok (.iconst 0, 1) := by decide +kernel
theorem dX6_firstUnlike_36 : decode cX6_firstUnlike 36 = .ok (.istore 5, 2) := by decide +kernel
theorem dX6_firstUnlike_38 : decode cX6_firstUnlike 38 = .ok (.iload 5, 2) := by decide +kernel
theorem dX6_firstUnlike_40 : decode cX6_firstUnlike 40 = .ok (.bipush 40, 2) := by decide +kernel
theorem dX6_firstUnlike_42 : decode cX6_firstUnlike 42 = .ok (.if_icmp .ge 67, 3) := by decide +kernel
theorem dX6_firstUnlike_45 : decode cX6_firstUnlike 45 = .ok (.iload_n 3, 1) := by decide +kernel
theorem dX6_firstUnlike_46 : decode cX6_firstUnlike 46 = .ok (.iload 4, 2) := by decide +kernel
theorem dX6_firstUnlike_48 : decode cX6_firstUnlike 48 = .ok (.if_icmp .ge 61, 3) := by decide +kernel
theorem dX6_firstUnlike_51 : decode cX6_firstUnlike 51 = .ok (.iload_n 3, 1) := by decide +kernel
theorem dX6_firstUnlike_52 : decode cX6_firstUnlike 52 = .ok (.iload 4, 2) := by decide +kernel
theorem dX6_firstUnlike_54 : decode cX6_firstUnlike 54 = .ok (.iload_n 3, 1) := by decide +kernel
theorem dX6_firstUnlike_55 : decode cX6_firstUnlike 55 = .ok (.isub, 1) := by decide +kernel
theorem dX6_firstUnlike_56 : decode cX6_firstUnlike 56 = .ok (.iconst 2, 1) := by decide +kernel
theorem dX6_firstUnlike_57 : decode cX6_firstUnlike 57 = .ok (.idiv, 1) := by decide +kernel
theorem dX6_firstUnlike_58 : decode cX6_firstUnlike 58 = .ok (.iadd, 1) := by decide +kernel
theorem dX6_firstUnlike_59 : decode cX6_firstUnlike 59 = .ok (.istore 6, 2) := by decide +kernel
theorem dX6_firstUnlike_61 : decode cX6_firstUnlike 61 = .ok (.aload_n 0, 1) := by decide +kernel
theorem dX6_firstUnlike_62 : decode cX6_firstUnlike 62 = .ok (.dup, 1) := by decide +kernel
theorem dX6_firstUnlike_63 : decode cX6_firstUnlike 63 = .ok (.getfield 68, 3) := by decide +kernel
theorem dX6_firstUnlike_66 : decode cX6_firstUnlike 66 = .ok (.iconst 1, 1) := by decide +kernel
theorem dX6_firstUnlike_67 : decode cX6_firstUnlike 67 = .ok (.iadd, 1) := by decide +kernel
theorem dX6_firstUnlike_68 : decode cX6_firstUnlike 68 = .ok (.putfield 68, 3) := by decide +kernel
theorem dX6_firstUnlike_71 : decode cX6_firstUnlike 71 = .ok (.aload_n 0, 1) := by decide +kernel
theorem dX6_firstUnlike_72 : decode cX6_firstUnlike 72 = .ok (.iload_n 3, 1) := by decide +kernel
theorem dX6_firstUnlike_73 : decode cX6_firstUnlike 73 = .ok (.iload 6, 2) := by decide +kernel
theorem dX6_firstUnlike_75 : decode cX6_firstUnlike 75 = .ok (.invokevirtual 126, 3) := by decide +kernel
theorem dX6_firstUnlike_78 : decode cX6_firstUnlike 78 = .ok (.ifCond .eq 21, 3) := by decide +kernel
theorem dX6_firstUnlike_81 : decode cX6_firstUnlike 81 = .ok (.iload 6, 2) := by decide +kernel
theorem dX6_firstUnlike_83 : decode cX6_firstUnlike 83 = .ok (.iconst 1, 1) := by decide +kernel
theorem dX6_firstUnlike_84 : decode cX6_firstUnlike 84 = .ok (.iadd, 1) := by decide +kernel
theorem dX6_firstUnlike_85 : decode cX6_firstUnlike 85 = .ok (.istore_n 3, 1) := by decide +kernel
theorem dX6_firstUnlike_86 : decode cX6_firstUnlike 86 = .ok (.aload_n 0, 1) := by decide +kernel
theorem dX6_firstUnlike_87 : decode cX6_firstUnlike 87 = .ok (.dup, 1) := by decide +kernel
theorem dX6_firstUnlike_88 : decode cX6_firstUnlike 88 = .ok (.getfield 68, 3) := by decide +kernel
theorem dX6_firstUnlike_91 : decode cX6_firstUnlike 91 = .ok (.iconst 1, 1) := by decide +kernel
theorem dX6_firstUnlike_92 : decode cX6_firstUnlike 92 = .ok (.iadd, 1) := by decide +kernel
theorem dX6_firstUnlike_93 : decode cX6_firstUnlike 93 = .ok (.putfield 68, 3) := by decide +kernel
theorem dX6_firstUnlike_96 : decode cX6_firstUnlike 96 = .ok (.goto 7, 3) := by decide +kernel
theorem dX6_firstUnlike_99 : decode cX6_firstUnlike 99 = .ok (.iload 6, 2) := by decide +kernel
theorem dX6_firstUnlike_101 : decode cX6_firstUnlike 101 = .ok (.istore 4, 2) := by decide +kernel
theorem dX6_firstUnlike_103 : decode cX6_firstUnlike 103 = .ok (.iinc 5 1, 3) := by decide +kernel
theorem dX6_firstUnlike_106 : decode cX6_firstUnlike 106 = .ok (.goto (-68), 3) := by decide +kernel
theorem dX6_firstUnlike_109 : decode cX6_firstUnlike 109 = .ok (.iload_n 3, 1) := by decide +kernel
theorem dX6_firstUnlike_110 : decode cX6_firstUnlike 110 = .ok (.ireturn, 1) := by decide +kernel
theorem dX6_compared_0 : decode cX6_compared 0 = .ok (.aload_n 0, 1) := by decide +kernel
theorem dX6_compared_1 : decode cX6_compared 1 = .ok (.getfield 68, 3) := by decide +kernel
theorem dX6_compared_4 : decode cX6_compared 4 = .ok (.ireturn, 1) := by decide +kernel
theorem dX6_goal_0 : decode cX6_goal 0 = .ok (.iload_n 1, 1) := by decide +kernel
theorem dX6_goal_1 : decode cX6_goal 1 = .ok (.invokestatic 186, 3) := by decide +kernel
theorem dX6_goal_4 : decode cX6_goal 4 = .ok (.aload_n 0, 1) := by decide +kernel
theorem dX6_goal_5 : decode cX6_goal 5 = .ok (.getfield 54, 3) := by decide +kernel
theorem dX6_goal_8 : decode cX6_goal 8 = .ok (.bipush 99, 2) := by decide +kernel
theorem dX6_goal_10 : decode cX6_goal 10 = .ok (.if_icmp .eq 23, 3) := by decide +kernel
theorem dX6_goal_13 : decode cX6_goal 13 = .ok (.aload_n 0, 1) := by decide +kernel
theorem dX6_goal_14 : decode cX6_goal 14 = .ok (.getfield 54, 3) := by decide +kernel
theorem dX6_goal_17 : decode cX6_goal 17 = .ok (.bipush 98, 2) := by decide +kernel
theorem dX6_goal_19 : decode cX6_goal 19 = .ok (.if_icmp .eq 14, 3) := by decide +kernel
theorem dX6_goal_22 : decode cX6_goal 22 = .ok (.new 86, 3) := by decide +kernel
theorem dX6_goal_25 : decode cX6_goal 25 = .ok (.dup, 1) := by decide +kernel
theorem dX6_goal_26 : decode cX6_goal 26 = .ok (.ldc_w 296, 3) := by decide +kernel
theorem dX6_goal_29 : decode cX6_goal 29 = .ok (.invokespecial 90, 3) := by decide +kernel
theorem dX6_goal_32 : decode cX6_goal 32 = .ok (.athrow, 1) := by decide +kernel
theorem dX6_goal_33 : decode cX6_goal 33 = .ok (.aload_n 0, 1) := by decide +kernel
theorem dX6_goal_34 : decode cX6_goal 34 = .ok (.getfield 19, 3) := by decide +kernel
theorem dX6_goal_37 : decode cX6_goal 37 = .ok (.iload_n 1, 1) := by decide +kernel
theorem dX6_goal_38 : decode cX6_goal 38 = .ok (.invokevirtual 264, 3) := by decide +kernel
theorem dX6_goal_41 : decode cX6_goal 41 = .ok (.ifCond .ne 6, 3) := by decide +kernel
theorem dX6_goal_44 : decode cX6_goal 44 = .ok (.bipush 110, 2) := by decide +kernel
theorem dX6_goal_46 : decode cX6_goal 46 = .ok (.ireturn, 1) := by decide +kernel
theorem dX6_goal_47 : decode cX6_goal 47 = .ok (.aload_n 0, 1) := by decide +kernel
theorem dX6_goal_48 : decode cX6_goal 48 = .ok (.iload_n 1, 1) := by decide +kernel
theorem dX6_goal_49 : decode cX6_goal 49 = .ok (.invokevirtual 269, 3) := by decide +kernel
theorem dX6_goal_52 : decode cX6_goal 52 = .ok (.ifCond .eq 8, 3) := by decide +kernel
theorem dX6_goal_55 : decode cX6_goal 55 = .ok (.bipush 101, 2) := by decide +kernel
theorem dX6_goal_57 : decode cX6_goal 57 = .ok (.goto 5, 3) := by decide +kernel
theorem dX6_goal_60 : decode cX6_goal 60 = .ok (.bipush 97, 2) := by decide +kernel
theorem dX6_goal_62 : decode cX6_goal 62 = .ok (.ireturn, 1) := by decide +kernel
theorem dX6_movedShare_0 : decode cX6_movedShare 0 = .ok (.aload_n 0, 1) := by decide +kernel
theorem dX6_movedShare_1 : decode cX6_movedShare 1 = .ok (.getfield 19, 3) := by decide +kernel
theorem dX6_movedShare_4 : decode cX6_movedShare 4 = .ok (.invokevirtual 101, 3) := by decide +kernel
theorem dX6_movedShare_7 : decode cX6_movedShare 7 = .ok (.istore_n 1, 1) := by decide +kernel
theorem dX6_movedShare_8 : decode cX6_movedShare 8 = .ok (.iload_n 1, 1) := by decide +kernel
theorem dX6_movedShare_9 : decode cX6_movedShare 9 = .ok (.ifCond .ne 14, 3) := by decide +kernel
theorem dX6_movedShare_12 : decode cX6_movedShare 12 = .ok (.new 298, 3) := by decide +kernel
theorem dX6_movedShare_15 : decode cX6_movedShare 15 = .ok (.dup, 1) := by decide +kernel
theorem dX6_movedShare_16 : decode cX6_movedShare 16 = .ok (.ldc_w 300, 3) := by decide +kernel
theorem dX6_movedShare_19 : decode cX6_movedShare 19 = .ok (.invokespecial 302, 3) := by decide +kernel
theorem dX6_movedShare_22 : decode cX6_movedShare 22 = .ok (.athrow, 1) := by decide +kernel
theorem dX6_movedShare_23 : decode cX6_movedShare 23 = .ok (.aload_n 0, 1) := by decide +kernel
theorem dX6_movedShare_24 : decode cX6_movedShare 24 = .ok (.invokevirtual 303, 3) := by decide +kernel
theorem dX6_movedShare_27 : decode cX6_movedShare 27 = .ok (.i2f, 1) := by decide +kernel
theorem dX6_movedShare_28 : decode cX6_movedShare 28 = .ok (.iload_n 1, 1) := by decide +kernel
theorem dX6_movedShare_29 : decode cX6_movedShare 29 = .ok (.i2f, 1) := by decide +kernel
theorem dX6_movedShare_30 : decode cX6_movedShare 30 = .ok (.fdiv, 1) := by decide +kernel
theorem dX6_movedShare_31 : decode cX6_movedShare 31 = .ok (.freturn, 1) := by decide +kernel
theorem dX6_isAllMoved_0 : decode cX6_isAllMoved 0 = .ok (.aload_n 0, 1) := by decide +kernel
theorem dX6_isAllMoved_1 : decode cX6_isAllMoved 1 = .ok (.getfield 19, 3) := by decide +kernel
theorem dX6_isAllMoved_4 : decode cX6_isAllMoved 4 = .ok (.invokevirtual 101, 3) := by decide +kernel
theorem dX6_isAllMoved_7 : decode cX6_isAllMoved 7 = .ok (.istore_n 1, 1) := by decide +kernel
theorem dX6_isAllMoved_8 : decode cX6_isAllMoved 8 = .ok (.iload_n 1, 1) := by decide +kernel
theorem dX6_isAllMoved_9 : decode cX6_isAllMoved 9 = .ok (.ifCond .le 15, 3) := by decide +kernel
theorem dX6_isAllMoved_12 : decode cX6_isAllMoved 12 = .ok (.aload_n 0, 1) := by decide +kernel
theorem dX6_isAllMoved_13 : decode cX6_isAllMoved 13 = .ok (.invokevirtual 303, 3) := by decide +kernel
theorem dX6_isAllMoved_16 : decode cX6_isAllMoved 16 = .ok (.iload_n 1, 1) := by decide +kernel
theorem dX6_isAllMoved_17 : decode cX6_isAllMoved 17 = .ok (.if_icmp .ne 7, 3) := by decide +kernel
theorem dX6_isAllMoved_20 : decode cX6_isAllMoved 20 = .ok (.iconst 1, 1) := by decide +kernel
theorem dX6_isAllMoved_21 : decode cX6_isAllMoved 21 = .ok (.goto 4, 3) := by decide +kernel
theorem dX6_isAllMoved_24 : decode cX6_isAllMoved 24 = .ok (.iconst 0, 1) := by decide +kernel
theorem dX6_isAllMoved_25 : decode cX6_isAllMoved 25 = .ok (.ireturn, 1) := by decide +kernel
theorem dX6_meanStamp_0 : decode cX6_meanStamp 0 = .ok (.aload_n 0, 1) := by decide +kernel
theorem dX6_meanStamp_1 : decode cX6_meanStamp 1 = .ok (.getfield 26, 3) := by decide +kernel
theorem dX6_meanStamp_4 : decode cX6_meanStamp 4 = .ok (.invokevirtual 132, 3) := by decide +kernel
theorem dX6_meanStamp_7 : decode cX6_meanStamp 7 = .ok (.istore_n 1, 1) := by decide +kernel
theorem dX6_meanStamp_8 : decode cX6_meanStamp 8 = .ok (.iload_n 1, 1) := by decide +kernel
theorem dX6_meanStamp_9 : decode cX6_meanStamp 9 = .ok (.ifCond .ne 14, 3) := by decide +kernel
theorem dX6_meanStamp_12 : decode cX6_meanStamp 12 = .ok (.new 298, 3) := by decide +kernel
theorem dX6_meanStamp_15 : decode cX6_meanStamp 15 = .ok (.dup, 1) := by decide +kernel
theorem dX6_meanStamp_16 : decode cX6_meanStamp 16 = .ok (.ldc_w 306, 3) := by decide +kernel
theorem dX6_meanStamp_19 : decode cX6_meanStamp 19 = .ok (.invokespecial 302, 3) := by decide +kernel
theorem dX6_meanStamp_22 : decode cX6_meanStamp 22 = .ok (.athrow, 1) := by decide +kernel
theorem dX6_meanStamp_23 : decode cX6_meanStamp 23 = .ok (.aload_n 0, 1) := by decide +kernel
theorem dX6_meanStamp_24 : decode cX6_meanStamp 24 = .ok (.getfield 26, 3) := by decide +kernel
theorem dX6_meanStamp_27 : decode cX6_meanStamp 27 = .ok (.invokevirtual 308, 3) := by decide +kernel
theorem dX6_meanStamp_30 : decode cX6_meanStamp 30 = .ok (.i2d, 1) := by decide +kernel
theorem dX6_meanStamp_31 : decode cX6_meanStamp 31 = .ok (.iload_n 1, 1) := by decide +kernel
theorem dX6_meanStamp_32 : decode cX6_meanStamp 32 = .ok (.i2d, 1) := by decide +kernel
theorem dX6_meanStamp_33 : decode cX6_meanStamp 33 = .ok (.ddiv, 1) := by decide +kernel
theorem dX6_meanStamp_34 : decode cX6_meanStamp 34 = .ok (.dreturn, 1) := by decide +kernel
theorem dX6_isKey_0 : decode cX6_isKey 0 = .ok (.iload_n 0, 1) := by decide +kernel
theorem dX6_isKey_1 : decode cX6_isKey 1 = .ok (.ifCond .lt 13, 3) := by decide +kernel
theorem dX6_isKey_4 : decode cX6_isKey 4 = .ok (.iload_n 0, 1) := by decide +kernel
theorem dX6_isKey_5 : decode cX6_isKey 5 = .ok (.bipush 40, 2) := by decide +kernel
theorem dX6_isKey_7 : decode cX6_isKey 7 = .ok (.if_icmp .ge 7, 3) := by decide +kernel
theorem dX6_isKey_10 : decode cX6_isKey 10 = .ok (.iconst 1, 1) := by decide +kernel
theorem dX6_isKey_11 : decode cX6_isKey 11 = .ok (.goto 4, 3) := by decide +kernel
theorem dX6_isKey_14 : decode cX6_isKey 14 = .ok (.iconst 0, 1) := by decide +kernel
theorem dX6_isKey_15 : decode cX6_isKey 15 = .ok (.ireturn, 1) := by decide +kernel
theorem dX6_isWithin_0 : decode cX6_isWithin 0 = .ok (.iload_n 0, 1) := by decide +kernel
theorem dX6_isWithin_1 : decode cX6_isWithin 1 = .ok (.iload_n 1, 1) := by decide +kernel
theorem dX6_isWithin_2 : decode cX6_isWithin 2 = .ok (.ineg, 1) := by decide +kernel
theorem dX6_isWithin_3 : decode cX6_isWithin 3 = .ok (.if_icmp .lt 12, 3) := by decide +kernel
theorem dX6_isWithin_6 : decode cX6_isWithin 6 = .ok (.iload_n 0, 1) := by decide +kernel
theorem dX6_isWithin_7 : decode cX6_isWithin 7 = .ok (.iload_n 1, 1) := by decide +kernel
theorem dX6_isWithin_8 : decode cX6_isWithin 8 = .ok (.if_icmp .gt 7, 3) := by decide +kernel
theorem dX6_isWithin_11 : decode cX6_isWithin 11 = .ok (.iconst 1, 1) := by decide +kernel
theorem dX6_isWithin_12 : decode cX6_isWithin 12 = .ok (.goto 4, 3) := by decide +kernel
theorem dX6_isWithin_15 : decode cX6_isWithin 15 = .ok (.iconst 0, 1) := by decide +kernel
theorem dX6_isWithin_16 : decode cX6_isWithin 16 = .ok (.ireturn, 1) := by decide +kernel
theorem dX6_checkKey_0 : decode cX6_checkKey 0 = .ok (.iload_n 0, 1) := by decide +kernel
theorem dX6_checkKey_1 : decode cX6_checkKey 1 = .ok (.invokestatic 156, 3) := by decide +kernel
theorem dX6_checkKey_4 : decode cX6_checkKey 4 = .ok (.ifCond .ne 14, 3) := by decide +kernel
theorem dX6_checkKey_7 : decode cX6_checkKey 7 = .ok (.new 75, 3) := by decide +kernel
theorem dX6_checkKey_10 : decode cX6_checkKey 10 = .ok (.dup, 1) := by decide +kernel
theorem dX6_checkKey_11 : decode cX6_checkKey 11 = .ok (.ldc_w 311, 3) := by decide +kernel
theorem dX6_checkKey_14 : decode cX6_checkKey 14 = .ok (.invokespecial 79, 3) := by decide +kernel
theorem dX6_checkKey_17 : decode cX6_checkKey 17 = .ok (.athrow, 1) := by decide +kernel
theorem dX6_checkKey_18 : decode cX6_checkKey 18 = .ok (.return_, 1) := by decide +kernel
theorem dX6_checkRange_0 : decode cX6_checkRange 0 = .ok (.iload_n 0, 1) := by decide +kernel
theorem dX6_checkRange_1 : decode cX6_checkRange 1 = .ok (.invokestatic 156, 3) := by decide +kernel
theorem dX6_checkRange_4 : decode cX6_checkRange 4 = .ok (.ifCond .eq 15, 3) := by decide +kernel
theorem dX6_checkRange_7 : decode cX6_checkRange 7 = .ok (.iload_n 1, 1) := by decide +kernel
theorem dX6_checkRange_8 : decode cX6_checkRange 8 = .ok (.invokestatic 156, 3) := by decide +kernel
theorem dX6_checkRange_11 : decode cX6_checkRange 11 = .ok (.ifCond .eq 8, 3) := by decide +kernel
theorem dX6_checkRange_14 : decode cX6_checkRange 14 = .ok (.iload_n 0, 1) := by decide +kernel
theorem dX6_checkRange_15 : decode cX6_checkRange 15 = .ok (.iload_n 1, 1) := by decide +kernel
theorem dX6_checkRange_16 : decode cX6_checkRange 16 = .ok (.if_icmp .le 14, 3) := by decide +kernel
theorem dX6_checkRange_19 : decode cX6_checkRange 19 = .ok (.new 75, 3) := by decide +kernel
theorem dX6_checkRange_22 : decode cX6_checkRange 22 = .ok (.dup, 1) := by decide +kernel
theorem dX6_checkRange_23 : decode cX6_checkRange 23 = .ok (.ldc_w 313, 3) := by decide +kernel
theorem dX6_checkRange_26 : decode cX6_checkRange 26 = .ok (.invokespecial 79, 3) := by decide +kernel
theorem dX6_checkRange_29 : decode cX6_checkRange 29 = .ok (.athrow, 1) := by decide +kernel
theorem dX6_checkRange_30 : decode cX6_checkRange 30 = .ok (.return_, 1) := by decide +kernel
theorem dX6_isTargetLive_0 : decode cX6_isTargetLive 0 = .ok (.aload_n 0, 1) := by decide +kernel
theorem dX6_isTargetLive_1 : decode cX6_isTargetLive 1 = .ok (.getfield 54, 3) := by decide +kernel
theorem dX6_isTargetLive_4 : decode cX6_isTargetLive 4 = .ok (.bipush 116, 2) := by decide +kernel
theorem dX6_isTargetLive_6 : decode cX6_isTargetLive 6 = .ok (.if_icmp .eq 12, 3) := by decide +kernel
theorem dX6_isTargetLive_9 : decode cX6_isTargetLive 9 = .ok (.aload_n 0, 1) := by decide +kernel
theorem dX6_isTargetLive_10 : decode cX6_isTargetLive 10 = .ok (.getfield 54, 3) := by decide +kernel
theorem dX6_isTargetLive_13 : decode cX6_isTargetLive 13 = .ok (.bipush 100, 2) := by decide +kernel
theorem dX6_isTargetLive_15 : decode cX6_isTargetLive 15 = .ok (.if_icmp .ne 7, 3) := by decide +kernel
theorem dX6_isTargetLive_18 : decode cX6_isTargetLive 18 = .ok (.iconst 1, 1) := by decide +kernel
theorem dX6_isTargetLive_19 : decode cX6_isTargetLive 19 = .ok (.goto 4, 3) := by decide +kernel
theorem dX6_isTargetLive_22 : decode cX6_isTargetLive 22 = .ok (.iconst 0, 1) := by decide +kernel
theorem dX6_isTargetLive_23 : decode cX6_isTargetLive 23 = .ok (.ireturn, 1) := by decide +kernel
theorem dX6_isLive_0 : decode cX6_isLive 0 = .ok (.aload_n 0, 1) := by decide +kernel
theorem dX6_isLive_1 : decode cX6_isLive 1 = .ok (.invokevirtual 153, 3) := by decide +kernel
theorem dX6_isLive_4 : decode cX6_isLive 4 = .ok (.ifCond .eq 14, 3) := by decide +kernel
theorem dX6_isLive_7 : decode cX6_isLive 7 = .ok (.aload_n 0, 1) := by decide +kernel
theorem dX6_isLive_8 : decode cX6_isLive 8 = .ok (.getfield 26, 3) := by decide +kernel
theorem dX6_isLive_11 : decode cX6_isLive 11 = .ok (.iload_n 1, 1) := by decide +kernel
theorem dX6_isLive_12 : decode cX6_isLive 12 = .ok (.invokevirtual 277, 3) := by decide +kernel
theorem dX6_isLive_15 : decode cX6_isLive 15 = .ok (.goto 11, 3) := by decide +kernel
theorem dX6_isLive_18 : decode cX6_isLive 18 = .ok (.aload_n 0, 1) := by decide +kernel
theorem dX6_isLive_19 : decode cX6_isLive 19 = .ok (.getfield 19, 3) := by decide +kernel
theorem dX6_isLive_22 : decode cX6_isLive 22 = .ok (.iload_n 1, 1) := by decide +kernel
theorem dX6_isLive_23 : decode cX6_isLive 23 = .ok (.invokevirtual 264, 3) := by decide +kernel
theorem dX6_isLive_26 : decode cX6_isLive 26 = .ok (.ireturn, 1) := by decide +kernel
theorem dX6_isLogFull_0 : decode cX6_isLogFull 0 = .ok (.aload_n 0, 1) := by decide +kernel
theorem dX6_isLogFull_1 : decode cX6_isLogFull 1 = .ok (.getfield 54, 3) := by decide +kernel
theorem dX6_isLogFull_4 : decode cX6_isLogFull 4 = .ok (.bipush 105, 2) := by decide +kernel
theorem dX6_isLogFull_6 : decode cX6_isLogFull 6 = .ok (.if_icmp .ne 5, 3) := by decide +kernel
theorem dX6_isLogFull_9 : decode cX6_isLogFull 9 = .ok (.iconst 0, 1) := by decide +kernel
theorem dX6_isLogFull_10 : decode cX6_isLogFull 10 = .ok (.ireturn, 1) := by decide +kernel
theorem dX6_isLogFull_11 : decode cX6_isLogFull 11 = .ok (.aload_n 0, 1) := by decide +kernel
theorem dX6_isLogFull_12 : decode cX6_isLogFull 12 = .ok (.getfield 54, 3) := by decide +kernel
theorem dX6_isLogFull_15 : decode cX6_isLogFull 15 = .ok (.bipush 116, 2) := by decide +kernel
theorem dX6_isLogFull_17 : decode cX6_isLogFull 17 = .ok (.if_icmp .ne 13, 3) := by decide +kernel
theorem dX6_isLogFull_20 : decode cX6_isLogFull 20 = .ok (.aload_n 0, 1) := by decide +kernel
theorem dX6_isLogFull_21 : decode cX6_isLogFull 21 = .ok (.getfield 37, 3) := by decide +kernel
theorem dX6_isLogFull_24 : decode cX6_isLogFull 24 = .ok (.invokevirtual 315, 3) := by decide +kernel
theorem dX6_isLogFull_27 : decode cX6_isLogFull 27 = .ok (.goto 10, 3) := by decide +kernel
theorem dX6_isLogFull_30 : decode cX6_isLogFull 30 = .ok (.aload_n 0, 1) := by decide +kernel
theorem dX6_isLogFull_31 : decode cX6_isLogFull 31 = .ok (.getfield 33, 3) := by decide +kernel
theorem dX6_isLogFull_34 : decode cX6_isLogFull 34 = .ok (.invokevirtual 315, 3) := by decide +kernel
theorem dX6_isLogFull_37 : decode cX6_isLogFull 37 = .ok (.ireturn, 1) := by decide +kernel
theorem dX6_followUpTo_0 : decode cX6_followUpTo 0 = .ok (.iload_n 1, 1) := by decide +kernel
theorem dX6_followUpTo_1 : decode cX6_followUpTo 1 = .ok (.aload_n 0, 1) := by decide +kernel
theorem dX6_followUpTo_2 : decode cX6_followUpTo 2 = .ok (.getfield 33, 3) := by decide +kernel
theorem dX6_followUpTo_5 : decode cX6_followUpTo 5 = .ok (.invokevirtual 142, 3) := by decide +kernel
theorem dX6_followUpTo_8 : decode cX6_followUpTo 8 = .ok (.aload_n 0, 1) := by decide +kernel
theorem dX6_followUpTo_9 : decode cX6_followUpTo 9 = .ok (.getfield 58, 3) := by decide +kernel
theorem dX6_followUpTo_12 : decode cX6_followUpTo 12 = .ok (.isub, 1) := by decide +kernel
theorem dX6_followUpTo_13 : decode cX6_followUpTo 13 = .ok (.invokestatic 316, 3) := by decide +kernel
theorem dX6_followUpTo_16 : decode cX6_followUpTo 16 = .ok (.istore_n 2, 1) := by decide +kernel
theorem dX6_followUpTo_17 : decode cX6_followUpTo 17 = .ok (.iconst 0, 1) := by decide +kernel
theorem dX6_followUpTo_18 : decode cX6_followUpTo 18 = .ok (.istore_n 3, 1) := by decide +kernel
theorem dX6_followUpTo_19 : decode cX6_followUpTo 19 = .ok (.iload_n 3, 1) := by decide +kernel
theorem dX6_followUpTo_20 : decode cX6_followUpTo 20 = .ok (.iload_n 2, 1) := by decide +kernel
theorem dX6_followUpTo_21 : decode cX6_followUpTo 21 = .ok (.if_icmp .ge 13, 3) := by decide +kernel
theorem dX6_followUpTo_24 : decode cX6_followUpTo 24 = .ok (.aload_n 0, 1) := by decide +kernel
theorem dX6_followUpTo_25 : decode cX6_followUpTo 25 = .ok (.invokevirtual 183, 3) := by decide +kernel
theorem dX6_followUpTo_28 : decode cX6_followUpTo 28 = .ok (.iinc 3 1, 3) := by decide +kernel
theorem dX6_followUpTo_31 : decode cX6_followUpTo 31 = .ok (.goto (-12), 3) := by decide +kernel
theorem dX6_followUpTo_34 : decode cX6_followUpTo 34 = .ok (.iload_n 2, 1) := by decide +kernel
theorem dX6_followUpTo_35 : decode cX6_followUpTo 35 = .ok (.ireturn, 1) := by decide +kernel
theorem dX6_followNext_0 : decode cX6_followNext 0 = .ok (.aload_n 0, 1) := by decide +kernel
theorem dX6_followNext_1 : decode cX6_followNext 1 = .ok (.getfield 58, 3) := by decide +kernel
theorem dX6_followNext_4 : decode cX6_followNext 4 = .ok (.istore_n 1, 1) := by decide +kernel
theorem dX6_followNext_5 : decode cX6_followNext 5 = .ok (.aload_n 0, 1) := by decide +kernel
theorem dX6_followNext_6 : decode cX6_followNext 6 = .ok (.dup, 1) := by decide +kernel
theorem dX6_followNext_7 : decode cX6_followNext 7 = .ok (.getfield 58, 3) := by decide +kernel
theorem dX6_followNext_10 : decode cX6_followNext 10 = .ok (.iconst 1, 1) := by decide +kernel
theorem dX6_followNext_11 : decode cX6_followNext 11 = .ok (.iadd, 1) := by decide +kernel
theorem dX6_followNext_12 : decode cX6_followNext 12 = .ok (.putfield 58, 3) := by decide +kernel
theorem dX6_followNext_15 : decode cX6_followNext 15 = .ok (.aload_n 0, 1) := by decide +kernel
theorem dX6_followNext_16 : decode cX6_followNext 16 = .ok (.getfield 33, 3) := by decide +kernel
theorem dX6_followNext_19 : decode cX6_followNext 19 = .ok (.iload_n 1, 1) := by decide +kernel
theorem dX6_followNext_20 : decode cX6_followNext 20 = .ok (.invokevirtual 143, 3) := by decide +kernel
theorem dX6_followNext_23 : decode cX6_followNext 23 = .ok (.istore_n 2, 1) := by decide +kernel
theorem dX6_followNext_24 : decode cX6_followNext 24 = .ok (.iload_n 1, 1) := by decide +kernel
theorem dX6_followNext_25 : decode cX6_followNext 25 = .ok (.iconst 1, 1) := by decide +kernel
theorem dX6_followNext_26 : decode cX6_followNext 26 = .ok (.iadd, 1) := by decide +kernel
theorem dX6_followNext_27 : decode cX6_followNext 27 = .ok (.istore_n 3, 1) := by decide +kernel
theorem dX6_followNext_28 : decode cX6_followNext 28 = .ok (.aload_n 0, 1) := by decide +kernel
theorem dX6_followNext_29 : decode cX6_followNext 29 = .ok (.getfield 33, 3) := by decide +kernel
theorem dX6_followNext_32 : decode cX6_followNext 32 = .ok (.iload_n 1, 1) := by decide +kernel
theorem dX6_followNext_33 : decode cX6_followNext 33 = .ok (.invokevirtual 322, 3) := by decide +kernel
theorem dX6_followNext_36 : decode cX6_followNext 36 = .ok (.ifCond .ne 31, 3) := by decide +kernel
theorem dX6_followNext_39 : decode cX6_followNext 39 = .ok (.aload_n 0, 1) := by decide +kernel
theorem dX6_followNext_40 : decode cX6_followNext 40 = .ok (.iload_n 2, 1) := by decide +kernel
theorem dX6_followNext_41 : decode cX6_followNext 41 = .ok (.aload_n 0, 1) := by decide +kernel
theorem dX6_followNext_42 : decode cX6_followNext 42 = .ok (.getfield 33, 3) := by decide +kernel
theorem dX6_followNext_45 : decode cX6_followNext 45 = .ok (.iload_n 1, 1) := by decide +kernel
theorem dX6_followNext_46 : decode cX6_followNext 46 = .ok (.iconst 0, 1) := by decide +kernel
theorem dX6_followNext_47 : decode cX6_followNext 47 = .ok (.invokevirtual 325, 3) := by decide +kernel
theorem dX6_followNext_50 : decode cX6_followNext 50 = .ok (.aload_n 0, 1) := by decide +kernel
theorem dX6_followNext_51 : decode cX6_followNext 51 = .ok (.getfield 33, 3) := by decide +kernel
theorem dX6_followNext_54 : decode cX6_followNext 54 = .ok (.iload_n 1, 1) := by decide +kernel
theorem dX6_followNext_55 : decode cX6_followNext 55 = .ok (.iconst 1, 1) := by decide +kernel
theorem dX6_followNext_56 : decode cX6_followNext 56 = .ok (.invokevirtual 325, 3) := by decide +kernel
theorem dX6_followNext_59 : decode cX6_followNext 59 = .ok (.iload_n 3, 1) := by decide +kernel
theorem dX6_followNext_60 : decode cX6_followNext 60 = .ok (.invokevirtual 245, 3) := by decide +kernel
theorem dX6_followNext_63 : decode cX6_followNext 63 = .ok (.pop, 1) := by decide +kernel
theorem dX6_followNext_64 : decode cX6_followNext 64 = .ok (.goto 24, 3) := by decide +kernel
theorem dX6_followNext_67 : decode cX6_followNext 67 = .ok (.aload_n 0, 1) := by decide +kernel
theorem dX6_followNext_68 : decode cX6_followNext 68 = .ok (.getfield 26, 3) := by decide +kernel
theorem dX6_followNext_71 : decode cX6_followNext 71 = .ok (.iload_n 2, 1) := by decide +kernel
theorem dX6_followNext_72 : decode cX6_followNext 72 = .ok (.iload_n 3, 1) := by decide +kernel
theorem dX6_followNext_73 : decode cX6_followNext 73 = .ok (.invokevirtual 326, 3) := by decide +kernel
theorem dX6_followNext_76 : decode cX6_followNext 76 = .ok (.ifCond .eq 12, 3) := by decide +kernel
theorem dX6_followNext_79 : decode cX6_followNext 79 = .ok (.aload_n 0, 1) := by decide +kernel
theorem dX6_followNext_80 : decode cX6_followNext 80 = .ok (.getfield 26, 3) := by decide +kernel
theorem dX6_followNext_83 : decode cX6_followNext 83 = .ok (.iload_n 2, 1) := by decide +kernel
theorem dX6_followNext_84 : decode cX6_followNext 84 = .ok (.iload_n 3, 1) := by decide +kernel
theorem dX6_followNext_85 : decode cX6_followNext 85 = .ok (.invokevirtual 194, 3) := by decide +kernel
theorem dX6_followNext_88 : decode cX6_followNext 88 = .ok (.return_, 1) := by decide +kernel
theorem dX6_putRowDown_0 : decode cX6_putRowDown 0 = .ok (.aload_n 0, 1) := by decide +kernel
theorem dX6_putRowDown_1 : decode cX6_putRowDown 1 = .ok (.getfield 26, 3) := by decide +kernel
theorem dX6_putRowDown_4 : decode cX6_putRowDown 4 = .ok (.iload_n 1, 1) := by decide +kernel
theorem dX6_putRowDown_5 : decode cX6_putRowDown 5 = .ok (.iload 4, 2) := by decide +kernel
theorem dX6_putRowDown_7 : decode cX6_putRowDown 7 = .ok (.invokevirtual 326, 3) := by decide +kernel
theorem dX6_putRowDown_10 : decode cX6_putRowDown 10 = .ok (.ifCond .ne 5, 3) := by decide +kernel
theorem dX6_putRowDown_13 : decode cX6_putRowDown 13 = .ok (.iconst 0, 1) := by decide +kernel
theorem dX6_putRowDown_14 : decode cX6_putRowDown 14 = .ok (.ireturn, 1) := by decide +kernel
theorem dX6_putRowDown_15 : decode cX6_putRowDown 15 = .ok (.aload_n 0, 1) := by decide +kernel
theorem dX6_putRowDown_16 : decode cX6_putRowDown 16 = .ok (.getfield 50, 3) := by decide +kernel
theorem dX6_putRowDown_19 : decode cX6_putRowDown 19 = .ok (.iload_n 2, 1) := by decide +kernel
theorem dX6_putRowDown_20 : decode cX6_putRowDown 20 = .ok (.iload_n 3, 1) := by decide +kernel
theorem dX6_putRowDown_21 : decode cX6_putRowDown 21 = .ok (.invokevirtual 329, 3) := by decide +kernel
theorem dX6_putRowDown_24 : decode cX6_putRowDown 24 = .ok (.aload_n 0, 1) := by decide +kernel
theorem dX6_putRowDown_25 : decode cX6_putRowDown 25 = .ok (.getfield 10, 3) := by decide +kernel
theorem dX6_putRowDown_28 : decode cX6_putRowDown 28 = .ok (.aload_n 0, 1) := by decide +kernel
theorem dX6_putRowDown_29 : decode cX6_putRowDown 29 = .ok (.getfield 50, 3) := by decide +kernel
theorem dX6_putRowDown_32 : decode cX6_putRowDown 32 = .ok (.invokevirtual 332, 3) := by decide +kernel
theorem dX6_putRowDown_35 : decode cX6_putRowDown 35 = .ok (.ifCond .eq 32, 3) := by decide +kernel
theorem dX6_putRowDown_38 : decode cX6_putRowDown 38 = .ok (.aload_n 0, 1) := by decide +kernel
theorem dX6_putRowDown_39 : decode cX6_putRowDown 39 = .ok (.getfield 26, 3) := by decide +kernel
theorem dX6_putRowDown_42 : decode cX6_putRowDown 42 = .ok (.iload_n 1, 1) := by decide +kernel
theorem dX6_putRowDown_43 : decode cX6_putRowDown 43 = .ok (.aload_n 0, 1) := by decide +kernel
theorem dX6_putRowDown_44 : decode cX6_putRowDown 44 = .ok (.getfield 50, 3) := by decide +kernel
theorem dX6_putRowDown_47 : decode cX6_putRowDown 47 = .ok (.iconst 0, 1) := by decide +kernel
theorem dX6_putRowDown_48 : decode cX6_putRowDown 48 = .ok (.invokevirtual 274, 3) := by decide +kernel
theorem dX6_putRowDown_51 : decode cX6_putRowDown 51 = .ok (.aload_n 0, 1) := by decide +kernel
theorem dX6_putRowDown_52 : decode cX6_putRowDown 52 = .ok (.getfield 50, 3) := by decide +kernel
theorem dX6_putRowDown_55 : decode cX6_putRowDown 55 = .ok (.iconst 1, 1) := by decide +kernel
theorem dX6_putRowDown_56 : decode cX6_putRowDown 56 = .ok (.invokevirtual 274, 3) := by decide +kernel
theorem dX6_putRowDown_59 : decode cX6_putRowDown 59 = .ok (.iload 4, 2) := by decide +kernel
theorem dX6_putRowDown_61 : decode cX6_putRowDown 61 = .ok (.invokevirtual 172, 3) := by decide +kernel
theorem dX6_putRowDown_64 : decode cX6_putRowDown 64 = .ok (.goto 13, 3) := by decide +kernel
theorem dX6_putRowDown_67 : decode cX6_putRowDown 67 = .ok (.aload_n 0, 1) := by decide +kernel
theorem dX6_putRowDown_68 : decode cX6_putRowDown 68 = .ok (.getfield 26, 3) := by decide +kernel
theorem dX6_putRowDown_71 : decode cX6_putRowDown 71 = .ok (.iload_n 1, 1) := by decide +kernel
theorem dX6_putRowDown_72 : decode cX6_putRowDown 72 = .ok (.iload 4, 2) := by decide +kernel
theorem dX6_putRowDown_74 : decode cX6_putRowDown 74 = .ok (.invokevirtual 336, 3) := by decide +kernel
theorem dX6_putRowDown_77 : decode cX6_putRowDown 77 = .ok (.iconst 1, 1) := by decide +kernel
theorem dX6_putRowDown_78 : decode cX6_putRowDown 78 = .ok (.ireturn, 1) := by decide +kernel
theorem dX6_turnRow_0 : decode cX6_turnRow 0 = .ok (.aload_n 0, 1) := by decide +kernel
theorem dX6_turnRow_1 : decode cX6_turnRow 1 = .ok (.getfield 19, 3) := by decide +kernel
theorem dX6_turnRow_4 : decode cX6_turnRow 4 = .ok (.iload_n 1, 1) := by decide +kernel
theorem dX6_turnRow_5 : decode cX6_turnRow 5 = .ok (.invokevirtual 264, 3) := by decide +kernel
theorem dX6_turnRow_8 : decode cX6_turnRow 8 = .ok (.ifCond .ne 5, 3) := by decide +kernel
theorem dX6_turnRow_11 : decode cX6_turnRow 11 = .ok (.iconst 0, 1) := by decide +kernel
theorem dX6_turnRow_12 : decode cX6_turnRow 12 = .ok (.ireturn, 1) := by decide +kernel
theorem dX6_turnRow_13 : decode cX6_turnRow 13 = .ok (.aload_n 0, 1) := by decide +kernel
theorem dX6_turnRow_14 : decode cX6_turnRow 14 = .ok (.getfield 50, 3) := by decide +kernel
theorem dX6_turnRow_17 : decode cX6_turnRow 17 = .ok (.aload_n 0, 1) := by decide +kernel
theorem dX6_turnRow_18 : decode cX6_turnRow 18 = .ok (.getfield 19, 3) := by decide +kernel
theorem dX6_turnRow_21 : decode cX6_turnRow 21 = .ok (.iload_n 1, 1) := by decide +kernel
theorem dX6_turnRow_22 : decode cX6_turnRow 22 = .ok (.iconst 0, 1) := by decide +kernel
theorem dX6_turnRow_23 : decode cX6_turnRow 23 = .ok (.invokevirtual 213, 3) := by decide +kernel
theorem dX6_turnRow_26 : decode cX6_turnRow 26 = .ok (.aload_n 0, 1) := by decide +kernel
theorem dX6_turnRow_27 : decode cX6_turnRow 27 = .ok (.getfield 19, 3) := by decide +kernel
theorem dX6_turnRow_30 : decode cX6_turnRow 30 = .ok (.iload_n 1, 1) := by decide +kernel
theorem dX6_turnRow_31 : decode cX6_turnRow 31 = .ok (.iconst 1, 1) := by decide +kernel
theorem dX6_turnRow_32 : decode cX6_turnRow 32 = .ok (.invokevirtual 213, 3) := by decide +kernel
theorem dX6_turnRow_35 : decode cX6_turnRow 35 = .ok (.invokevirtual 329, 3) := by decide +kernel
theorem dX6_turnRow_38 : decode cX6_turnRow 38 = .ok (.aload_n 0, 1) := by decide +kernel
theorem dX6_turnRow_39 : decode cX6_turnRow 39 = .ok (.getfield 10, 3) := by decide +kernel
theorem dX6_turnRow_42 : decode cX6_turnRow 42 = .ok (.aload_n 0, 1) := by decide +kernel
theorem dX6_turnRow_43 : decode cX6_turnRow 43 = .ok (.getfield 50, 3) := by decide +kernel
theorem dX6_turnRow_46 : decode cX6_turnRow 46 = .ok (.invokevirtual 332, 3) := by decide +kernel
theorem dX6_turnRow_49 : decode cX6_turnRow 49 = .ok (.ireturn, 1) := by decide +kernel
theorem dX6_turnEntryBack_0 : decode cX6_turnEntryBack 0 = .ok (.aload_n 0, 1) := by decide +kernel
theorem dX6_turnEntryBack_1 : decode cX6_turnEntryBack 1 = .ok (.getfield 26, 3) := by decide +kernel
theorem dX6_turnEntryBack_4 : decode cX6_turnEntryBack 4 = .ok (.iload_n 1, 1) := by decide +kernel
theorem dX6_turnEntryBack_5 : decode cX6_turnEntryBack 5 = .ok (.invokevirtual 277, 3) := by decide +kernel
theorem dX6_turnEntryBack_8 : decode cX6_turnEntryBack 8 = .ok (.ifCond .ne 5, 3) := by decide +kernel
theorem dX6_turnEntryBack_11 : decode cX6_turnEntryBack 11 = .ok (.iconst 0, 1) := by decide +kernel
theorem dX6_turnEntryBack_12 : decode cX6_turnEntryBack 12 = .ok (.ireturn, 1) := by decide +kernel
theorem dX6_turnEntryBack_13 : decode cX6_turnEntryBack 13 = .ok (.aload_n 0, 1) := by decide +kernel
theorem dX6_turnEntryBack_14 : decode cX6_turnEntryBack 14 = .ok (.getfield 50, 3) := by decide +kernel
theorem dX6_turnEntryBack_17 : decode cX6_turnEntryBack 17 = .ok (.aload_n 0, 1) := by decide +kernel
theorem dX6_turnEntryBack_18 : decode cX6_turnEntryBack 18 = .ok (.getfield 26, 3) := by decide +kernel
theorem dX6_turnEntryBack_21 : decode cX6_turnEntryBack 21 = .ok (.iload_n 1, 1) := by decide +kernel
theorem dX6_turnEntryBack_22 : decode cX6_turnEntryBack 22 = .ok (.iconst 0, 1) := by decide +kernel
theorem dX6_turnEntryBack_23 : decode cX6_turnEntryBack 23 = .ok (.invokevirtual 209, 3) := by decide +kernel
theorem dX6_turnEntryBack_26 : decode cX6_turnEntryBack 26 = .ok (.aload_n 0, 1) := by decide +kernel
theorem dX6_turnEntryBack_27 : decode cX6_turnEntryBack 27 = .ok (.getfield 26, 3) := by decide +kernel
theorem dX6_turnEntryBack_30 : decode cX6_turnEntryBack 30 = .ok (.iload_n 1, 1) := by decide +kernel
theorem dX6_turnEntryBack_31 : decode cX6_turnEntryBack 31 = .ok (.iconst 1, 1) := by decide +kernel
theorem dX6_turnEntryBack_32 : decode cX6_turnEntryBack 32 = .ok (.invokevirtual 209, 3) := by decide +kernel
theorem dX6_turnEntryBack_35 : decode cX6_turnEntryBack 35 = .ok (.invokevirtual 329, 3) := by decide +kernel
theorem dX6_turnEntryBack_38 : decode cX6_turnEntryBack 38 = .ok (.aload_n 0, 1) := by decide +kernel
theorem dX6_turnEntryBack_39 : decode cX6_turnEntryBack 39 = .ok (.getfield 10, 3) := by decide +kernel
theorem dX6_turnEntryBack_42 : decode cX6_turnEntryBack 42 = .ok (.aload_n 0, 1) := by decide +kernel
theorem dX6_turnEntryBack_43 : decode cX6_turnEntryBack 43 = .ok (.getfield 50, 3) := by decide +kernel
theorem dX6_turnEntryBack_46 : decode cX6_turnEntryBack 46 = .ok (.invokevirtual 339, 3) := by decide +kernel
theorem dX6_turnEntryBack_49 : decode cX6_turnEntryBack 49 = .ok (.ireturn, 1) := by decide +kernel
theorem dX6_canComeBack_0 : decode cX6_canComeBack 0 = .ok (.aload_n 0, 1) := by decide +kernel
theorem dX6_canComeBack_1 : decode cX6_canComeBack 1 = .ok (.getfield 37, 3) := by decide +kernel
theorem dX6_canComeBack_4 : decode cX6_canComeBack 4 = .ok (.invokevirtual 142, 3) := by decide +kernel
theorem dX6_canComeBack_7 : decode cX6_canComeBack 7 = .ok (.istore_n 1, 1) := by decide +kernel
theorem dX6_canComeBack_8 : decode cX6_canComeBack 8 = .ok (.iconst 0, 1) := by decide +kernel
theorem dX6_canComeBack_9 : decode cX6_canComeBack 9 = .ok (.istore_n 2, 1) := by decide +kernel
theorem dX6_canComeBack_10 : decode cX6_canComeBack 10 = .ok (.iload_n 2, 1) := by decide +kernel
theorem dX6_canComeBack_11 : decode cX6_canComeBack 11 = .ok (.iload_n 1, 1) := by decide +kernel
theorem dX6_canComeBack_12 : decode cX6_canComeBack 12 = .ok (.if_icmp .ge 39, 3) := by decide +kernel
theorem dX6_canComeBack_15 : decode cX6_canComeBack 15 = .ok (.aload_n 0, 1) := by decide +kernel
theorem dX6_canComeBack_16 : decode cX6_canComeBack 16 = .ok (.getfield 37, 3) := by decide +kernel
theorem dX6_canComeBack_19 : decode cX6_canComeBack 19 = .ok (.iload_n 2, 1) := by decide +kernel
theorem dX6_canComeBack_20 : decode cX6_canComeBack 20 = .ok (.invokevirtual 143, 3) := by decide +kernel
theorem dX6_canComeBack_23 : decode cX6_canComeBack 23 = .ok (.istore_n 3, 1) := by decide +kernel
theorem dX6_canComeBack_24 : decode cX6_canComeBack 24 = .ok (.aload_n 0, 1) := by decide +kernel
theorem dX6_canComeBack_25 : decode cX6_canComeBack 25 = .ok (.getfield 26, 3) := by decide +kernel
theorem dX6_canComeBack_28 : decode cX6_canComeBack 28 = .ok (.iload_n 3, 1) := by decide +kernel
theorem dX6_canComeBack_29 : decode cX6_canComeBack 29 = .ok (.invokevirtual 277, 3) := by decide +kernel
theorem dX6_canComeBack_32 : decode cX6_canComeBack 32 = .ok (.ifCond .eq 13, 3) := by decide +kernel
theorem dX6_canComeBack_35 : decode cX6_canComeBack 35 = .ok (.aload_n 0, 1) := by decide +kernel
theorem dX6_canComeBack_36 : decode cX6_canComeBack 36 = .ok (.iload_n 3, 1) := by decide +kernel
theorem dX6_canComeBack_37 : decode cX6_canComeBack 37 = .ok (.invokevirtual 282, 3) := by decide +kernel
theorem dX6_canComeBack_40 : decode cX6_canComeBack 40 = .ok (.ifCond .ne 5, 3) := by decide +kernel
theorem dX6_canComeBack_43 : decode cX6_canComeBack 43 = .ok (.iconst 0, 1) := by decide +kernel
theorem dX6_canComeBack_44 : decode cX6_canComeBack 44 = .ok (.ireturn, 1) := by decide +kernel
theorem dX6_canComeBack_45 : decode cX6_canComeBack 45 = .ok (.iinc 2 1, 3) := by decide +kernel
theorem dX6_canComeBack_48 : decode cX6_canComeBack 48 = .ok (.goto (-38), 3) := by decide +kernel
theorem dX6_canComeBack_51 : decode cX6_canComeBack 51 = .ok (.iconst 1, 1) := by decide +kernel
theorem dX6_canComeBack_52 : decode cX6_canComeBack 52 = .ok (.ireturn, 1) := by decide +kernel
theorem dX6_comeBack_0 : decode cX6_comeBack 0 = .ok (.aload_n 0, 1) := by decide +kernel
theorem dX6_comeBack_1 : decode cX6_comeBack 1 = .ok (.getfield 26, 3) := by decide +kernel
theorem dX6_comeBack_4 : decode cX6_comeBack 4 = .ok (.iload_n 1, 1) := by decide +kernel
theorem dX6_comeBack_5 : decode cX6_comeBack 5 = .ok (.invokevirtual 277, 3) := by decide +kernel
theorem dX6_comeBack_8 : decode cX6_comeBack 8 = .ok (.ifCond .ne 22, 3) := by decide +kernel
theorem dX6_comeBack_11 : decode cX6_comeBack 11 = .ok (.aload_n 0, 1) := by decide +kernel
theorem dX6_comeBack_12 : decode cX6_comeBack 12 = .ok (.getfield 19, 3) := by decide +kernel
theorem dX6_comeBack_15 : decode cX6_comeBack 15 = .ok (.iload_n 1, 1) := by decide +kernel
theorem dX6_comeBack_16 : decode cX6_comeBack 16 = .ok (.invokevirtual 264, 3) := by decide +kernel
theorem dX6_comeBack_19 : decode cX6_comeBack 19 = .ok (.istore_n 2, 1) := by decide +kernel
theorem dX6_comeBack_20 : decode cX6_comeBack 20 = .ok (.aload_n 0, 1) := by decide +kernel
theorem dX6_comeBack_21 : decode cX6_comeBack 21 = .ok (.getfield 19, 3) := by decide +kernel
theorem dX6_comeBack_24 : decode cX6_comeBack 24 = .ok (.iload_n 1, 1) := by decide +kernel
theorem dX6_comeBack_25 : decode cX6_comeBack 25 = .ok (.invokevirtual 201, 3) := by decide +kernel
theorem dX6_comeBack_28 : decode cX6_comeBack 28 = .ok (.iload_n 2, 1) := by decide +kernel
theorem dX6_comeBack_29 : decode cX6_comeBack 29 = .ok (.ireturn, 1) := by decide +kernel
theorem dX6_comeBack_30 : decode cX6_comeBack 30 = .ok (.aload_n 0, 1) := by decide +kernel
theorem dX6_comeBack_31 : decode cX6_comeBack 31 = .ok (.iload_n 1, 1) := by decide +kernel
theorem dX6_comeBack_32 : decode cX6_comeBack 32 = .ok (.invokevirtual 282, 3) := by decide +kernel
theorem dX6_comeBack_35 : decode cX6_comeBack 35 = .ok (.ifCond .ne 5, 3) := by decide +kernel
theorem dX6_comeBack_38 : decode cX6_comeBack 38 = .ok (.iconst 0, 1) := by decide +kernel
theorem dX6_comeBack_39 : decode cX6_comeBack 39 = .ok (.ireturn, 1) := by decide +kernel
theorem dX6_comeBack_40 : decode cX6_comeBack 40 = .ok (.aload_n 0, 1) := by decide +kernel
theorem dX6_comeBack_41 : decode cX6_comeBack 41 = .ok (.getfield 50, 3) := by decide +kernel
theorem dX6_comeBack_44 : decode cX6_comeBack 44 = .ok (.iconst 0, 1) := by decide +kernel
theorem dX6_comeBack_45 : decode cX6_comeBack 45 = .ok (.invokevirtual 274, 3) := by decide +kernel
theorem dX6_comeBack_48 : decode cX6_comeBack 48 = .ok (.istore_n 2, 1) := by decide +kernel
theorem dX6_comeBack_49 : decode cX6_comeBack 49 = .ok (.aload_n 0, 1) := by decide +kernel
theorem dX6_comeBack_50 : decode cX6_comeBack 50 = .ok (.getfield 50, 3) := by decide +kernel
theorem dX6_comeBack_53 : decode cX6_comeBack 53 = .ok (.iconst 1, 1) := by decide +kernel
theorem dX6_comeBack_54 : decode cX6_comeBack 54 = .ok (.invokevirtual 274, 3) := by decide +kernel
theorem dX6_comeBack_57 : decode cX6_comeBack 57 = .ok (.istore_n 3, 1) := by decide +kernel
theorem dX6_comeBack_58 : decode cX6_comeBack 58 = .ok (.aload_n 0, 1) := by decide +kernel
theorem dX6_comeBack_59 : decode cX6_comeBack 59 = .ok (.getfield 19, 3) := by decide +kernel
theorem dX6_comeBack_62 : decode cX6_comeBack 62 = .ok (.iload_n 1, 1) := by decide +kernel
theorem dX6_comeBack_63 : decode cX6_comeBack 63 = .ok (.iload_n 2, 1) := by decide +kernel
theorem dX6_comeBack_64 : decode cX6_comeBack 64 = .ok (.iload_n 3, 1) := by decide +kernel
theorem dX6_comeBack_65 : decode cX6_comeBack 65 = .ok (.invokevirtual 342, 3) := by decide +kernel
theorem dX6_comeBack_68 : decode cX6_comeBack 68 = .ok (.istore 4, 2) := by decide +kernel
theorem dX6_comeBack_70 : decode cX6_comeBack 70 = .ok (.aload_n 0, 1) := by decide +kernel
theorem dX6_comeBack_71 : decode cX6_comeBack 71 = .ok (.getfield 19, 3) := by decide +kernel
theorem dX6_comeBack_74 : decode cX6_comeBack 74 = .ok (.iload_n 1, 1) := by decide +kernel
theorem dX6_comeBack_75 : decode cX6_comeBack 75 = .ok (.iload_n 2, 1) := by decide +kernel
theorem dX6_comeBack_76 : decode cX6_comeBack 76 = .ok (.iload_n 3, 1) := by decide +kernel
theorem dX6_comeBack_77 : decode cX6_comeBack 77 = .ok (.invokevirtual 180, 3) := by decide +kernel
theorem dX6_comeBack_80 : decode cX6_comeBack 80 = .ok (.iload 4, 2) := by decide +kernel
theorem dX6_comeBack_82 : decode cX6_comeBack 82 = .ok (.ifCond .ne 7, 3) := by decide +kernel
theorem dX6_comeBack_85 : decode cX6_comeBack 85 = .ok (.iconst 1, 1) := by decide +kernel
theorem dX6_comeBack_86 : decode cX6_comeBack 86 = .ok (.goto 4, 3) := by decide +kernel
theorem dX6_comeBack_89 : decode cX6_comeBack 89 = .ok (.iconst 0, 1) := by decide +kernel
theorem dX6_comeBack_90 : decode cX6_comeBack 90 = .ok (.ireturn, 1) := by decide +kernel
theorem dX6_stateOf_0 : decode cX6_stateOf 0 = .ok (.aload_n 0, 1) := by decide +kernel
theorem dX6_stateOf_1 : decode cX6_stateOf 1 = .ok (.getfield 26, 3) := by decide +kernel
theorem dX6_stateOf_4 : decode cX6_stateOf 4 = .ok (.iload_n 1, 1) := by decide +kernel
theorem dX6_stateOf_5 : decode cX6_stateOf 5 = .ok (.invokevirtual 346, 3) := by decide +kernel
theorem dX6_stateOf_8 : decode cX6_stateOf 8 = .ok (.ifCond .eq 6, 3) := by decide +kernel
theorem dX6_stateOf_11 : decode cX6_stateOf 11 = .ok (.bipush 97, 2) := by decide +kernel
theorem dX6_stateOf_13 : decode cX6_stateOf 13 = .ok (.ireturn, 1) := by decide +kernel
theorem dX6_stateOf_14 : decode cX6_stateOf 14 = .ok (.aload_n 0, 1) := by decide +kernel
theorem dX6_stateOf_15 : decode cX6_stateOf 15 = .ok (.getfield 26, 3) := by decide +kernel
theorem dX6_stateOf_18 : decode cX6_stateOf 18 = .ok (.iload_n 1, 1) := by decide +kernel
theorem dX6_stateOf_19 : decode cX6_stateOf 19 = .ok (.invokevirtual 277, 3) := by decide +kernel
theorem dX6_stateOf_22 : decode cX6_stateOf 22 = .ok (.istore_n 2, 1) := by decide +kernel
theorem dX6_stateOf_23 : decode cX6_stateOf 23 = .ok (.aload_n 0, 1) := by decide +kernel
theorem dX6_stateOf_24 : decode cX6_stateOf 24 = .ok (.getfield 19, 3) := by decide +kernel
theorem dX6_stateOf_27 : decode cX6_stateOf 27 = .ok (.iload_n 1, 1) := by decide +kernel
theorem dX6_stateOf_28 : decode cX6_stateOf 28 = .ok (.invokevirtual 264, 3) := by decide +kernel
theorem dX6_stateOf_31 : decode cX6_stateOf 31 = .ok (.ifCond .ne 15, 3) := by decide +kernel
theorem dX6_stateOf_34 : decode cX6_stateOf 34 = .ok (.iload_n 2, 1) := by decide +kernel
theorem dX6_stateOf_35 : decode cX6_stateOf 35 = .ok (.ifCond .eq 8, 3) := by decide +kernel
theorem dX6_stateOf_38 : decode cX6_stateOf 38 = .ok (.bipush 116, 2) := by decide +kernel
theorem dX6_stateOf_40 : decode cX6_stateOf 40 = .ok (.goto 5, 3) := by decide +kernel
theorem dX6_stateOf_43 : decode cX6_stateOf 43 = .ok (.bipush 110, 2) := by decide +kernel
theorem dX6_stateOf_45 : decode cX6_stateOf 45 = .ok (.ireturn, 1) := by decide +kernel
theorem dX6_stateOf_46 : decode cX6_stateOf 46 = .ok (.iload_n 2, 1) := by decide +kernel
theorem dX6_stateOf_47 : decode cX6_stateOf 47 = .ok (.ifCond .ne 6, 3) := by decide +kernel
theorem dX6_stateOf_50 : decode cX6_stateOf 50 = .ok (.bipush 115, 2) := by decide +kernel
theorem dX6_stateOf_52 : decode cX6_stateOf 52 = .ok (.ireturn, 1) := by decide +kernel
theorem dX6_stateOf_53 : decode cX6_stateOf 53 = .ok (.aload_n 0, 1) := by decide +kernel
theorem dX6_stateOf_54 : decode cX6_stateOf 54 = .ok (.iload_n 1, 1) := by decide +kernel
theorem dX6_stateOf_55 : decode cX6_stateOf 55 = .ok (.invokevirtual 269, 3) := by decide +kernel
theorem dX6_stateOf_58 : decode cX6_stateOf 58 = .ok (.ifCond .eq 16, 3) := by decide +kernel
theorem dX6_stateOf_61 : decode cX6_stateOf 61 = .ok (.aload_n 0, 1) := by decide +kernel
theorem dX6_stateOf_62 : decode cX6_stateOf 62 = .ok (.iload_n 1, 1) := by decide +kernel
theorem dX6_stateOf_63 : decode cX6_stateOf 63 = .ok (.invokevirtual 349, 3) := by decide +kernel
theorem dX6_stateOf_66 : decode cX6_stateOf 66 = .ok (.ifCond .eq 8, 3) := by decide +kernel
theorem dX6_stateOf_69 : decode cX6_stateOf 69 = .ok (.bipush 101, 2) := by decide +kernel
theorem dX6_stateOf_71 : decode cX6_stateOf 71 = .ok (.goto 5, 3) := by decide +kernel
theorem dX6_stateOf_74 : decode cX6_stateOf 74 = .ok (.bipush 117, 2) := by decide +kernel
theorem dX6_stateOf_76 : decode cX6_stateOf 76 = .ok (.ireturn, 1) := by decide +kernel
theorem dX6_isEntryAsCouple_0 : decode cX6_isEntryAsCouple 0 = .ok (.aload_n 0, 1) := by decide +kernel
theorem dX6_isEntryAsCouple_1 : decode cX6_isEntryAsCouple 1 = .ok (.getfield 26, 3) := by decide +kernel
theorem dX6_isEntryAsCouple_4 : decode cX6_isEntryAsCouple 4 = .ok (.iload_n 1, 1) := by decide +kernel
theorem dX6_isEntryAsCouple_5 : decode cX6_isEntryAsCouple 5 = .ok (.iconst 0, 1) := by decide +kernel
theorem dX6_isEntryAsCouple_6 : decode cX6_isEntryAsCouple 6 = .ok (.invokevirtual 209, 3) := by decide +kernel
theorem dX6_isEntryAsCouple_9 : decode cX6_isEntryAsCouple 9 = .ok (.aload_n 0, 1) := by decide +kernel
theorem dX6_isEntryAsCouple_10 : decode cX6_isEntryAsCouple 10 = .ok (.getfield 50, 3) := by decide +kernel
theorem dX6_isEntryAsCouple_13 : decode cX6_isEntryAsCouple 13 = .ok (.iconst 0, 1) := by decide +kernel
theorem dX6_isEntryAsCouple_14 : decode cX6_isEntryAsCouple 14 = .ok (.invokevirtual 274, 3) := by decide +kernel
theorem dX6_isEntryAsCouple_17 : decode cX6_isEntryAsCouple 17 = .ok (.if_icmp .ne 27, 3) := by decide +kernel
theorem dX6_isEntryAsCouple_20 : decode cX6_isEntryAsCouple 20 = .ok (.aload_n 0, 1) := by decide +kernel
theorem dX6_isEntryAsCouple_21 : decode cX6_isEntryAsCouple 21 = .ok (.getfield 26, 3) := by decide +kernel
theorem dX6_isEntryAsCouple_24 : decode cX6_isEntryAsCouple 24 = .ok (.iload_n 1, 1) := by decide +kernel
theorem dX6_isEntryAsCouple_25 : decode cX6_isEntryAsCouple 25 = .ok (.iconst 1, 1) := by decide +kernel
theorem dX6_isEntryAsCouple_26 : decode cX6_isEntryAsCouple 26 = .ok (.invokevirtual 209, 3) := by decide +kernel
theorem dX6_isEntryAsCouple_29 : decode cX6_isEntryAsCouple 29 = .ok (.aload_n 0, 1) := by decide +kernel
theorem dX6_isEntryAsCouple_30 : decode cX6_isEntryAsCouple 30 = .ok (.getfield 50, 3) := by decide +kernel
theorem dX6_isEntryAsCouple_33 : decode cX6_isEntryAsCouple 33 = .ok (.iconst 1, 1) := by decide +kernel
theorem dX6_isEntryAsCouple_34 : decode cX6_isEntryAsCouple 34 = .ok (.invokevirtual 274, 3) := by decide +kernel
theorem dX6_isEntryAsCouple_37 : decode cX6_isEntryAsCouple 37 = .ok (.if_icmp .ne 7, 3) := by decide +kernel
theorem dX6_isEntryAsCouple_40 : decode cX6_isEntryAsCouple 40 = .ok (.iconst 1, 1) := by decide +kernel
theorem dX6_isEntryAsCouple_41 : decode cX6_isEntryAsCouple 41 = .ok (.goto 4, 3) := by decide +kernel
theorem dX6_isEntryAsCouple_44 : decode cX6_isEntryAsCouple 44 = .ok (.iconst 0, 1) := by decide +kernel
theorem dX6_isEntryAsCouple_45 : decode cX6_isEntryAsCouple 45 = .ok (.ireturn, 1) := by decide +kernel
theorem dX6_countMoved_0 : decode cX6_countMoved 0 = .ok (.iconst 0, 1) := by decide +kernel
theorem dX6_countMoved_1 : decode cX6_countMoved 1 = .ok (.istore_n 1, 1) := by decide +kernel
theorem dX6_countMoved_2 : decode cX6_countMoved 2 = .ok (.iconst 0, 1) := by decide +kernel
theorem dX6_countMoved_3 : decode cX6_countMoved 3 = .ok (.istore_n 2, 1) := by decide +kernel
theorem dX6_countMoved_4 : decode cX6_countMoved 4 = .ok (.iload_n 2, 1) := by decide +kernel
theorem dX6_countMoved_5 : decode cX6_countMoved 5 = .ok (.bipush 40, 2) := by decide +kernel
theorem dX6_countMoved_7 : decode cX6_countMoved 7 = .ok (.if_icmp .ge 22, 3) := by decide +kernel
theorem dX6_countMoved_10 : decode cX6_countMoved 10 = .ok (.aload_n 0, 1) := by decide +kernel
theorem dX6_countMoved_11 : decode cX6_countMoved 11 = .ok (.iload_n 2, 1) := by decide +kernel
theorem dX6_countMoved_12 : decode cX6_countMoved 12 = .ok (.invokevirtual 254, 3) := by decide +kernel
theorem dX6_countMoved_15 : decode cX6_countMoved 15 = .ok (.bipush 101, 2) := by decide +kernel
theorem dX6_countMoved_17 : decode cX6_countMoved 17 = .ok (.if_icmp .ne 6, 3) := by decide +kernel
theorem dX6_countMoved_20 : decode cX6_countMoved 20 = .ok (.iinc 1 1, 3) := by decide +kernel
theorem dX6_countMoved_23 : decode cX6_countMoved 23 = .ok (.iinc 2 1, 3) := by decide +kernel
theorem dX6_countMoved_26 : decode cX6_countMoved 26 = .ok (.goto (-22), 3) := by decide +kernel
theorem dX6_countMoved_29 : decode cX6_countMoved 29 = .ok (.iload_n 1, 1) := by decide +kernel
theorem dX6_countMoved_30 : decode cX6_countMoved 30 = .ok (.ireturn, 1) := by decide +kernel
theorem dX6_sumOfRange_0 : decode cX6_sumOfRange 0 = .ok (.lconst 0, 1) := by decide +kernel
theorem dX6_sumOfRange_1 : decode cX6_sumOfRange 1 = .ok (.lstore 4, 2) := by decide +kernel
theorem dX6_sumOfRange_3 : decode cX6_sumOfRange 3 = .ok (.iload_n 2, 1) := by decide +kernel
theorem dX6_sumOfRange_4 : decode cX6_sumOfRange 4 = .ok (.istore 6, 2) := by decide +kernel
theorem dX6_sumOfRange_6 : decode cX6_sumOfRange 6 = .ok (.iload 6, 2) := by decide +kernel
theorem dX6_sumOfRange_8 : decode cX6_sumOfRange 8 = .ok (.iload_n 3, 1) := by decide +kernel
theorem dX6_sumOfRange_9 : decode cX6_sumOfRange 9 = .ok (.if_icmp .gt 40, 3) := by decide +kernel
theorem dX6_sumOfRange_12 : decode cX6_sumOfRange 12 = .ok (.iload 6, 2) := by decide +kernel
theorem dX6_sumOfRange_14 : decode cX6_sumOfRange 14 = .ok (.bipush 40, 2) := by decide +kernel
theorem dX6_sumOfRange_16 : decode cX6_sumOfRange 16 = .ok (.if_icmp .ge 33, 3) := by decide +kernel
theorem dX6_sumOfRange_19 : decode cX6_sumOfRange 19 = .ok (.lload 4, 2) := by decide +kernel
theorem dX6_sumOfRange_21 : decode cX6_sumOfRange 21 = .ok (.iload_n 1, 1) := by decide +kernel
theorem dX6_sumOfRange_22 : decode cX6_sumOfRange 22 = .ok (.ifCond .eq 12, 3) := by decide +kernel
theorem dX6_sumOfRange_25 : decode cX6_sumOfRange 25 = .ok (.aload_n 0, 1) := by decide +kernel
theorem dX6_sumOfRange_26 : decode cX6_sumOfRange 26 = .ok (.iload 6, 2) := by decide +kernel
theorem dX6_sumOfRange_28 : decode cX6_sumOfRange 28 = .ok (.invokevirtual 352, 3) := by decide +kernel
theorem dX6_sumOfRange_31 : decode cX6_sumOfRange 31 = .ok (.goto 9, 3) := by decide +kernel
theorem dX6_sumOfRange_34 : decode cX6_sumOfRange 34 = .ok (.aload_n 0, 1) := by decide +kernel
theorem dX6_sumOfRange_35 : decode cX6_sumOfRange 35 = .ok (.iload 6, 2) := by decide +kernel
theorem dX6_sumOfRange_37 : decode cX6_sumOfRange 37 = .ok (.invokevirtual 356, 3) := by decide +kernel
theorem dX6_sumOfRange_40 : decode cX6_sumOfRange 40 = .ok (.ladd, 1) := by decide +kernel
theorem dX6_sumOfRange_41 : decode cX6_sumOfRange 41 = .ok (.lstore 4, 2) := by decide +kernel
theorem dX6_sumOfRange_43 : decode cX6_sumOfRange 43 = .ok (.iinc 6 1, 3) := by decide +kernel
theorem dX6_sumOfRange_46 : decode cX6_sumOfRange 46 = .ok (.goto (-40), 3) := by decide +kernel
theorem dX6_sumOfRange_49 : decode cX6_sumOfRange 49 = .ok (.lload 4, 2) := by decide +kernel
theorem dX6_sumOfRange_51 : decode cX6_sumOfRange 51 = .ok (.lreturn, 1) := by decide +kernel
theorem dX6_sumOfEntry_0 : decode cX6_sumOfEntry 0 = .ok (.aload_n 0, 1) := by decide +kernel
theorem dX6_sumOfEntry_1 : decode cX6_sumOfEntry 1 = .ok (.getfield 26, 3) := by decide +kernel
theorem dX6_sumOfEntry_4 : decode cX6_sumOfEntry 4 = .ok (.iload_n 1, 1) := by decide +kernel
theorem dX6_sumOfEntry_5 : decode cX6_sumOfEntry 5 = .ok (.invokevirtual 277, 3) := by decide +kernel
theorem dX6_sumOfEntry_8 : decode cX6_sumOfEntry 8 = .ok (.ifCond .ne 5, 3) := by decide +kernel
theorem dX6_sumOfEntry_11 : decode cX6_sumOfEntry 11 = .ok (.lconst 0, 1) := by decide +kernel
theorem dX6_sumOfEntry_12 : decode cX6_sumOfEntry 12 = .ok (.lreturn, 1) := by decide +kernel
theorem dX6_sumOfEntry_13 : decode cX6_sumOfEntry 13 = .ok (.iload_n 1, 1) := by decide +kernel
theorem dX6_sumOfEntry_14 : decode cX6_sumOfEntry 14 = .ok (.aload_n 0, 1) := by decide +kernel
theorem dX6_sumOfEntry_15 : decode cX6_sumOfEntry 15 = .ok (.getfield 26, 3) := by decide +kernel
theorem dX6_sumOfEntry_18 : decode cX6_sumOfEntry 18 = .ok (.iload_n 1, 1) := by decide +kernel
theorem dX6_sumOfEntry_19 : decode cX6_sumOfEntry 19 = .ok (.iconst 0, 1) := by decide +kernel
theorem dX6_sumOfEntry_20 : decode cX6_sumOfEntry 20 = .ok (.invokevirtual 209, 3) := by decide +kernel
theorem dX6_sumOfEntry_23 : decode cX6_sumOfEntry 23 = .ok (.aload_n 0, 1) := by decide +kernel
theorem dX6_sumOfEntry_24 : decode cX6_sumOfEntry 24 = .ok (.getfield 26, 3) := by decide +kernel
theorem dX6_sumOfEntry_27 : decode cX6_sumOfEntry 27 = .ok (.iload_n 1, 1) := by decide +kernel
theorem dX6_sumOfEntry_28 : decode cX6_sumOfEntry 28 = .ok (.iconst 1, 1) := by decide +kernel
theorem dX6_sumOfEntry_29 : decode cX6_sumOfEntry 29 = .ok (.invokevirtual 209, 3) := by decide +kernel
theorem dX6_sumOfEntry_32 : decode cX6_sumOfEntry 32 = .ok (.invokestatic 359, 3) := by decide +kernel
theorem dX6_sumOfEntry_35 : decode cX6_sumOfEntry 35 = .ok (.lreturn, 1) := by decide +kernel
theorem dX6_sumOfRow_0 : decode cX6_sumOfRow 0 = .ok (.aload_n 0, 1) := by decide +kernel
theorem dX6_sumOfRow_1 : decode cX6_sumOfRow 1 = .ok (.iload_n 1, 1) := by decide +kernel
theorem dX6_sumOfRow_2 : decode cX6_sumOfRow 2 = .ok (.invokevirtual 269, 3) := by decide +kernel
theorem dX6_sumOfRow_5 : decode cX6_sumOfRow 5 = .ok (.ifCond .ne 5, 3) := by decide +kernel
theorem dX6_sumOfRow_8 : decode cX6_sumOfRow 8 = .ok (.lconst 0, 1) := by decide +kernel
theorem dX6_sumOfRow_9 : decode cX6_sumOfRow 9 = .ok (.lreturn, 1) := by decide +kernel
theorem dX6_sumOfRow_10 : decode cX6_sumOfRow 10 = .ok (.iload_n 1, 1) := by decide +kernel
theorem dX6_sumOfRow_11 : decode cX6_sumOfRow 11 = .ok (.aload_n 0, 1) := by decide +kernel
theorem dX6_sumOfRow_12 : decode cX6_sumOfRow 12 = .ok (.getfield 50, 3) := by decide +kernel
theorem dX6_sumOfRow_15 : decode cX6_sumOfRow 15 = .ok (.iconst 0, 1) := by decide +kernel
theorem dX6_sumOfRow_16 : decode cX6_sumOfRow 16 = .ok (.invokevirtual 274, 3) := by decide +kernel
theorem dX6_sumOfRow_19 : decode cX6_sumOfRow 19 = .ok (.aload_n 0, 1) := by decide +kernel
theorem dX6_sumOfRow_20 : decode cX6_sumOfRow 20 = .ok (.getfield 50, 3) := by decide +kernel
theorem dX6_sumOfRow_23 : decode cX6_sumOfRow 23 = .ok (.iconst 1, 1) := by decide +kernel
theorem dX6_sumOfRow_24 : decode cX6_sumOfRow 24 = .ok (.invokevirtual 274, 3) := by decide +kernel
theorem dX6_sumOfRow_27 : decode cX6_sumOfRow 27 = .ok (.invokestatic 359, 3) := by decide +kernel
theorem dX6_sumOfRow_30 : decode cX6_sumOfRow 30 = .ok (.lreturn, 1) := by decide +kernel
theorem dX6_sumOfKey_0 : decode cX6_sumOfKey 0 = .ok (.ldc2_w 363, 3) := by decide +kernel
theorem dX6_sumOfKey_3 : decode cX6_sumOfKey 3 = .ok (.iload_n 0, 1) := by decide +kernel
theorem dX6_sumOfKey_4 : decode cX6_sumOfKey 4 = .ok (.i2l, 1) := by decide +kernel
theorem dX6_sumOfKey_5 : decode cX6_sumOfKey 5 = .ok (.lmul, 1) := by decide +kernel
theorem dX6_sumOfKey_6 : decode cX6_sumOfKey 6 = .ok (.ldc2_w 365, 3) := by decide +kernel
theorem dX6_sumOfKey_9 : decode cX6_sumOfKey 9 = .ok (.iload_n 1, 1) := by decide +kernel
theorem dX6_sumOfKey_10 : decode cX6_sumOfKey 10 = .ok (.i2l, 1) := by decide +kernel
theorem dX6_sumOfKey_11 : decode cX6_sumOfKey 11 = .ok (.lmul, 1) := by decide +kernel
theorem dX6_sumOfKey_12 : decode cX6_sumOfKey 12 = .ok (.ladd, 1) := by decide +kernel
theorem dX6_sumOfKey_13 : decode cX6_sumOfKey 13 = .ok (.iload_n 2, 1) := by decide +kernel
theorem dX6_sumOfKey_14 : decode cX6_sumOfKey 14 = .ok (.i2l, 1) := by decide +kernel
theorem dX6_sumOfKey_15 : decode cX6_sumOfKey 15 = .ok (.ladd, 1) := by decide +kernel
theorem dX6_sumOfKey_16 : decode cX6_sumOfKey 16 = .ok (.lconst 1, 1) := by decide +kernel
theorem dX6_sumOfKey_17 : decode cX6_sumOfKey 17 = .ok (.ladd, 1) := by decide +kernel
theorem dX6_sumOfKey_18 : decode cX6_sumOfKey 18 = .ok (.lreturn, 1) := by decide +kernel
theorem dX6_areSumsSame_0 : decode cX6_areSumsSame 0 = .ok (.aload_n 0, 1) := by decide +kernel
theorem dX6_areSumsSame_1 : decode cX6_areSumsSame 1 = .ok (.iconst 1, 1) := by decide +kernel
theorem dX6_areSumsSame_2 : decode cX6_areSumsSame 2 = .ok (.iload_n 1, 1) := by decide +kernel
theorem dX6_areSumsSame_3 : decode cX6_areSumsSame 3 = .ok (.iload_n 2, 1) := by decide +kernel
theorem dX6_areSumsSame_4 : decode cX6_areSumsSame 4 = .ok (.invokevirtual 290, 3) := by decide +kernel
theorem dX6_areSumsSame_7 : decode cX6_areSumsSame 7 = .ok (.aload_n 0, 1) := by decide +kernel
theorem dX6_areSumsSame_8 : decode cX6_areSumsSame 8 = .ok (.iconst 0, 1) := by decide +kernel
theorem dX6_areSumsSame_9 : decode cX6_areSumsSame 9 = .ok (.iload_n 1, 1) := by decide +kernel
theorem dX6_areSumsSame_10 : decode cX6_areSumsSame 10 = .ok (.iload_n 2, 1) := by decide +kernel
theorem dX6_areSumsSame_11 : decode cX6_areSumsSame 11 = .ok (.invokevirtual 290, 3) := by decide +kernel
theorem dX6_areSumsSame_14 : decode cX6_areSumsSame 14 = .ok (.lcmp, 1) := by decide +kernel
theorem dX6_areSumsSame_15 : decode cX6_areSumsSame 15 = .ok (.ifCond .ne 7, 3) := by decide +kernel
theorem dX6_areSumsSame_18 : decode cX6_areSumsSame 18 = .ok (.iconst 1, 1) := by decide +kernel
theorem dX6_areSumsSame_19 : decode cX6_areSumsSame 19 = .ok (.goto 4, 3) := by decide +kernel
theorem dX6_areSumsSame_22 : decode cX6_areSumsSame 22 = .ok (.iconst 0, 1) := by decide +kernel
theorem dX6_areSumsSame_23 : decode cX6_areSumsSame 23 = .ok (.ireturn, 1) := by decide +kernel
