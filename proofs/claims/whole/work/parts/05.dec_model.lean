theorem dX12_init_0 : decode cX12_init 0 = .ok (.aload_n 0, 1) := by decide +kernel
theorem dX12_init_1 : decode cX12_init 1 = .ok (.invokespecial 1, 3) := by decide +kernel
theorem dX12_init_4 : decode cX12_init 4 = .ok (.aload_n 0, 1) := by decide +kernel
theorem dX12_init_5 : decode cX12_init 5 = .ok (.sipush 765, 3) := by decide +kernel
theorem dX12_init_8 : decode cX12_init 8 = .ok (.newarray .int, 2) := by decide +kernel
theorem dX12_init_10 : decode cX12_init 10 = .ok (.putfield 7, 3) := by decide +kernel
theorem dX12_init_13 : decode cX12_init 13 = .ok (.aload_n 0, 1) := by decide +kernel
theorem dX12_init_14 : decode cX12_init 14 = .ok (.sipush 3825, 3) := by decide +kernel
theorem dX12_init_17 : decode cX12_init 17 = .ok (.newarray .int, 2) := by decide +kernel
theorem dX12_init_19 : decode cX12_init 19 = .ok (.putfield 13, 3) := by decide +kernel
theorem dX12_init_22 : decode cX12_init 22 = .ok (.aload_n 0, 1) := by decide +kernel
theorem dX12_init_23 : decode cX12_init 23 = .ok (.sipush 1530, 3) := by decide +kernel
theorem dX12_init_26 : decode cX12_init 26 = .ok (.newarray .int, 2) := by decide +kernel
theorem dX12_init_28 : decode cX12_init 28 = .ok (.putfield 16, 3) := by decide +kernel
theorem dX12_init_31 : decode cX12_init 31 = .ok (.aload_n 0, 1) := by decide +kernel
theorem dX12_init_32 : decode cX12_init 32 = .ok (.iconst 2, 1) := by decide +kernel
theorem dX12_init_33 : decode cX12_init 33 = .ok (.newarray .boolean, 2) := by decide +kernel
theorem dX12_init_35 : decode cX12_init 35 = .ok (.putfield 19, 3) := by decide +kernel
theorem dX12_init_38 : decode cX12_init 38 = .ok (.aload_n 0, 1) := by decide +kernel
theorem dX12_init_39 : decode cX12_init 39 = .ok (.bipush 80, 2) := by decide +kernel
theorem dX12_init_41 : decode cX12_init 41 = .ok (.newarray .int, 2) := by decide +kernel
theorem dX12_init_43 : decode cX12_init 43 = .ok (.putfield 23, 3) := by decide +kernel
theorem dX12_init_46 : decode cX12_init 46 = .ok (.aload_n 0, 1) := by decide +kernel
theorem dX12_init_47 : decode cX12_init 47 = .ok (.sipush 240, 3) := by decide +kernel
theorem dX12_init_50 : decode cX12_init 50 = .ok (.newarray .int, 2) := by decide +kernel
theorem dX12_init_52 : decode cX12_init 52 = .ok (.putfield 26, 3) := by decide +kernel
theorem dX12_init_55 : decode cX12_init 55 = .ok (.aload_n 0, 1) := by decide +kernel
theorem dX12_init_56 : decode cX12_init 56 = .ok (.iconst 5, 1) := by decide +kernel
theorem dX12_init_57 : decode cX12_init 57 = .ok (.newarray .int, 2) := by decide +kernel
theorem dX12_init_59 : decode cX12_init 59 = .ok (.putfield 29, 3) := by decide +kernel
theorem dX12_init_62 : decode cX12_init 62 = .ok (.aload_n 0, 1) := by decide +kernel
theorem dX12_init_63 : decode cX12_init 63 = .ok (.bipush 35, 2) := by decide +kernel
theorem dX12_init_65 : decode cX12_init 65 = .ok (.newarray .int, 2) := by decide +kernel
theorem dX12_init_67 : decode cX12_init 67 = .ok (.putfield 32, 3) := by decide +kernel
theorem dX12_init_70 : decode cX12_init 70 = .ok (.aload_n 0, 1) := by decide +kernel
theorem dX12_init_71 : decode cX12_init 71 = .ok (.getfield 7, 3) := by decide +kernel
theorem dX12_init_74 : decode cX12_init 74 = .ok (.iconst 0, 1) := by decide +kernel
theorem dX12_init_75 : decode cX12_init 75 = .ok (.iconst 1, 1) := by decide +kernel
theorem dX12_init_76 : decode cX12_init 76 = .ok (.iastore, 1) := by decide +kernel
theorem dX12_init_77 : decode cX12_init 77 = .ok (.aload_n 0, 1) := by decide +kernel
theorem dX12_init_78 : decode cX12_init 78 = .ok (.iconst 0, 1) := by decide +kernel
theorem dX12_init_79 : decode cX12_init 79 = .ok (.iconst (-1), 1) := by decide +kernel
theorem dX12_init_80 : decode cX12_init 80 = .ok (.iconst 0, 1) := by decide +kernel
theorem dX12_init_81 : decode cX12_init 81 = .ok (.invokevirtual 35, 3) := by decide +kernel
theorem dX12_init_84 : decode cX12_init 84 = .ok (.return_, 1) := by decide +kernel
theorem dX12_thrown_0 : decode cX12_thrown 0 = .ok (.aload_n 0, 1) := by decide +kernel
theorem dX12_thrown_1 : decode cX12_thrown 1 = .ok (.getfield 39, 3) := by decide +kernel
theorem dX12_thrown_4 : decode cX12_thrown 4 = .ok (.ireturn, 1) := by decide +kernel
theorem dX12_in_0 : decode cX12_in 0 = .ok (.iload_n 0, 1) := by decide +kernel
theorem dX12_in_1 : decode cX12_in 1 = .ok (.iload_n 1, 1) := by decide +kernel
theorem dX12_in_2 : decode cX12_in 2 = .ok (.if_icmp .lt 12, 3) := by decide +kernel
theorem dX12_in_5 : decode cX12_in 5 = .ok (.iload_n 0, 1) := by decide +kernel
theorem dX12_in_6 : decode cX12_in 6 = .ok (.iload_n 2, 1) := by decide +kernel
theorem dX12_in_7 : decode cX12_in 7 = .ok (.if_icmp .gt 7, 3) := by decide +kernel
theorem dX12_in_10 : decode cX12_in 10 = .ok (.iconst 1, 1) := by decide +kernel
theorem dX12_in_11 : decode cX12_in 11 = .ok (.goto 4, 3) := by decide +kernel
theorem dX12_in_14 : decode cX12_in 14 = .ok (.iconst 0, 1) := by decide +kernel
theorem dX12_in_15 : decode cX12_in 15 = .ok (.ireturn, 1) := by decide +kernel
theorem dX12_fails_0 : decode cX12_fails 0 = .ok (.aload_n 0, 1) := by decide +kernel
theorem dX12_fails_1 : decode cX12_fails 1 = .ok (.iload_n 1, 1) := by decide +kernel
theorem dX12_fails_2 : decode cX12_fails 2 = .ok (.putfield 39, 3) := by decide +kernel
theorem dX12_fails_5 : decode cX12_fails 5 = .ok (.iconst 0, 1) := by decide +kernel
theorem dX12_fails_6 : decode cX12_fails 6 = .ok (.ireturn, 1) := by decide +kernel
theorem dX12_changes_0 : decode cX12_changes 0 = .ok (.aload_n 0, 1) := by decide +kernel
theorem dX12_changes_1 : decode cX12_changes 1 = .ok (.getfield 43, 3) := by decide +kernel
theorem dX12_changes_4 : decode cX12_changes 4 = .ok (.iconst 5, 1) := by decide +kernel
theorem dX12_changes_5 : decode cX12_changes 5 = .ok (.if_icmp .ne 44, 3) := by decide +kernel
theorem dX12_changes_8 : decode cX12_changes 8 = .ok (.iconst 0, 1) := by decide +kernel
theorem dX12_changes_9 : decode cX12_changes 9 = .ok (.istore_n 1, 1) := by decide +kernel
theorem dX12_changes_10 : decode cX12_changes 10 = .ok (.iload_n 1, 1) := by decide +kernel
theorem dX12_changes_11 : decode cX12_changes 11 = .ok (.sipush 3060, 3) := by decide +kernel
theorem dX12_changes_14 : decode cX12_changes 14 = .ok (.if_icmp .ge 25, 3) := by decide +kernel
theorem dX12_changes_17 : decode cX12_changes 17 = .ok (.aload_n 0, 1) := by decide +kernel
theorem dX12_changes_18 : decode cX12_changes 18 = .ok (.getfield 13, 3) := by decide +kernel
theorem dX12_changes_21 : decode cX12_changes 21 = .ok (.iload_n 1, 1) := by decide +kernel
theorem dX12_changes_22 : decode cX12_changes 22 = .ok (.aload_n 0, 1) := by decide +kernel
theorem dX12_changes_23 : decode cX12_changes 23 = .ok (.getfield 13, 3) := by decide +kernel
theorem dX12_changes_26 : decode cX12_changes 26 = .ok (.iload_n 1, 1) := by decide +kernel
theorem dX12_changes_27 : decode cX12_changes 27 = .ok (.sipush 765, 3) := by decide +kernel
theorem dX12_changes_30 : decode cX12_changes 30 = .ok (.iadd, 1) := by decide +kernel
theorem dX12_changes_31 : decode cX12_changes 31 = .ok (.iaload, 1) := by decide +kernel
theorem dX12_changes_32 : decode cX12_changes 32 = .ok (.iastore, 1) := by decide +kernel
theorem dX12_changes_33 : decode cX12_changes 33 = .ok (.iinc 1 1, 3) := by decide +kernel
theorem dX12_changes_36 : decode cX12_changes 36 = .ok (.goto (-26), 3) := by decide +kernel
theorem dX12_changes_39 : decode cX12_changes 39 = .ok (.aload_n 0, 1) := by decide +kernel
theorem dX12_changes_40 : decode cX12_changes 40 = .ok (.dup, 1) := by decide +kernel
theorem dX12_changes_41 : decode cX12_changes 41 = .ok (.getfield 43, 3) := by decide +kernel
theorem dX12_changes_44 : decode cX12_changes 44 = .ok (.iconst 1, 1) := by decide +kernel
theorem dX12_changes_45 : decode cX12_changes 45 = .ok (.isub, 1) := by decide +kernel
theorem dX12_changes_46 : decode cX12_changes 46 = .ok (.putfield 43, 3) := by decide +kernel
theorem dX12_changes_49 : decode cX12_changes 49 = .ok (.iconst 0, 1) := by decide +kernel
theorem dX12_changes_50 : decode cX12_changes 50 = .ok (.istore_n 1, 1) := by decide +kernel
theorem dX12_changes_51 : decode cX12_changes 51 = .ok (.iload_n 1, 1) := by decide +kernel
theorem dX12_changes_52 : decode cX12_changes 52 = .ok (.sipush 765, 3) := by decide +kernel
theorem dX12_changes_55 : decode cX12_changes 55 = .ok (.if_icmp .ge 30, 3) := by decide +kernel
theorem dX12_changes_58 : decode cX12_changes 58 = .ok (.aload_n 0, 1) := by decide +kernel
theorem dX12_changes_59 : decode cX12_changes 59 = .ok (.getfield 13, 3) := by decide +kernel
theorem dX12_changes_62 : decode cX12_changes 62 = .ok (.sipush 765, 3) := by decide +kernel
theorem dX12_changes_65 : decode cX12_changes 65 = .ok (.aload_n 0, 1) := by decide +kernel
theorem dX12_changes_66 : decode cX12_changes 66 = .ok (.getfield 43, 3) := by decide +kernel
theorem dX12_changes_69 : decode cX12_changes 69 = .ok (.imul, 1) := by decide +kernel
theorem dX12_changes_70 : decode cX12_changes 70 = .ok (.iload_n 1, 1) := by decide +kernel
theorem dX12_changes_71 : decode cX12_changes 71 = .ok (.iadd, 1) := by decide +kernel
theorem dX12_changes_72 : decode cX12_changes 72 = .ok (.aload_n 0, 1) := by decide +kernel
theorem dX12_changes_73 : decode cX12_changes 73 = .ok (.getfield 7, 3) := by decide +kernel
theorem dX12_changes_76 : decode cX12_changes 76 = .ok (.iload_n 1, 1) := by decide +kernel
theorem dX12_changes_77 : decode cX12_changes 77 = .ok (.iaload, 1) := by decide +kernel
theorem dX12_changes_78 : decode cX12_changes 78 = .ok (.iastore, 1) := by decide +kernel
theorem dX12_changes_79 : decode cX12_changes 79 = .ok (.iinc 1 1, 3) := by decide +kernel
theorem dX12_changes_82 : decode cX12_changes 82 = .ok (.goto (-31), 3) := by decide +kernel
theorem dX12_changes_85 : decode cX12_changes 85 = .ok (.aload_n 0, 1) := by decide +kernel
theorem dX12_changes_86 : decode cX12_changes 86 = .ok (.dup, 1) := by decide +kernel
theorem dX12_changes_87 : decode cX12_changes 87 = .ok (.getfield 43, 3) := by decide +kernel
theorem dX12_changes_90 : decode cX12_changes 90 = .ok (.iconst 1, 1) := by decide +kernel
theorem dX12_changes_91 : decode cX12_changes 91 = .ok (.iadd, 1) := by decide +kernel
theorem dX12_changes_92 : decode cX12_changes 92 = .ok (.putfield 43, 3) := by decide +kernel
theorem dX12_changes_95 : decode cX12_changes 95 = .ok (.return_, 1) := by decide +kernel
theorem dX12_isUser_0 : decode cX12_isUser 0 = .ok (.iload_n 1, 1) := by decide +kernel
theorem dX12_isUser_1 : decode cX12_isUser 1 = .ok (.iconst 0, 1) := by decide +kernel
theorem dX12_isUser_2 : decode cX12_isUser 2 = .ok (.aload_n 0, 1) := by decide +kernel
theorem dX12_isUser_3 : decode cX12_isUser 3 = .ok (.getfield 7, 3) := by decide +kernel
theorem dX12_isUser_6 : decode cX12_isUser 6 = .ok (.iconst 0, 1) := by decide +kernel
theorem dX12_isUser_7 : decode cX12_isUser 7 = .ok (.iaload, 1) := by decide +kernel
theorem dX12_isUser_8 : decode cX12_isUser 8 = .ok (.iconst 1, 1) := by decide +kernel
theorem dX12_isUser_9 : decode cX12_isUser 9 = .ok (.isub, 1) := by decide +kernel
theorem dX12_isUser_10 : decode cX12_isUser 10 = .ok (.invokestatic 46, 3) := by decide +kernel
theorem dX12_isUser_13 : decode cX12_isUser 13 = .ok (.ireturn, 1) := by decide +kernel
theorem dX12_isGroup_0 : decode cX12_isGroup 0 = .ok (.iload_n 1, 1) := by decide +kernel
theorem dX12_isGroup_1 : decode cX12_isGroup 1 = .ok (.iconst 0, 1) := by decide +kernel
theorem dX12_isGroup_2 : decode cX12_isGroup 2 = .ok (.aload_n 0, 1) := by decide +kernel
theorem dX12_isGroup_3 : decode cX12_isGroup 3 = .ok (.getfield 7, 3) := by decide +kernel
theorem dX12_isGroup_6 : decode cX12_isGroup 6 = .ok (.iconst 1, 1) := by decide +kernel
theorem dX12_isGroup_7 : decode cX12_isGroup 7 = .ok (.iaload, 1) := by decide +kernel
theorem dX12_isGroup_8 : decode cX12_isGroup 8 = .ok (.iconst 1, 1) := by decide +kernel
theorem dX12_isGroup_9 : decode cX12_isGroup 9 = .ok (.isub, 1) := by decide +kernel
theorem dX12_isGroup_10 : decode cX12_isGroup 10 = .ok (.invokestatic 46, 3) := by decide +kernel
theorem dX12_isGroup_13 : decode cX12_isGroup 13 = .ok (.ireturn, 1) := by decide +kernel
theorem dX12_at_0 : decode cX12_at 0 = .ok (.bipush 18, 2) := by decide +kernel
theorem dX12_at_2 : decode cX12_at 2 = .ok (.bipush 36, 2) := by decide +kernel
theorem dX12_at_4 : decode cX12_at 4 = .ok (.iload_n 0, 1) := by decide +kernel
theorem dX12_at_5 : decode cX12_at 5 = .ok (.imul, 1) := by decide +kernel
theorem dX12_at_6 : decode cX12_at 6 = .ok (.iadd, 1) := by decide +kernel
theorem dX12_at_7 : decode cX12_at 7 = .ok (.iload_n 1, 1) := by decide +kernel
theorem dX12_at_8 : decode cX12_at 8 = .ok (.iadd, 1) := by decide +kernel
theorem dX12_at_9 : decode cX12_at 9 = .ok (.ireturn, 1) := by decide +kernel
theorem dX12_of_0 : decode cX12_of 0 = .ok (.aload_n 0, 1) := by decide +kernel
theorem dX12_of_1 : decode cX12_of 1 = .ok (.getfield 7, 3) := by decide +kernel
theorem dX12_of_4 : decode cX12_of 4 = .ok (.iload_n 1, 1) := by decide +kernel
theorem dX12_of_5 : decode cX12_of 5 = .ok (.iload_n 2, 1) := by decide +kernel
theorem dX12_of_6 : decode cX12_of 6 = .ok (.invokestatic 50, 3) := by decide +kernel
theorem dX12_of_9 : decode cX12_of 9 = .ok (.iaload, 1) := by decide +kernel
theorem dX12_of_10 : decode cX12_of 10 = .ok (.ireturn, 1) := by decide +kernel
theorem dX12_isObject_0 : decode cX12_isObject 0 = .ok (.iload_n 1, 1) := by decide +kernel
theorem dX12_isObject_1 : decode cX12_isObject 1 = .ok (.iconst 0, 1) := by decide +kernel
theorem dX12_isObject_2 : decode cX12_isObject 2 = .ok (.bipush 19, 2) := by decide +kernel
theorem dX12_isObject_4 : decode cX12_isObject 4 = .ok (.invokestatic 46, 3) := by decide +kernel
theorem dX12_isObject_7 : decode cX12_isObject 7 = .ok (.ifCond .eq 17, 3) := by decide +kernel
theorem dX12_isObject_10 : decode cX12_isObject 10 = .ok (.aload_n 0, 1) := by decide +kernel
theorem dX12_isObject_11 : decode cX12_isObject 11 = .ok (.iload_n 1, 1) := by decide +kernel
theorem dX12_isObject_12 : decode cX12_isObject 12 = .ok (.iconst 0, 1) := by decide +kernel
theorem dX12_isObject_13 : decode cX12_isObject 13 = .ok (.invokevirtual 54, 3) := by decide +kernel
theorem dX12_isObject_16 : decode cX12_isObject 16 = .ok (.iconst 1, 1) := by decide +kernel
theorem dX12_isObject_17 : decode cX12_isObject 17 = .ok (.if_icmp .ne 7, 3) := by decide +kernel
theorem dX12_isObject_20 : decode cX12_isObject 20 = .ok (.iconst 1, 1) := by decide +kernel
theorem dX12_isObject_21 : decode cX12_isObject 21 = .ok (.goto 4, 3) := by decide +kernel
theorem dX12_isObject_24 : decode cX12_isObject 24 = .ok (.iconst 0, 1) := by decide +kernel
theorem dX12_isObject_25 : decode cX12_isObject 25 = .ok (.ireturn, 1) := by decide +kernel
theorem dX12_isEntry_0 : decode cX12_isEntry 0 = .ok (.aload_n 0, 1) := by decide +kernel
theorem dX12_isEntry_1 : decode cX12_isEntry 1 = .ok (.iload_n 1, 1) := by decide +kernel
theorem dX12_isEntry_2 : decode cX12_isEntry 2 = .ok (.invokevirtual 57, 3) := by decide +kernel
theorem dX12_isEntry_5 : decode cX12_isEntry 5 = .ok (.ifCond .eq 23, 3) := by decide +kernel
theorem dX12_isEntry_8 : decode cX12_isEntry 8 = .ok (.iload_n 2, 1) := by decide +kernel
theorem dX12_isEntry_9 : decode cX12_isEntry 9 = .ok (.iconst 0, 1) := by decide +kernel
theorem dX12_isEntry_10 : decode cX12_isEntry 10 = .ok (.aload_n 0, 1) := by decide +kernel
theorem dX12_isEntry_11 : decode cX12_isEntry 11 = .ok (.iload_n 1, 1) := by decide +kernel
theorem dX12_isEntry_12 : decode cX12_isEntry 12 = .ok (.iconst 5, 1) := by decide +kernel
theorem dX12_isEntry_13 : decode cX12_isEntry 13 = .ok (.invokevirtual 54, 3) := by decide +kernel
theorem dX12_isEntry_16 : decode cX12_isEntry 16 = .ok (.iconst 1, 1) := by decide +kernel
theorem dX12_isEntry_17 : decode cX12_isEntry 17 = .ok (.isub, 1) := by decide +kernel
theorem dX12_isEntry_18 : decode cX12_isEntry 18 = .ok (.invokestatic 46, 3) := by decide +kernel
theorem dX12_isEntry_21 : decode cX12_isEntry 21 = .ok (.ifCond .eq 7, 3) := by decide +kernel
theorem dX12_isEntry_24 : decode cX12_isEntry 24 = .ok (.iconst 1, 1) := by decide +kernel
theorem dX12_isEntry_25 : decode cX12_isEntry 25 = .ok (.goto 4, 3) := by decide +kernel
theorem dX12_isEntry_28 : decode cX12_isEntry 28 = .ok (.iconst 0, 1) := by decide +kernel
theorem dX12_isEntry_29 : decode cX12_isEntry 29 = .ok (.ireturn, 1) := by decide +kernel
theorem dX12_entryAt_0 : decode cX12_entryAt 0 = .ok (.iload_n 0, 1) := by decide +kernel
theorem dX12_entryAt_1 : decode cX12_entryAt 1 = .ok (.bipush 6, 2) := by decide +kernel
theorem dX12_entryAt_3 : decode cX12_entryAt 3 = .ok (.invokestatic 50, 3) := by decide +kernel
theorem dX12_entryAt_6 : decode cX12_entryAt 6 = .ok (.iconst 5, 1) := by decide +kernel
theorem dX12_entryAt_7 : decode cX12_entryAt 7 = .ok (.iload_n 1, 1) := by decide +kernel
theorem dX12_entryAt_8 : decode cX12_entryAt 8 = .ok (.imul, 1) := by decide +kernel
theorem dX12_entryAt_9 : decode cX12_entryAt 9 = .ok (.iadd, 1) := by decide +kernel
theorem dX12_entryAt_10 : decode cX12_entryAt 10 = .ok (.iload_n 2, 1) := by decide +kernel
theorem dX12_entryAt_11 : decode cX12_entryAt 11 = .ok (.iadd, 1) := by decide +kernel
theorem dX12_entryAt_12 : decode cX12_entryAt 12 = .ok (.ireturn, 1) := by decide +kernel
theorem dX12_ofEntry_0 : decode cX12_ofEntry 0 = .ok (.aload_n 0, 1) := by decide +kernel
theorem dX12_ofEntry_1 : decode cX12_ofEntry 1 = .ok (.getfield 7, 3) := by decide +kernel
theorem dX12_ofEntry_4 : decode cX12_ofEntry 4 = .ok (.iload_n 1, 1) := by decide +kernel
theorem dX12_ofEntry_5 : decode cX12_ofEntry 5 = .ok (.iload_n 2, 1) := by decide +kernel
theorem dX12_ofEntry_6 : decode cX12_ofEntry 6 = .ok (.iload_n 3, 1) := by decide +kernel
theorem dX12_ofEntry_7 : decode cX12_ofEntry 7 = .ok (.invokestatic 61, 3) := by decide +kernel
theorem dX12_ofEntry_10 : decode cX12_ofEntry 10 = .ok (.iaload, 1) := by decide +kernel
theorem dX12_ofEntry_11 : decode cX12_ofEntry 11 = .ok (.ireturn, 1) := by decide +kernel
theorem dX12_isRight_0 : decode cX12_isRight 0 = .ok (.iload_n 0, 1) := by decide +kernel
theorem dX12_isRight_1 : decode cX12_isRight 1 = .ok (.iconst 0, 1) := by decide +kernel
theorem dX12_isRight_2 : decode cX12_isRight 2 = .ok (.iconst 3, 1) := by decide +kernel
theorem dX12_isRight_3 : decode cX12_isRight 3 = .ok (.invokestatic 46, 3) := by decide +kernel
theorem dX12_isRight_6 : decode cX12_isRight 6 = .ok (.ireturn, 1) := by decide +kernel
theorem dX12_areRights_0 : decode cX12_areRights 0 = .ok (.iload_n 0, 1) := by decide +kernel
theorem dX12_areRights_1 : decode cX12_areRights 1 = .ok (.iconst 1, 1) := by decide +kernel
theorem dX12_areRights_2 : decode cX12_areRights 2 = .ok (.bipush 15, 2) := by decide +kernel
theorem dX12_areRights_4 : decode cX12_areRights 4 = .ok (.invokestatic 46, 3) := by decide +kernel
theorem dX12_areRights_7 : decode cX12_areRights 7 = .ok (.ireturn, 1) := by decide +kernel
theorem dX12_has_0 : decode cX12_has 0 = .ok (.iload_n 0, 1) := by decide +kernel
theorem dX12_has_1 : decode cX12_has 1 = .ok (.iload_n 1, 1) := by decide +kernel
theorem dX12_has_2 : decode cX12_has 2 = .ok (.ishr, 1) := by decide +kernel
theorem dX12_has_3 : decode cX12_has 3 = .ok (.iconst 1, 1) := by decide +kernel
theorem dX12_has_4 : decode cX12_has 4 = .ok (.iand, 1) := by decide +kernel
theorem dX12_has_5 : decode cX12_has 5 = .ok (.iconst 1, 1) := by decide +kernel
theorem dX12_has_6 : decode cX12_has 6 = .ok (.if_icmp .ne 7, 3) := by decide +kernel
theorem dX12_has_9 : decode cX12_has 9 = .ok (.iconst 1, 1) := by decide +kernel
theorem dX12_has_10 : decode cX12_has 10 = .ok (.goto 4, 3) := by decide +kernel
theorem dX12_has_13 : decode cX12_has 13 = .ok (.iconst 0, 1) := by decide +kernel
theorem dX12_has_14 : decode cX12_has 14 = .ok (.ireturn, 1) := by decide +kernel
theorem dX12_size_0 : decode cX12_size 0 = .ok (.iconst 0, 1) := by decide +kernel
theorem dX12_size_1 : decode cX12_size 1 = .ok (.istore_n 1, 1) := by decide +kernel
theorem dX12_size_2 : decode cX12_size 2 = .ok (.iconst 0, 1) := by decide +kernel
theorem dX12_size_3 : decode cX12_size 3 = .ok (.istore_n 2, 1) := by decide +kernel
theorem dX12_size_4 : decode cX12_size 4 = .ok (.iload_n 2, 1) := by decide +kernel
theorem dX12_size_5 : decode cX12_size 5 = .ok (.bipush 20, 2) := by decide +kernel
theorem dX12_size_7 : decode cX12_size 7 = .ok (.if_icmp .ge 25, 3) := by decide +kernel
theorem dX12_size_10 : decode cX12_size 10 = .ok (.iload_n 1, 1) := by decide +kernel
theorem dX12_size_11 : decode cX12_size 11 = .ok (.iload_n 0, 1) := by decide +kernel
theorem dX12_size_12 : decode cX12_size 12 = .ok (.iload_n 2, 1) := by decide +kernel
theorem dX12_size_13 : decode cX12_size 13 = .ok (.invokestatic 65, 3) := by decide +kernel
theorem dX12_size_16 : decode cX12_size 16 = .ok (.ifCond .eq 7, 3) := by decide +kernel
theorem dX12_size_19 : decode cX12_size 19 = .ok (.iconst 1, 1) := by decide +kernel
theorem dX12_size_20 : decode cX12_size 20 = .ok (.goto 4, 3) := by decide +kernel
theorem dX12_size_23 : decode cX12_size 23 = .ok (.iconst 0, 1) := by decide +kernel
theorem dX12_size_24 : decode cX12_size 24 = .ok (.iadd, 1) := by decide +kernel
theorem dX12_size_25 : decode cX12_size 25 = .ok (.istore_n 1, 1) := by decide +kernel
theorem dX12_size_26 : decode cX12_size 26 = .ok (.iinc 2 1, 3) := by decide +kernel
theorem dX12_size_29 : decode cX12_size 29 = .ok (.goto (-25), 3) := by decide +kernel
theorem dX12_size_32 : decode cX12_size 32 = .ok (.iload_n 1, 1) := by decide +kernel
theorem dX12_size_33 : decode cX12_size 33 = .ok (.ireturn, 1) := by decide +kernel
theorem dX12_outers_0 : decode cX12_outers 0 = .ok (.aload_n 0, 1) := by decide +kernel
theorem dX12_outers_1 : decode cX12_outers 1 = .ok (.getfield 7, 3) := by decide +kernel
theorem dX12_outers_4 : decode cX12_outers 4 = .ok (.bipush 10, 2) := by decide +kernel
theorem dX12_outers_6 : decode cX12_outers 6 = .ok (.iload_n 1, 1) := by decide +kernel
theorem dX12_outers_7 : decode cX12_outers 7 = .ok (.iadd, 1) := by decide +kernel
theorem dX12_outers_8 : decode cX12_outers 8 = .ok (.iaload, 1) := by decide +kernel
theorem dX12_outers_9 : decode cX12_outers 9 = .ok (.istore_n 2, 1) := by decide +kernel
theorem dX12_outers_10 : decode cX12_outers 10 = .ok (.iconst 0, 1) := by decide +kernel
theorem dX12_outers_11 : decode cX12_outers 11 = .ok (.istore_n 3, 1) := by decide +kernel
theorem dX12_outers_12 : decode cX12_outers 12 = .ok (.iload_n 3, 1) := by decide +kernel
theorem dX12_outers_13 : decode cX12_outers 13 = .ok (.bipush 8, 2) := by decide +kernel
theorem dX12_outers_15 : decode cX12_outers 15 = .ok (.if_icmp .ge 51, 3) := by decide +kernel
theorem dX12_outers_18 : decode cX12_outers 18 = .ok (.iconst 0, 1) := by decide +kernel
theorem dX12_outers_19 : decode cX12_outers 19 = .ok (.istore 4, 2) := by decide +kernel
theorem dX12_outers_21 : decode cX12_outers 21 = .ok (.iload 4, 2) := by decide +kernel
theorem dX12_outers_23 : decode cX12_outers 23 = .ok (.bipush 8, 2) := by decide +kernel
theorem dX12_outers_25 : decode cX12_outers 25 = .ok (.if_icmp .ge 35, 3) := by decide +kernel
theorem dX12_outers_28 : decode cX12_outers 28 = .ok (.iload_n 2, 1) := by decide +kernel
theorem dX12_outers_29 : decode cX12_outers 29 = .ok (.iload_n 2, 1) := by decide +kernel
theorem dX12_outers_30 : decode cX12_outers 30 = .ok (.iload 4, 2) := by decide +kernel
theorem dX12_outers_32 : decode cX12_outers 32 = .ok (.invokestatic 65, 3) := by decide +kernel
theorem dX12_outers_35 : decode cX12_outers 35 = .ok (.ifCond .eq 16, 3) := by decide +kernel
theorem dX12_outers_38 : decode cX12_outers 38 = .ok (.aload_n 0, 1) := by decide +kernel
theorem dX12_outers_39 : decode cX12_outers 39 = .ok (.getfield 7, 3) := by decide +kernel
theorem dX12_outers_42 : decode cX12_outers 42 = .ok (.bipush 10, 2) := by decide +kernel
theorem dX12_outers_44 : decode cX12_outers 44 = .ok (.iload 4, 2) := by decide +kernel
theorem dX12_outers_46 : decode cX12_outers 46 = .ok (.iadd, 1) := by decide +kernel
theorem dX12_outers_47 : decode cX12_outers 47 = .ok (.iaload, 1) := by decide +kernel
theorem dX12_outers_48 : decode cX12_outers 48 = .ok (.goto 4, 3) := by decide +kernel
theorem dX12_outers_51 : decode cX12_outers 51 = .ok (.iconst 0, 1) := by decide +kernel
theorem dX12_outers_52 : decode cX12_outers 52 = .ok (.ior, 1) := by decide +kernel
theorem dX12_outers_53 : decode cX12_outers 53 = .ok (.istore_n 2, 1) := by decide +kernel
theorem dX12_outers_54 : decode cX12_outers 54 = .ok (.iinc 4 1, 3) := by decide +kernel
theorem dX12_outers_57 : decode cX12_outers 57 = .ok (.goto (-36), 3) := by decide +kernel
theorem dX12_outers_60 : decode cX12_outers 60 = .ok (.iinc 3 1, 3) := by decide +kernel
theorem dX12_outers_63 : decode cX12_outers 63 = .ok (.goto (-51), 3) := by decide +kernel
theorem dX12_outers_66 : decode cX12_outers 66 = .ok (.iload_n 2, 1) := by decide +kernel
theorem dX12_outers_67 : decode cX12_outers 67 = .ok (.ireturn, 1) := by decide +kernel
theorem dX12_isOf_0 : decode cX12_isOf 0 = .ok (.aload_n 0, 1) := by decide +kernel
theorem dX12_isOf_1 : decode cX12_isOf 1 = .ok (.getfield 7, 3) := by decide +kernel
theorem dX12_isOf_4 : decode cX12_isOf 4 = .ok (.iconst 2, 1) := by decide +kernel
theorem dX12_isOf_5 : decode cX12_isOf 5 = .ok (.iload_n 2, 1) := by decide +kernel
theorem dX12_isOf_6 : decode cX12_isOf 6 = .ok (.iadd, 1) := by decide +kernel
theorem dX12_isOf_7 : decode cX12_isOf 7 = .ok (.iaload, 1) := by decide +kernel
theorem dX12_isOf_8 : decode cX12_isOf 8 = .ok (.iload_n 1, 1) := by decide +kernel
theorem dX12_isOf_9 : decode cX12_isOf 9 = .ok (.invokestatic 65, 3) := by decide +kernel
theorem dX12_isOf_12 : decode cX12_isOf 12 = .ok (.istore_n 3, 1) := by decide +kernel
theorem dX12_isOf_13 : decode cX12_isOf 13 = .ok (.iconst 0, 1) := by decide +kernel
theorem dX12_isOf_14 : decode cX12_isOf 14 = .ok (.istore 4, 2) := by decide +kernel
theorem dX12_isOf_16 : decode cX12_isOf 16 = .ok (.iload 4, 2) := by decide +kernel
theorem dX12_isOf_18 : decode cX12_isOf 18 = .ok (.aload_n 0, 1) := by decide +kernel
theorem dX12_isOf_19 : decode cX12_isOf 19 = .ok (.getfield 7, 3) := by decide +kernel
theorem dX12_isOf_22 : decode cX12_isOf 22 = .ok (.iconst 1, 1) := by decide +kernel
theorem dX12_isOf_23 : decode cX12_isOf 23 = .ok (.iaload, 1) := by decide +kernel
theorem dX12_isOf_24 : decode cX12_isOf 24 = .ok (.if_icmp .ge 48, 3) := by decide +kernel
theorem dX12_isOf_27 : decode cX12_isOf 27 = .ok (.iload_n 3, 1) := by decide +kernel
theorem dX12_isOf_28 : decode cX12_isOf 28 = .ok (.ifCond .ne 32, 3) := by decide +kernel
theorem dX12_isOf_31 : decode cX12_isOf 31 = .ok (.aload_n 0, 1) := by decide +kernel
theorem dX12_isOf_32 : decode cX12_isOf 32 = .ok (.getfield 7, 3) := by decide +kernel
theorem dX12_isOf_35 : decode cX12_isOf 35 = .ok (.iconst 2, 1) := by decide +kernel
theorem dX12_isOf_36 : decode cX12_isOf 36 = .ok (.iload 4, 2) := by decide +kernel
theorem dX12_isOf_38 : decode cX12_isOf 38 = .ok (.iadd, 1) := by decide +kernel
theorem dX12_isOf_39 : decode cX12_isOf 39 = .ok (.iaload, 1) := by decide +kernel
theorem dX12_isOf_40 : decode cX12_isOf 40 = .ok (.iload_n 1, 1) := by decide +kernel
theorem dX12_isOf_41 : decode cX12_isOf 41 = .ok (.invokestatic 65, 3) := by decide +kernel
theorem dX12_isOf_44 : decode cX12_isOf 44 = .ok (.ifCond .eq 20, 3) := by decide +kernel
theorem dX12_isOf_47 : decode cX12_isOf 47 = .ok (.aload_n 0, 1) := by decide +kernel
theorem dX12_isOf_48 : decode cX12_isOf 48 = .ok (.iload 4, 2) := by decide +kernel
theorem dX12_isOf_50 : decode cX12_isOf 50 = .ok (.invokevirtual 69, 3) := by decide +kernel
theorem dX12_isOf_53 : decode cX12_isOf 53 = .ok (.iload_n 2, 1) := by decide +kernel
theorem dX12_isOf_54 : decode cX12_isOf 54 = .ok (.invokestatic 65, 3) := by decide +kernel
theorem dX12_isOf_57 : decode cX12_isOf 57 = .ok (.ifCond .eq 7, 3) := by decide +kernel
theorem dX12_isOf_60 : decode cX12_isOf 60 = .ok (.iconst 1, 1) := by decide +kernel
theorem dX12_isOf_61 : decode cX12_isOf 61 = .ok (.goto 4, 3) := by decide +kernel
theorem dX12_isOf_64 : decode cX12_isOf 64 = .ok (.iconst 0, 1) := by decide +kernel
theorem dX12_isOf_65 : decode cX12_isOf 65 = .ok (.istore_n 3, 1) := by decide +kernel
theorem dX12_isOf_66 : decode cX12_isOf 66 = .ok (.iinc 4 1, 3) := by decide +kernel
theorem dX12_isOf_69 : decode cX12_isOf 69 = .ok (.goto (-53), 3) := by decide +kernel
theorem dX12_isOf_72 : decode cX12_isOf 72 = .ok (.iload_n 3, 1) := by decide +kernel
theorem dX12_isOf_73 : decode cX12_isOf 73 = .ok (.ireturn, 1) := by decide +kernel
theorem dX12_howMany_0 : decode cX12_howMany 0 = .ok (.iconst 0, 1) := by decide +kernel
theorem dX12_howMany_1 : decode cX12_howMany 1 = .ok (.istore_n 2, 1) := by decide +kernel
theorem dX12_howMany_2 : decode cX12_howMany 2 = .ok (.iconst 0, 1) := by decide +kernel
theorem dX12_howMany_3 : decode cX12_howMany 3 = .ok (.istore_n 3, 1) := by decide +kernel
theorem dX12_howMany_4 : decode cX12_howMany 4 = .ok (.iload_n 3, 1) := by decide +kernel
theorem dX12_howMany_5 : decode cX12_howMany 5 = .ok (.aload_n 0, 1) := by decide +kernel
theorem dX12_howMany_6 : decode cX12_howMany 6 = .ok (.getfield 7, 3) := by decide +kernel
theorem dX12_howMany_9 : decode cX12_howMany 9 = .ok (.iconst 0, 1) := by decide +kernel
theorem dX12_howMany_10 : decode cX12_howMany 10 = .ok (.iaload, 1) := by decide +kernel
theorem dX12_howMany_11 : decode cX12_howMany 11 = .ok (.if_icmp .ge 26, 3) := by decide +kernel
theorem dX12_howMany_14 : decode cX12_howMany 14 = .ok (.iload_n 2, 1) := by decide +kernel
theorem dX12_howMany_15 : decode cX12_howMany 15 = .ok (.aload_n 0, 1) := by decide +kernel
theorem dX12_howMany_16 : decode cX12_howMany 16 = .ok (.iload_n 3, 1) := by decide +kernel
theorem dX12_howMany_17 : decode cX12_howMany 17 = .ok (.iload_n 1, 1) := by decide +kernel
theorem dX12_howMany_18 : decode cX12_howMany 18 = .ok (.invokevirtual 73, 3) := by decide +kernel
theorem dX12_howMany_21 : decode cX12_howMany 21 = .ok (.ifCond .eq 7, 3) := by decide +kernel
theorem dX12_howMany_24 : decode cX12_howMany 24 = .ok (.iconst 1, 1) := by decide +kernel
theorem dX12_howMany_25 : decode cX12_howMany 25 = .ok (.goto 4, 3) := by decide +kernel
theorem dX12_howMany_28 : decode cX12_howMany 28 = .ok (.iconst 0, 1) := by decide +kernel
theorem dX12_howMany_29 : decode cX12_howMany 29 = .ok (.iadd, 1) := by decide +kernel
theorem dX12_howMany_30 : decode cX12_howMany 30 = .ok (.istore_n 2, 1) := by decide +kernel
theorem dX12_howMany_31 : decode cX12_howMany 31 = .ok (.iinc 3 1, 3) := by decide +kernel
theorem dX12_howMany_34 : decode cX12_howMany 34 = .ok (.goto (-30), 3) := by decide +kernel
theorem dX12_howMany_37 : decode cX12_howMany 37 = .ok (.iload_n 2, 1) := by decide +kernel
theorem dX12_howMany_38 : decode cX12_howMany 38 = .ok (.ireturn, 1) := by decide +kernel
theorem dX12_addUser_0 : decode cX12_addUser 0 = .ok (.aload_n 0, 1) := by decide +kernel
theorem dX12_addUser_1 : decode cX12_addUser 1 = .ok (.iconst 0, 1) := by decide +kernel
theorem dX12_addUser_2 : decode cX12_addUser 2 = .ok (.putfield 39, 3) := by decide +kernel
theorem dX12_addUser_5 : decode cX12_addUser 5 = .ok (.aload_n 0, 1) := by decide +kernel
theorem dX12_addUser_6 : decode cX12_addUser 6 = .ok (.getfield 7, 3) := by decide +kernel
theorem dX12_addUser_9 : decode cX12_addUser 9 = .ok (.iconst 0, 1) := by decide +kernel
theorem dX12_addUser_10 : decode cX12_addUser 10 = .ok (.iaload, 1) := by decide +kernel
theorem dX12_addUser_11 : decode cX12_addUser 11 = .ok (.bipush 12, 2) := by decide +kernel
theorem dX12_addUser_13 : decode cX12_addUser 13 = .ok (.if_icmp .ne 9, 3) := by decide +kernel
theorem dX12_addUser_16 : decode cX12_addUser 16 = .ok (.aload_n 0, 1) := by decide +kernel
theorem dX12_addUser_17 : decode cX12_addUser 17 = .ok (.iconst 1, 1) := by decide +kernel
theorem dX12_addUser_18 : decode cX12_addUser 18 = .ok (.invokevirtual 76, 3) := by decide +kernel
theorem dX12_addUser_21 : decode cX12_addUser 21 = .ok (.ireturn, 1) := by decide +kernel
theorem dX12_addUser_22 : decode cX12_addUser 22 = .ok (.aload_n 0, 1) := by decide +kernel
theorem dX12_addUser_23 : decode cX12_addUser 23 = .ok (.invokevirtual 79, 3) := by decide +kernel
theorem dX12_addUser_26 : decode cX12_addUser 26 = .ok (.aload_n 0, 1) := by decide +kernel
theorem dX12_addUser_27 : decode cX12_addUser 27 = .ok (.getfield 7, 3) := by decide +kernel
theorem dX12_addUser_30 : decode cX12_addUser 30 = .ok (.iconst 0, 1) := by decide +kernel
theorem dX12_addUser_31 : decode cX12_addUser 31 = .ok (.dup2, 1) := by decide +kernel
theorem dX12_addUser_32 : decode cX12_addUser 32 = .ok (.iaload, 1) := by decide +kernel
theorem dX12_addUser_33 : decode cX12_addUser 33 = .ok (.iconst 1, 1) := by decide +kernel
theorem dX12_addUser_34 : decode cX12_addUser 34 = .ok (.iadd, 1) := by decide +kernel
theorem dX12_addUser_35 : decode cX12_addUser 35 = .ok (.iastore, 1) := by decide +kernel
theorem dX12_addUser_36 : decode cX12_addUser 36 = .ok (.aload_n 0, 1) := by decide +kernel
theorem dX12_addUser_37 : decode cX12_addUser 37 = .ok (.getfield 7, 3) := by decide +kernel
theorem dX12_addUser_40 : decode cX12_addUser 40 = .ok (.iconst 0, 1) := by decide +kernel
theorem dX12_addUser_41 : decode cX12_addUser 41 = .ok (.iaload, 1) := by decide +kernel
theorem dX12_addUser_42 : decode cX12_addUser 42 = .ok (.iconst 1, 1) := by decide +kernel
theorem dX12_addUser_43 : decode cX12_addUser 43 = .ok (.isub, 1) := by decide +kernel
theorem dX12_addUser_44 : decode cX12_addUser 44 = .ok (.ireturn, 1) := by decide +kernel
theorem dX12_addGroup_0 : decode cX12_addGroup 0 = .ok (.aload_n 0, 1) := by decide +kernel
theorem dX12_addGroup_1 : decode cX12_addGroup 1 = .ok (.iconst 0, 1) := by decide +kernel
theorem dX12_addGroup_2 : decode cX12_addGroup 2 = .ok (.putfield 39, 3) := by decide +kernel
theorem dX12_addGroup_5 : decode cX12_addGroup 5 = .ok (.aload_n 0, 1) := by decide +kernel
theorem dX12_addGroup_6 : decode cX12_addGroup 6 = .ok (.getfield 7, 3) := by decide +kernel
theorem dX12_addGroup_9 : decode cX12_addGroup 9 = .ok (.iconst 1, 1) := by decide +kernel
theorem dX12_addGroup_10 : decode cX12_addGroup 10 = .ok (.iaload, 1) := by decide +kernel
theorem dX12_addGroup_11 : decode cX12_addGroup 11 = .ok (.bipush 8, 2) := by decide +kernel
theorem dX12_addGroup_13 : decode cX12_addGroup 13 = .ok (.if_icmp .ne 9, 3) := by decide +kernel
theorem dX12_addGroup_16 : decode cX12_addGroup 16 = .ok (.aload_n 0, 1) := by decide +kernel
theorem dX12_addGroup_17 : decode cX12_addGroup 17 = .ok (.iconst 1, 1) := by decide +kernel
theorem dX12_addGroup_18 : decode cX12_addGroup 18 = .ok (.invokevirtual 76, 3) := by decide +kernel
theorem dX12_addGroup_21 : decode cX12_addGroup 21 = .ok (.ireturn, 1) := by decide +kernel
theorem dX12_addGroup_22 : decode cX12_addGroup 22 = .ok (.aload_n 0, 1) := by decide +kernel
theorem dX12_addGroup_23 : decode cX12_addGroup 23 = .ok (.invokevirtual 79, 3) := by decide +kernel
theorem dX12_addGroup_26 : decode cX12_addGroup 26 = .ok (.aload_n 0, 1) := by decide +kernel
theorem dX12_addGroup_27 : decode cX12_addGroup 27 = .ok (.getfield 7, 3) := by decide +kernel
theorem dX12_addGroup_30 : decode cX12_addGroup 30 = .ok (.iconst 1, 1) := by decide +kernel
theorem dX12_addGroup_31 : decode cX12_addGroup 31 = .ok (.dup2, 1) := by decide +kernel
theorem dX12_addGroup_32 : decode cX12_addGroup 32 = .ok (.iaload, 1) := by decide +kernel
theorem dX12_addGroup_33 : decode cX12_addGroup 33 = .ok (.iconst 1, 1) := by decide +kernel
theorem dX12_addGroup_34 : decode cX12_addGroup 34 = .ok (.iadd, 1) := by decide +kernel
theorem dX12_addGroup_35 : decode cX12_addGroup 35 = .ok (.iastore, 1) := by decide +kernel
theorem dX12_addGroup_36 : decode cX12_addGroup 36 = .ok (.aload_n 0, 1) := by decide +kernel
theorem dX12_addGroup_37 : decode cX12_addGroup 37 = .ok (.getfield 7, 3) := by decide +kernel
theorem dX12_addGroup_40 : decode cX12_addGroup 40 = .ok (.iconst 1, 1) := by decide +kernel
theorem dX12_addGroup_41 : decode cX12_addGroup 41 = .ok (.iaload, 1) := by decide +kernel
theorem dX12_addGroup_42 : decode cX12_addGroup 42 = .ok (.iconst 1, 1) := by decide +kernel
theorem dX12_addGroup_43 : decode cX12_addGroup 43 = .ok (.isub, 1) := by decide +kernel
theorem dX12_addGroup_44 : decode cX12_addGroup 44 = .ok (.ireturn, 1) := by decide +kernel
theorem dX12_join_0 : decode cX12_join 0 = .ok (.aload_n 0, 1) := by decide +kernel
theorem dX12_join_1 : decode cX12_join 1 = .ok (.iconst 0, 1) := by decide +kernel
theorem dX12_join_2 : decode cX12_join 2 = .ok (.putfield 39, 3) := by decide +kernel
theorem dX12_join_5 : decode cX12_join 5 = .ok (.aload_n 0, 1) := by decide +kernel
theorem dX12_join_6 : decode cX12_join 6 = .ok (.iload_n 1, 1) := by decide +kernel
theorem dX12_join_7 : decode cX12_join 7 = .ok (.invokevirtual 82, 3) := by decide +kernel
theorem dX12_join_10 : decode cX12_join 10 = .ok (.ifCond .eq 11, 3) := by decide +kernel
theorem dX12_join_13 : decode cX12_join 13 = .ok (.aload_n 0, 1) := by decide +kernel
theorem dX12_join_14 : decode cX12_join 14 = .ok (.iload_n 2, 1) := by decide +kernel
theorem dX12_join_15 : decode cX12_join 15 = .ok (.invokevirtual 85, 3) := by decide +kernel
theorem dX12_join_18 : decode cX12_join 18 = .ok (.ifCond .ne 9, 3) := by decide +kernel
theorem dX12_join_21 : decode cX12_join 21 = .ok (.aload_n 0, 1) := by decide +kernel
theorem dX12_join_22 : decode cX12_join 22 = .ok (.iconst 1, 1) := by decide +kernel
theorem dX12_join_23 : decode cX12_join 23 = .ok (.invokevirtual 76, 3) := by decide +kernel
theorem dX12_join_26 : decode cX12_join 26 = .ok (.ireturn, 1) := by decide +kernel
theorem dX12_join_27 : decode cX12_join 27 = .ok (.aload_n 0, 1) := by decide +kernel
theorem dX12_join_28 : decode cX12_join 28 = .ok (.getfield 7, 3) := by decide +kernel
theorem dX12_join_31 : decode cX12_join 31 = .ok (.iconst 2, 1) := by decide +kernel
theorem dX12_join_32 : decode cX12_join 32 = .ok (.iload_n 2, 1) := by decide +kernel
theorem dX12_join_33 : decode cX12_join 33 = .ok (.iadd, 1) := by decide +kernel
theorem dX12_join_34 : decode cX12_join 34 = .ok (.iaload, 1) := by decide +kernel
theorem dX12_join_35 : decode cX12_join 35 = .ok (.iload_n 1, 1) := by decide +kernel
theorem dX12_join_36 : decode cX12_join 36 = .ok (.invokestatic 65, 3) := by decide +kernel
theorem dX12_join_39 : decode cX12_join 39 = .ok (.ifCond .eq 9, 3) := by decide +kernel
theorem dX12_join_42 : decode cX12_join 42 = .ok (.aload_n 0, 1) := by decide +kernel
theorem dX12_join_43 : decode cX12_join 43 = .ok (.iconst 2, 1) := by decide +kernel
theorem dX12_join_44 : decode cX12_join 44 = .ok (.invokevirtual 76, 3) := by decide +kernel
theorem dX12_join_47 : decode cX12_join 47 = .ok (.ireturn, 1) := by decide +kernel
theorem dX12_join_48 : decode cX12_join 48 = .ok (.aload_n 0, 1) := by decide +kernel
theorem dX12_join_49 : decode cX12_join 49 = .ok (.invokevirtual 79, 3) := by decide +kernel
theorem dX12_join_52 : decode cX12_join 52 = .ok (.aload_n 0, 1) := by decide +kernel
theorem dX12_join_53 : decode cX12_join 53 = .ok (.getfield 7, 3) := by decide +kernel
theorem dX12_join_56 : decode cX12_join 56 = .ok (.iconst 2, 1) := by decide +kernel
theorem dX12_join_57 : decode cX12_join 57 = .ok (.iload_n 2, 1) := by decide +kernel
theorem dX12_join_58 : decode cX12_join 58 = .ok (.iadd, 1) := by decide +kernel
theorem dX12_join_59 : decode cX12_join 59 = .ok (.dup2, 1) := by decide +kernel
theorem dX12_join_60 : decode cX12_join 60 = .ok (.iaload, 1) := by decide +kernel
theorem dX12_join_61 : decode cX12_join 61 = .ok (.iconst 1, 1) := by decide +kernel
theorem dX12_join_62 : decode cX12_join 62 = .ok (.iload_n 1, 1) := by decide +kernel
theorem dX12_join_63 : decode cX12_join 63 = .ok (.ishl, 1) := by decide +kernel
theorem dX12_join_64 : decode cX12_join 64 = .ok (.ior, 1) := by decide +kernel
theorem dX12_join_65 : decode cX12_join 65 = .ok (.iastore, 1) := by decide +kernel
theorem dX12_join_66 : decode cX12_join 66 = .ok (.aload_n 0, 1) := by decide +kernel
theorem dX12_join_67 : decode cX12_join 67 = .ok (.iload_n 2, 1) := by decide +kernel
theorem dX12_join_68 : decode cX12_join 68 = .ok (.invokevirtual 88, 3) := by decide +kernel
theorem dX12_join_71 : decode cX12_join 71 = .ok (.ireturn, 1) := by decide +kernel
theorem dX12_leave_0 : decode cX12_leave 0 = .ok (.aload_n 0, 1) := by decide +kernel
theorem dX12_leave_1 : decode cX12_leave 1 = .ok (.iconst 0, 1) := by decide +kernel
theorem dX12_leave_2 : decode cX12_leave 2 = .ok (.putfield 39, 3) := by decide +kernel
theorem dX12_leave_5 : decode cX12_leave 5 = .ok (.aload_n 0, 1) := by decide +kernel
theorem dX12_leave_6 : decode cX12_leave 6 = .ok (.iload_n 1, 1) := by decide +kernel
theorem dX12_leave_7 : decode cX12_leave 7 = .ok (.invokevirtual 82, 3) := by decide +kernel
theorem dX12_leave_10 : decode cX12_leave 10 = .ok (.ifCond .eq 11, 3) := by decide +kernel
theorem dX12_leave_13 : decode cX12_leave 13 = .ok (.aload_n 0, 1) := by decide +kernel
theorem dX12_leave_14 : decode cX12_leave 14 = .ok (.iload_n 2, 1) := by decide +kernel
theorem dX12_leave_15 : decode cX12_leave 15 = .ok (.invokevirtual 85, 3) := by decide +kernel
theorem dX12_leave_18 : decode cX12_leave 18 = .ok (.ifCond .ne 9, 3) := by decide +kernel
theorem dX12_leave_21 : decode cX12_leave 21 = .ok (.aload_n 0, 1) := by decide +kernel
theorem dX12_leave_22 : decode cX12_leave 22 = .ok (.iconst 1, 1) := by decide +kernel
theorem dX12_leave_23 : decode cX12_leave 23 = .ok (.invokevirtual 76, 3) := by decide +kernel
theorem dX12_leave_26 : decode cX12_leave 26 = .ok (.ireturn, 1) := by decide +kernel
theorem dX12_leave_27 : decode cX12_leave 27 = .ok (.aload_n 0, 1) := by decide +kernel
theorem dX12_leave_28 : decode cX12_leave 28 = .ok (.getfield 7, 3) := by decide +kernel
theorem dX12_leave_31 : decode cX12_leave 31 = .ok (.iconst 2, 1) := by decide +kernel
theorem dX12_leave_32 : decode cX12_leave 32 = .ok (.iload_n 2, 1) := by decide +kernel
theorem dX12_leave_33 : decode cX12_leave 33 = .ok (.iadd, 1) := by decide +kernel
theorem dX12_leave_34 : decode cX12_leave 34 = .ok (.iaload, 1) := by decide +kernel
theorem dX12_leave_35 : decode cX12_leave 35 = .ok (.iload_n 1, 1) := by decide +kernel
theorem dX12_leave_36 : decode cX12_leave 36 = .ok (.invokestatic 65, 3) := by decide +kernel
theorem dX12_leave_39 : decode cX12_leave 39 = .ok (.ifCond .ne 9, 3) := by decide +kernel
theorem dX12_leave_42 : decode cX12_leave 42 = .ok (.aload_n 0, 1) := by decide +kernel
theorem dX12_leave_43 : decode cX12_leave 43 = .ok (.iconst 2, 1) := by decide +kernel
theorem dX12_leave_44 : decode cX12_leave 44 = .ok (.invokevirtual 76, 3) := by decide +kernel
theorem dX12_leave_47 : decode cX12_leave 47 = .ok (.ireturn, 1) := by decide +kernel
theorem dX12_leave_48 : decode cX12_leave 48 = .ok (.aload_n 0, 1) := by decide +kernel
theorem dX12_leave_49 : decode cX12_leave 49 = .ok (.invokevirtual 79, 3) := by decide +kernel
theorem dX12_leave_52 : decode cX12_leave 52 = .ok (.aload_n 0, 1) := by decide +kernel
theorem dX12_leave_53 : decode cX12_leave 53 = .ok (.getfield 7, 3) := by decide +kernel
theorem dX12_leave_56 : decode cX12_leave 56 = .ok (.iconst 2, 1) := by decide +kernel
theorem dX12_leave_57 : decode cX12_leave 57 = .ok (.iload_n 2, 1) := by decide +kernel
theorem dX12_leave_58 : decode cX12_leave 58 = .ok (.iadd, 1) := by decide +kernel
theorem dX12_leave_59 : decode cX12_leave 59 = .ok (.dup2, 1) := by decide +kernel
theorem dX12_leave_60 : decode cX12_leave 60 = .ok (.iaload, 1) := by decide +kernel
theorem dX12_leave_61 : decode cX12_leave 61 = .ok (.iconst 1, 1) := by decide +kernel
theorem dX12_leave_62 : decode cX12_leave 62 = .ok (.iload_n 1, 1) := by decide +kernel
theorem dX12_leave_63 : decode cX12_leave 63 = .ok (.ishl, 1) := by decide +kernel
theorem dX12_leave_64 : decode cX12_leave 64 = .ok (.isub, 1) := by decide +kernel
theorem dX12_leave_65 : decode cX12_leave 65 = .ok (.iastore, 1) := by decide +kernel
theorem dX12_leave_66 : decode cX12_leave 66 = .ok (.aload_n 0, 1) := by decide +kernel
theorem dX12_leave_67 : decode cX12_leave 67 = .ok (.iload_n 2, 1) := by decide +kernel
theorem dX12_leave_68 : decode cX12_leave 68 = .ok (.invokevirtual 88, 3) := by decide +kernel
theorem dX12_leave_71 : decode cX12_leave 71 = .ok (.ireturn, 1) := by decide +kernel
theorem dX12_nest_0 : decode cX12_nest 0 = .ok (.aload_n 0, 1) := by decide +kernel
theorem dX12_nest_1 : decode cX12_nest 1 = .ok (.iconst 0, 1) := by decide +kernel
theorem dX12_nest_2 : decode cX12_nest 2 = .ok (.putfield 39, 3) := by decide +kernel
theorem dX12_nest_5 : decode cX12_nest 5 = .ok (.aload_n 0, 1) := by decide +kernel
theorem dX12_nest_6 : decode cX12_nest 6 = .ok (.iload_n 1, 1) := by decide +kernel
theorem dX12_nest_7 : decode cX12_nest 7 = .ok (.invokevirtual 85, 3) := by decide +kernel
theorem dX12_nest_10 : decode cX12_nest 10 = .ok (.ifCond .eq 11, 3) := by decide +kernel
theorem dX12_nest_13 : decode cX12_nest 13 = .ok (.aload_n 0, 1) := by decide +kernel
theorem dX12_nest_14 : decode cX12_nest 14 = .ok (.iload_n 2, 1) := by decide +kernel
theorem dX12_nest_15 : decode cX12_nest 15 = .ok (.invokevirtual 85, 3) := by decide +kernel
theorem dX12_nest_18 : decode cX12_nest 18 = .ok (.ifCond .ne 9, 3) := by decide +kernel
theorem dX12_nest_21 : decode cX12_nest 21 = .ok (.aload_n 0, 1) := by decide +kernel
theorem dX12_nest_22 : decode cX12_nest 22 = .ok (.iconst 1, 1) := by decide +kernel
theorem dX12_nest_23 : decode cX12_nest 23 = .ok (.invokevirtual 76, 3) := by decide +kernel
theorem dX12_nest_26 : decode cX12_nest 26 = .ok (.ireturn, 1) := by decide +kernel
theorem dX12_nest_27 : decode cX12_nest 27 = .ok (.iload_n 1, 1) := by decide +kernel
theorem dX12_nest_28 : decode cX12_nest 28 = .ok (.iload_n 2, 1) := by decide +kernel
theorem dX12_nest_29 : decode cX12_nest 29 = .ok (.if_icmp .eq 31, 3) := by decide +kernel
theorem dX12_nest_32 : decode cX12_nest 32 = .ok (.aload_n 0, 1) := by decide +kernel
theorem dX12_nest_33 : decode cX12_nest 33 = .ok (.getfield 7, 3) := by decide +kernel
theorem dX12_nest_36 : decode cX12_nest 36 = .ok (.bipush 10, 2) := by decide +kernel
theorem dX12_nest_38 : decode cX12_nest 38 = .ok (.iload_n 1, 1) := by decide +kernel
theorem dX12_nest_39 : decode cX12_nest 39 = .ok (.iadd, 1) := by decide +kernel
theorem dX12_nest_40 : decode cX12_nest 40 = .ok (.iaload, 1) := by decide +kernel
theorem dX12_nest_41 : decode cX12_nest 41 = .ok (.iload_n 2, 1) := by decide +kernel
theorem dX12_nest_42 : decode cX12_nest 42 = .ok (.invokestatic 65, 3) := by decide +kernel
theorem dX12_nest_45 : decode cX12_nest 45 = .ok (.ifCond .ne 15, 3) := by decide +kernel
theorem dX12_nest_48 : decode cX12_nest 48 = .ok (.aload_n 0, 1) := by decide +kernel
theorem dX12_nest_49 : decode cX12_nest 49 = .ok (.iload_n 2, 1) := by decide +kernel
theorem dX12_nest_50 : decode cX12_nest 50 = .ok (.invokevirtual 69, 3) := by decide +kernel
theorem dX12_nest_53 : decode cX12_nest 53 = .ok (.iload_n 1, 1) := by decide +kernel
theorem dX12_nest_54 : decode cX12_nest 54 = .ok (.invokestatic 65, 3) := by decide +kernel
theorem dX12_nest_57 : decode cX12_nest 57 = .ok (.ifCond .eq 9, 3) := by decide +kernel
theorem dX12_nest_60 : decode cX12_nest 60 = .ok (.aload_n 0, 1) := by decide +kernel
theorem dX12_nest_61 : decode cX12_nest 61 = .ok (.iconst 2, 1) := by decide +kernel
theorem dX12_nest_62 : decode cX12_nest 62 = .ok (.invokevirtual 76, 3) := by decide +kernel
theorem dX12_nest_65 : decode cX12_nest 65 = .ok (.ireturn, 1) := by decide +kernel
theorem dX12_nest_66 : decode cX12_nest 66 = .ok (.aload_n 0, 1) := by decide +kernel
theorem dX12_nest_67 : decode cX12_nest 67 = .ok (.invokevirtual 79, 3) := by decide +kernel
theorem dX12_nest_70 : decode cX12_nest 70 = .ok (.aload_n 0, 1) := by decide +kernel
theorem dX12_nest_71 : decode cX12_nest 71 = .ok (.getfield 7, 3) := by decide +kernel
theorem dX12_nest_74 : decode cX12_nest 74 = .ok (.bipush 10, 2) := by decide +kernel
theorem dX12_nest_76 : decode cX12_nest 76 = .ok (.iload_n 1, 1) := by decide +kernel
theorem dX12_nest_77 : decode cX12_nest 77 = .ok (.iadd, 1) := by decide +kernel
theorem dX12_nest_78 : decode cX12_nest 78 = .ok (.dup2, 1) := by decide +kernel
theorem dX12_nest_79 : decode cX12_nest 79 = .ok (.iaload, 1) := by decide +kernel
theorem dX12_nest_80 : decode cX12_nest 80 = .ok (.iconst 1, 1) := by decide +kernel
theorem dX12_nest_81 : decode cX12_nest 81 = .ok (.iload_n 2, 1) := by decide +kernel
theorem dX12_nest_82 : decode cX12_nest 82 = .ok (.ishl, 1) := by decide +kernel
theorem dX12_nest_83 : decode cX12_nest 83 = .ok (.ior, 1) := by decide +kernel
theorem dX12_nest_84 : decode cX12_nest 84 = .ok (.iastore, 1) := by decide +kernel
theorem dX12_nest_85 : decode cX12_nest 85 = .ok (.aload_n 0, 1) := by decide +kernel
theorem dX12_nest_86 : decode cX12_nest 86 = .ok (.iload_n 2, 1) := by decide +kernel
theorem dX12_nest_87 : decode cX12_nest 87 = .ok (.invokevirtual 88, 3) := by decide +kernel
theorem dX12_nest_90 : decode cX12_nest 90 = .ok (.ireturn, 1) := by decide +kernel
theorem dX12_unnest_0 : decode cX12_unnest 0 = .ok (.aload_n 0, 1) := by decide +kernel
theorem dX12_unnest_1 : decode cX12_unnest 1 = .ok (.iconst 0, 1) := by decide +kernel
theorem dX12_unnest_2 : decode cX12_unnest 2 = .ok (.putfield 39, 3) := by decide +kernel
theorem dX12_unnest_5 : decode cX12_unnest 5 = .ok (.aload_n 0, 1) := by decide +kernel
theorem dX12_unnest_6 : decode cX12_unnest 6 = .ok (.iload_n 1, 1) := by decide +kernel
theorem dX12_unnest_7 : decode cX12_unnest 7 = .ok (.invokevirtual 85, 3) := by decide +kernel
theorem dX12_unnest_10 : decode cX12_unnest 10 = .ok (.ifCond .eq 11, 3) := by decide +kernel
theorem dX12_unnest_13 : decode cX12_unnest 13 = .ok (.aload_n 0, 1) := by decide +kernel
theorem dX12_unnest_14 : decode cX12_unnest 14 = .ok (.iload_n 2, 1) := by decide +kernel
theorem dX12_unnest_15 : decode cX12_unnest 15 = .ok (.invokevirtual 85, 3) := by decide +kernel
theorem dX12_unnest_18 : decode cX12_unnest 18 = .ok (.ifCond .ne 9, 3) := by decide +kernel
theorem dX12_unnest_21 : decode cX12_unnest 21 = .ok (.aload_n 0, 1) := by decide +kernel
theorem dX12_unnest_22 : decode cX12_unnest 22 = .ok (.iconst 1, 1) := by decide +kernel
theorem dX12_unnest_23 : decode cX12_unnest 23 = .ok (.invokevirtual 76, 3) := by decide +kernel
theorem dX12_unnest_26 : decode cX12_unnest 26 = .ok (.ireturn, 1) := by decide +kernel
theorem dX12_unnest_27 : decode cX12_unnest 27 = .ok (.aload_n 0, 1) := by decide +kernel
theorem dX12_unnest_28 : decode cX12_unnest 28 = .ok (.getfield 7, 3) := by decide +kernel
theorem dX12_unnest_31 : decode cX12_unnest 31 = .ok (.bipush 10, 2) := by decide +kernel
theorem dX12_unnest_33 : decode cX12_unnest 33 = .ok (.iload_n 1, 1) := by decide +kernel
theorem dX12_unnest_34 : decode cX12_unnest 34 = .ok (.iadd, 1) := by decide +kernel
theorem dX12_unnest_35 : decode cX12_unnest 35 = .ok (.iaload, 1) := by decide +kernel
theorem dX12_unnest_36 : decode cX12_unnest 36 = .ok (.iload_n 2, 1) := by decide +kernel
theorem dX12_unnest_37 : decode cX12_unnest 37 = .ok (.invokestatic 65, 3) := by decide +kernel
theorem dX12_unnest_40 : decode cX12_unnest 40 = .ok (.ifCond .ne 9, 3) := by decide +kernel
theorem dX12_unnest_43 : decode cX12_unnest 43 = .ok (.aload_n 0, 1) := by decide +kernel
theorem dX12_unnest_44 : decode cX12_unnest 44 = .ok (.iconst 2, 1) := by decide +kernel
theorem dX12_unnest_45 : decode cX12_unnest 45 = .ok (.invokevirtual 76, 3) := by decide +kernel
theorem dX12_unnest_48 : decode cX12_unnest 48 = .ok (.ireturn, 1) := by decide +kernel
theorem dX12_unnest_49 : decode cX12_unnest 49 = .ok (.aload_n 0, 1) := by decide +kernel
theorem dX12_unnest_50 : decode cX12_unnest 50 = .ok (.invokevirtual 79, 3) := by decide +kernel
theorem dX12_unnest_53 : decode cX12_unnest 53 = .ok (.aload_n 0, 1) := by decide +kernel
theorem dX12_unnest_54 : decode cX12_unnest 54 = .ok (.getfield 7, 3) := by decide +kernel
theorem dX12_unnest_57 : decode cX12_unnest 57 = .ok (.bipush 10, 2) := by decide +kernel
theorem dX12_unnest_59 : decode cX12_unnest 59 = .ok (.iload_n 1, 1) := by decide +kernel
theorem dX12_unnest_60 : decode cX12_unnest 60 = .ok (.iadd, 1) := by decide +kernel
theorem dX12_unnest_61 : decode cX12_unnest 61 = .ok (.dup2, 1) := by decide +kernel
theorem dX12_unnest_62 : decode cX12_unnest 62 = .ok (.iaload, 1) := by decide +kernel
theorem dX12_unnest_63 : decode cX12_unnest 63 = .ok (.iconst 1, 1) := by decide +kernel
theorem dX12_unnest_64 : decode cX12_unnest 64 = .ok (.iload_n 2, 1) := by decide +kernel
theorem dX12_unnest_65 : decode cX12_unnest 65 = .ok (.ishl, 1) := by decide +kernel
theorem dX12_unnest_66 : decode cX12_unnest 66 = .ok (.isub, 1) := by decide +kernel
theorem dX12_unnest_67 : decode cX12_unnest 67 = .ok (.iastore, 1) := by decide +kernel
theorem dX12_unnest_68 : decode cX12_unnest 68 = .ok (.aload_n 0, 1) := by decide +kernel
theorem dX12_unnest_69 : decode cX12_unnest 69 = .ok (.iload_n 2, 1) := by decide +kernel
theorem dX12_unnest_70 : decode cX12_unnest 70 = .ok (.invokevirtual 88, 3) := by decide +kernel
theorem dX12_unnest_73 : decode cX12_unnest 73 = .ok (.ireturn, 1) := by decide +kernel
theorem dX12_founds_0 : decode cX12_founds 0 = .ok (.iconst 0, 1) := by decide +kernel
theorem dX12_founds_1 : decode cX12_founds 1 = .ok (.istore 4, 2) := by decide +kernel
theorem dX12_founds_3 : decode cX12_founds 3 = .ok (.iload 4, 2) := by decide +kernel
theorem dX12_founds_5 : decode cX12_founds 5 = .ok (.bipush 36, 2) := by decide +kernel
theorem dX12_founds_7 : decode cX12_founds 7 = .ok (.if_icmp .ge 21, 3) := by decide +kernel
theorem dX12_founds_10 : decode cX12_founds 10 = .ok (.aload_n 0, 1) := by decide +kernel
theorem dX12_founds_11 : decode cX12_founds 11 = .ok (.getfield 7, 3) := by decide +kernel
theorem dX12_founds_14 : decode cX12_founds 14 = .ok (.iload_n 1, 1) := by decide +kernel
theorem dX12_founds_15 : decode cX12_founds 15 = .ok (.iload 4, 2) := by decide +kernel
theorem dX12_founds_17 : decode cX12_founds 17 = .ok (.invokestatic 50, 3) := by decide +kernel
theorem dX12_founds_20 : decode cX12_founds 20 = .ok (.iconst 0, 1) := by decide +kernel
theorem dX12_founds_21 : decode cX12_founds 21 = .ok (.iastore, 1) := by decide +kernel
theorem dX12_founds_22 : decode cX12_founds 22 = .ok (.iinc 4 1, 3) := by decide +kernel
theorem dX12_founds_25 : decode cX12_founds 25 = .ok (.goto (-22), 3) := by decide +kernel
theorem dX12_founds_28 : decode cX12_founds 28 = .ok (.aload_n 0, 1) := by decide +kernel
theorem dX12_founds_29 : decode cX12_founds 29 = .ok (.getfield 7, 3) := by decide +kernel
theorem dX12_founds_32 : decode cX12_founds 32 = .ok (.iload_n 1, 1) := by decide +kernel
theorem dX12_founds_33 : decode cX12_founds 33 = .ok (.iconst 0, 1) := by decide +kernel
theorem dX12_founds_34 : decode cX12_founds 34 = .ok (.invokestatic 50, 3) := by decide +kernel
theorem dX12_founds_37 : decode cX12_founds 37 = .ok (.iconst 1, 1) := by decide +kernel
theorem dX12_founds_38 : decode cX12_founds 38 = .ok (.iastore, 1) := by decide +kernel
theorem dX12_founds_39 : decode cX12_founds 39 = .ok (.aload_n 0, 1) := by decide +kernel
theorem dX12_founds_40 : decode cX12_founds 40 = .ok (.getfield 7, 3) := by decide +kernel
theorem dX12_founds_43 : decode cX12_founds 43 = .ok (.iload_n 1, 1) := by decide +kernel
theorem dX12_founds_44 : decode cX12_founds 44 = .ok (.iconst 1, 1) := by decide +kernel
theorem dX12_founds_45 : decode cX12_founds 45 = .ok (.invokestatic 50, 3) := by decide +kernel
theorem dX12_founds_48 : decode cX12_founds 48 = .ok (.iload_n 2, 1) := by decide +kernel
theorem dX12_founds_49 : decode cX12_founds 49 = .ok (.iastore, 1) := by decide +kernel
theorem dX12_founds_50 : decode cX12_founds 50 = .ok (.aload_n 0, 1) := by decide +kernel
theorem dX12_founds_51 : decode cX12_founds 51 = .ok (.getfield 7, 3) := by decide +kernel
theorem dX12_founds_54 : decode cX12_founds 54 = .ok (.iload_n 1, 1) := by decide +kernel
theorem dX12_founds_55 : decode cX12_founds 55 = .ok (.iconst 2, 1) := by decide +kernel
theorem dX12_founds_56 : decode cX12_founds 56 = .ok (.invokestatic 50, 3) := by decide +kernel
theorem dX12_founds_59 : decode cX12_founds 59 = .ok (.iload_n 3, 1) := by decide +kernel
theorem dX12_founds_60 : decode cX12_founds 60 = .ok (.iastore, 1) := by decide +kernel
theorem dX12_founds_61 : decode cX12_founds 61 = .ok (.aload_n 0, 1) := by decide +kernel
theorem dX12_founds_62 : decode cX12_founds 62 = .ok (.getfield 7, 3) := by decide +kernel
theorem dX12_founds_65 : decode cX12_founds 65 = .ok (.iload_n 1, 1) := by decide +kernel
theorem dX12_founds_66 : decode cX12_founds 66 = .ok (.iconst 3, 1) := by decide +kernel
theorem dX12_founds_67 : decode cX12_founds 67 = .ok (.invokestatic 50, 3) := by decide +kernel
theorem dX12_founds_70 : decode cX12_founds 70 = .ok (.bipush 15, 2) := by decide +kernel
theorem dX12_founds_72 : decode cX12_founds 72 = .ok (.iastore, 1) := by decide +kernel
theorem dX12_founds_73 : decode cX12_founds 73 = .ok (.aload_n 0, 1) := by decide +kernel
theorem dX12_founds_74 : decode cX12_founds 74 = .ok (.getfield 7, 3) := by decide +kernel
theorem dX12_founds_77 : decode cX12_founds 77 = .ok (.iload_n 1, 1) := by decide +kernel
theorem dX12_founds_78 : decode cX12_founds 78 = .ok (.iconst 4, 1) := by decide +kernel
theorem dX12_founds_79 : decode cX12_founds 79 = .ok (.invokestatic 50, 3) := by decide +kernel
theorem dX12_founds_82 : decode cX12_founds 82 = .ok (.iconst 1, 1) := by decide +kernel
theorem dX12_founds_83 : decode cX12_founds 83 = .ok (.iastore, 1) := by decide +kernel
theorem dX12_founds_84 : decode cX12_founds 84 = .ok (.return_, 1) := by decide +kernel
theorem dX12_howManyObjects_0 : decode cX12_howManyObjects 0 = .ok (.iconst 0, 1) := by decide +kernel
theorem dX12_howManyObjects_1 : decode cX12_howManyObjects 1 = .ok (.istore_n 1, 1) := by decide +kernel
theorem dX12_howManyObjects_2 : decode cX12_howManyObjects 2 = .ok (.iconst 0, 1) := by decide +kernel
theorem dX12_howManyObjects_3 : decode cX12_howManyObjects 3 = .ok (.istore_n 2, 1) := by decide +kernel
theorem dX12_howManyObjects_4 : decode cX12_howManyObjects 4 = .ok (.iload_n 2, 1) := by decide +kernel
theorem dX12_howManyObjects_5 : decode cX12_howManyObjects 5 = .ok (.bipush 20, 2) := by decide +kernel
theorem dX12_howManyObjects_7 : decode cX12_howManyObjects 7 = .ok (.if_icmp .ge 18, 3) := by decide +kernel
theorem dX12_howManyObjects_10 : decode cX12_howManyObjects 10 = .ok (.iload_n 1, 1) := by decide +kernel
theorem dX12_howManyObjects_11 : decode cX12_howManyObjects 11 = .ok (.aload_n 0, 1) := by decide +kernel
theorem dX12_howManyObjects_12 : decode cX12_howManyObjects 12 = .ok (.iload_n 2, 1) := by decide +kernel
theorem dX12_howManyObjects_13 : decode cX12_howManyObjects 13 = .ok (.iconst 0, 1) := by decide +kernel
theorem dX12_howManyObjects_14 : decode cX12_howManyObjects 14 = .ok (.invokevirtual 54, 3) := by decide +kernel
theorem dX12_howManyObjects_17 : decode cX12_howManyObjects 17 = .ok (.iadd, 1) := by decide +kernel
theorem dX12_howManyObjects_18 : decode cX12_howManyObjects 18 = .ok (.istore_n 1, 1) := by decide +kernel
theorem dX12_howManyObjects_19 : decode cX12_howManyObjects 19 = .ok (.iinc 2 1, 3) := by decide +kernel
theorem dX12_howManyObjects_22 : decode cX12_howManyObjects 22 = .ok (.goto (-18), 3) := by decide +kernel
theorem dX12_howManyObjects_25 : decode cX12_howManyObjects 25 = .ok (.iload_n 1, 1) := by decide +kernel
theorem dX12_howManyObjects_26 : decode cX12_howManyObjects 26 = .ok (.ireturn, 1) := by decide +kernel
theorem dX12_isBelow_0 : decode cX12_isBelow 0 = .ok (.aload_n 0, 1) := by decide +kernel
theorem dX12_isBelow_1 : decode cX12_isBelow 1 = .ok (.iload_n 1, 1) := by decide +kernel
theorem dX12_isBelow_2 : decode cX12_isBelow 2 = .ok (.iconst 1, 1) := by decide +kernel
theorem dX12_isBelow_3 : decode cX12_isBelow 3 = .ok (.invokevirtual 54, 3) := by decide +kernel
theorem dX12_isBelow_6 : decode cX12_isBelow 6 = .ok (.istore_n 3, 1) := by decide +kernel
theorem dX12_isBelow_7 : decode cX12_isBelow 7 = .ok (.iload_n 3, 1) := by decide +kernel
theorem dX12_isBelow_8 : decode cX12_isBelow 8 = .ok (.ifCond .lt 18, 3) := by decide +kernel
theorem dX12_isBelow_11 : decode cX12_isBelow 11 = .ok (.iload_n 3, 1) := by decide +kernel
theorem dX12_isBelow_12 : decode cX12_isBelow 12 = .ok (.iload_n 2, 1) := by decide +kernel
theorem dX12_isBelow_13 : decode cX12_isBelow 13 = .ok (.if_icmp .eq 13, 3) := by decide +kernel
theorem dX12_isBelow_16 : decode cX12_isBelow 16 = .ok (.aload_n 0, 1) := by decide +kernel
theorem dX12_isBelow_17 : decode cX12_isBelow 17 = .ok (.iload_n 3, 1) := by decide +kernel
theorem dX12_isBelow_18 : decode cX12_isBelow 18 = .ok (.iconst 1, 1) := by decide +kernel
theorem dX12_isBelow_19 : decode cX12_isBelow 19 = .ok (.invokevirtual 54, 3) := by decide +kernel
theorem dX12_isBelow_22 : decode cX12_isBelow 22 = .ok (.istore_n 3, 1) := by decide +kernel
theorem dX12_isBelow_23 : decode cX12_isBelow 23 = .ok (.goto (-16), 3) := by decide +kernel
theorem dX12_isBelow_26 : decode cX12_isBelow 26 = .ok (.iload_n 3, 1) := by decide +kernel
theorem dX12_isBelow_27 : decode cX12_isBelow 27 = .ok (.iload_n 2, 1) := by decide +kernel
theorem dX12_isBelow_28 : decode cX12_isBelow 28 = .ok (.if_icmp .ne 7, 3) := by decide +kernel
theorem dX12_isBelow_31 : decode cX12_isBelow 31 = .ok (.iconst 1, 1) := by decide +kernel
theorem dX12_isBelow_32 : decode cX12_isBelow 32 = .ok (.goto 4, 3) := by decide +kernel
theorem dX12_isBelow_35 : decode cX12_isBelow 35 = .ok (.iconst 0, 1) := by decide +kernel
theorem dX12_isBelow_36 : decode cX12_isBelow 36 = .ok (.ireturn, 1) := by decide +kernel
theorem dX12_belows_0 : decode cX12_belows 0 = .ok (.iconst 0, 1) := by decide +kernel
theorem dX12_belows_1 : decode cX12_belows 1 = .ok (.istore_n 2, 1) := by decide +kernel
theorem dX12_belows_2 : decode cX12_belows 2 = .ok (.iconst 0, 1) := by decide +kernel
theorem dX12_belows_3 : decode cX12_belows 3 = .ok (.istore_n 3, 1) := by decide +kernel
theorem dX12_belows_4 : decode cX12_belows 4 = .ok (.iload_n 3, 1) := by decide +kernel
theorem dX12_belows_5 : decode cX12_belows 5 = .ok (.bipush 20, 2) := by decide +kernel
theorem dX12_belows_7 : decode cX12_belows 7 = .ok (.if_icmp .ge 34, 3) := by decide +kernel
theorem dX12_belows_10 : decode cX12_belows 10 = .ok (.iload_n 2, 1) := by decide +kernel
theorem dX12_belows_11 : decode cX12_belows 11 = .ok (.aload_n 0, 1) := by decide +kernel
theorem dX12_belows_12 : decode cX12_belows 12 = .ok (.iload_n 3, 1) := by decide +kernel
theorem dX12_belows_13 : decode cX12_belows 13 = .ok (.invokevirtual 57, 3) := by decide +kernel
theorem dX12_belows_16 : decode cX12_belows 16 = .ok (.ifCond .eq 16, 3) := by decide +kernel
theorem dX12_belows_19 : decode cX12_belows 19 = .ok (.aload_n 0, 1) := by decide +kernel
theorem dX12_belows_20 : decode cX12_belows 20 = .ok (.iload_n 3, 1) := by decide +kernel
theorem dX12_belows_21 : decode cX12_belows 21 = .ok (.iload_n 1, 1) := by decide +kernel
theorem dX12_belows_22 : decode cX12_belows 22 = .ok (.invokevirtual 91, 3) := by decide +kernel
theorem dX12_belows_25 : decode cX12_belows 25 = .ok (.ifCond .eq 7, 3) := by decide +kernel
theorem dX12_belows_28 : decode cX12_belows 28 = .ok (.iconst 1, 1) := by decide +kernel
theorem dX12_belows_29 : decode cX12_belows 29 = .ok (.goto 4, 3) := by decide +kernel
theorem dX12_belows_32 : decode cX12_belows 32 = .ok (.iconst 0, 1) := by decide +kernel
theorem dX12_belows_33 : decode cX12_belows 33 = .ok (.iadd, 1) := by decide +kernel
theorem dX12_belows_34 : decode cX12_belows 34 = .ok (.istore_n 2, 1) := by decide +kernel
theorem dX12_belows_35 : decode cX12_belows 35 = .ok (.iinc 3 1, 3) := by decide +kernel
theorem dX12_belows_38 : decode cX12_belows 38 = .ok (.goto (-34), 3) := by decide +kernel
theorem dX12_belows_41 : decode cX12_belows 41 = .ok (.iload_n 2, 1) := by decide +kernel
theorem dX12_belows_42 : decode cX12_belows 42 = .ok (.ireturn, 1) := by decide +kernel
theorem dX12_make_0 : decode cX12_make 0 = .ok (.aload_n 0, 1) := by decide +kernel
theorem dX12_make_1 : decode cX12_make 1 = .ok (.iconst 0, 1) := by decide +kernel
theorem dX12_make_2 : decode cX12_make 2 = .ok (.putfield 39, 3) := by decide +kernel
theorem dX12_make_5 : decode cX12_make 5 = .ok (.aload_n 0, 1) := by decide +kernel
theorem dX12_make_6 : decode cX12_make 6 = .ok (.iload_n 1, 1) := by decide +kernel
theorem dX12_make_7 : decode cX12_make 7 = .ok (.invokevirtual 57, 3) := by decide +kernel
theorem dX12_make_10 : decode cX12_make 10 = .ok (.ifCond .eq 11, 3) := by decide +kernel
theorem dX12_make_13 : decode cX12_make 13 = .ok (.aload_n 0, 1) := by decide +kernel
theorem dX12_make_14 : decode cX12_make 14 = .ok (.iload_n 2, 1) := by decide +kernel
theorem dX12_make_15 : decode cX12_make 15 = .ok (.invokevirtual 82, 3) := by decide +kernel
theorem dX12_make_18 : decode cX12_make 18 = .ok (.ifCond .ne 9, 3) := by decide +kernel
theorem dX12_make_21 : decode cX12_make 21 = .ok (.aload_n 0, 1) := by decide +kernel
theorem dX12_make_22 : decode cX12_make 22 = .ok (.iconst 1, 1) := by decide +kernel
theorem dX12_make_23 : decode cX12_make 23 = .ok (.invokevirtual 76, 3) := by decide +kernel
theorem dX12_make_26 : decode cX12_make 26 = .ok (.ireturn, 1) := by decide +kernel
theorem dX12_make_27 : decode cX12_make 27 = .ok (.aload_n 0, 1) := by decide +kernel
theorem dX12_make_28 : decode cX12_make 28 = .ok (.invokevirtual 94, 3) := by decide +kernel
theorem dX12_make_31 : decode cX12_make 31 = .ok (.bipush 20, 2) := by decide +kernel
theorem dX12_make_33 : decode cX12_make 33 = .ok (.if_icmp .ne 9, 3) := by decide +kernel
theorem dX12_make_36 : decode cX12_make 36 = .ok (.aload_n 0, 1) := by decide +kernel
theorem dX12_make_37 : decode cX12_make 37 = .ok (.iconst 2, 1) := by decide +kernel
theorem dX12_make_38 : decode cX12_make 38 = .ok (.invokevirtual 76, 3) := by decide +kernel
theorem dX12_make_41 : decode cX12_make 41 = .ok (.ireturn, 1) := by decide +kernel
theorem dX12_make_42 : decode cX12_make 42 = .ok (.aload_n 0, 1) := by decide +kernel
theorem dX12_make_43 : decode cX12_make 43 = .ok (.invokevirtual 79, 3) := by decide +kernel
theorem dX12_make_46 : decode cX12_make 46 = .ok (.iconst 0, 1) := by decide +kernel
theorem dX12_make_47 : decode cX12_make 47 = .ok (.istore_n 3, 1) := by decide +kernel
theorem dX12_make_48 : decode cX12_make 48 = .ok (.aload_n 0, 1) := by decide +kernel
theorem dX12_make_49 : decode cX12_make 49 = .ok (.iload_n 3, 1) := by decide +kernel
theorem dX12_make_50 : decode cX12_make 50 = .ok (.invokevirtual 57, 3) := by decide +kernel
theorem dX12_make_53 : decode cX12_make 53 = .ok (.ifCond .eq 9, 3) := by decide +kernel
theorem dX12_make_56 : decode cX12_make 56 = .ok (.iinc 3 1, 3) := by decide +kernel
theorem dX12_make_59 : decode cX12_make 59 = .ok (.goto (-11), 3) := by decide +kernel
theorem dX12_make_62 : decode cX12_make 62 = .ok (.aload_n 0, 1) := by decide +kernel
theorem dX12_make_63 : decode cX12_make 63 = .ok (.iload_n 3, 1) := by decide +kernel
theorem dX12_make_64 : decode cX12_make 64 = .ok (.iload_n 1, 1) := by decide +kernel
theorem dX12_make_65 : decode cX12_make 65 = .ok (.iload_n 2, 1) := by decide +kernel
theorem dX12_make_66 : decode cX12_make 66 = .ok (.invokevirtual 35, 3) := by decide +kernel
theorem dX12_make_69 : decode cX12_make 69 = .ok (.iload_n 3, 1) := by decide +kernel
theorem dX12_make_70 : decode cX12_make 70 = .ok (.ireturn, 1) := by decide +kernel
theorem dX12_remove_0 : decode cX12_remove 0 = .ok (.aload_n 0, 1) := by decide +kernel
theorem dX12_remove_1 : decode cX12_remove 1 = .ok (.iconst 0, 1) := by decide +kernel
theorem dX12_remove_2 : decode cX12_remove 2 = .ok (.putfield 39, 3) := by decide +kernel
theorem dX12_remove_5 : decode cX12_remove 5 = .ok (.aload_n 0, 1) := by decide +kernel
theorem dX12_remove_6 : decode cX12_remove 6 = .ok (.iload_n 1, 1) := by decide +kernel
theorem dX12_remove_7 : decode cX12_remove 7 = .ok (.invokevirtual 57, 3) := by decide +kernel
theorem dX12_remove_10 : decode cX12_remove 10 = .ok (.ifCond .ne 9, 3) := by decide +kernel
theorem dX12_remove_13 : decode cX12_remove 13 = .ok (.aload_n 0, 1) := by decide +kernel
theorem dX12_remove_14 : decode cX12_remove 14 = .ok (.iconst 1, 1) := by decide +kernel
theorem dX12_remove_15 : decode cX12_remove 15 = .ok (.invokevirtual 76, 3) := by decide +kernel
theorem dX12_remove_18 : decode cX12_remove 18 = .ok (.ireturn, 1) := by decide +kernel
theorem dX12_remove_19 : decode cX12_remove 19 = .ok (.iload_n 1, 1) := by decide +kernel
theorem dX12_remove_20 : decode cX12_remove 20 = .ok (.ifCond .eq 11, 3) := by decide +kernel
theorem dX12_remove_23 : decode cX12_remove 23 = .ok (.aload_n 0, 1) := by decide +kernel
theorem dX12_remove_24 : decode cX12_remove 24 = .ok (.iload_n 1, 1) := by decide +kernel
theorem dX12_remove_25 : decode cX12_remove 25 = .ok (.invokevirtual 98, 3) := by decide +kernel
theorem dX12_remove_28 : decode cX12_remove 28 = .ok (.ifCond .le 9, 3) := by decide +kernel
theorem dX12_remove_31 : decode cX12_remove 31 = .ok (.aload_n 0, 1) := by decide +kernel
theorem dX12_remove_32 : decode cX12_remove 32 = .ok (.iconst 2, 1) := by decide +kernel
theorem dX12_remove_33 : decode cX12_remove 33 = .ok (.invokevirtual 76, 3) := by decide +kernel
theorem dX12_remove_36 : decode cX12_remove 36 = .ok (.ireturn, 1) := by decide +kernel
theorem dX12_remove_37 : decode cX12_remove 37 = .ok (.aload_n 0, 1) := by decide +kernel
theorem dX12_remove_38 : decode cX12_remove 38 = .ok (.invokevirtual 79, 3) := by decide +kernel
theorem dX12_remove_41 : decode cX12_remove 41 = .ok (.iconst 0, 1) := by decide +kernel
theorem dX12_remove_42 : decode cX12_remove 42 = .ok (.istore_n 2, 1) := by decide +kernel
theorem dX12_remove_43 : decode cX12_remove 43 = .ok (.iload_n 2, 1) := by decide +kernel
theorem dX12_remove_44 : decode cX12_remove 44 = .ok (.bipush 36, 2) := by decide +kernel
theorem dX12_remove_46 : decode cX12_remove 46 = .ok (.if_icmp .ge 20, 3) := by decide +kernel
theorem dX12_remove_49 : decode cX12_remove 49 = .ok (.aload_n 0, 1) := by decide +kernel
theorem dX12_remove_50 : decode cX12_remove 50 = .ok (.getfield 7, 3) := by decide +kernel
theorem dX12_remove_53 : decode cX12_remove 53 = .ok (.iload_n 1, 1) := by decide +kernel
theorem dX12_remove_54 : decode cX12_remove 54 = .ok (.iload_n 2, 1) := by decide +kernel
theorem dX12_remove_55 : decode cX12_remove 55 = .ok (.invokestatic 50, 3) := by decide +kernel
theorem dX12_remove_58 : decode cX12_remove 58 = .ok (.iconst 0, 1) := by decide +kernel
theorem dX12_remove_59 : decode cX12_remove 59 = .ok (.iastore, 1) := by decide +kernel
theorem dX12_remove_60 : decode cX12_remove 60 = .ok (.iinc 2 1, 3) := by decide +kernel
theorem dX12_remove_63 : decode cX12_remove 63 = .ok (.goto (-20), 3) := by decide +kernel
theorem dX12_remove_66 : decode cX12_remove 66 = .ok (.aload_n 0, 1) := by decide +kernel
theorem dX12_remove_67 : decode cX12_remove 67 = .ok (.invokevirtual 94, 3) := by decide +kernel
theorem dX12_remove_70 : decode cX12_remove 70 = .ok (.ireturn, 1) := by decide +kernel
theorem dX12_move_0 : decode cX12_move 0 = .ok (.aload_n 0, 1) := by decide +kernel
theorem dX12_move_1 : decode cX12_move 1 = .ok (.iconst 0, 1) := by decide +kernel
theorem dX12_move_2 : decode cX12_move 2 = .ok (.putfield 39, 3) := by decide +kernel
theorem dX12_move_5 : decode cX12_move 5 = .ok (.aload_n 0, 1) := by decide +kernel
theorem dX12_move_6 : decode cX12_move 6 = .ok (.iload_n 1, 1) := by decide +kernel
theorem dX12_move_7 : decode cX12_move 7 = .ok (.invokevirtual 57, 3) := by decide +kernel
theorem dX12_move_10 : decode cX12_move 10 = .ok (.ifCond .eq 11, 3) := by decide +kernel
theorem dX12_move_13 : decode cX12_move 13 = .ok (.aload_n 0, 1) := by decide +kernel
theorem dX12_move_14 : decode cX12_move 14 = .ok (.iload_n 2, 1) := by decide +kernel
theorem dX12_move_15 : decode cX12_move 15 = .ok (.invokevirtual 57, 3) := by decide +kernel
theorem dX12_move_18 : decode cX12_move 18 = .ok (.ifCond .ne 9, 3) := by decide +kernel
theorem dX12_move_21 : decode cX12_move 21 = .ok (.aload_n 0, 1) := by decide +kernel
theorem dX12_move_22 : decode cX12_move 22 = .ok (.iconst 1, 1) := by decide +kernel
theorem dX12_move_23 : decode cX12_move 23 = .ok (.invokevirtual 76, 3) := by decide +kernel
theorem dX12_move_26 : decode cX12_move 26 = .ok (.ireturn, 1) := by decide +kernel
theorem dX12_move_27 : decode cX12_move 27 = .ok (.iload_n 1, 1) := by decide +kernel
theorem dX12_move_28 : decode cX12_move 28 = .ok (.ifCond .eq 17, 3) := by decide +kernel
theorem dX12_move_31 : decode cX12_move 31 = .ok (.iload_n 2, 1) := by decide +kernel
theorem dX12_move_32 : decode cX12_move 32 = .ok (.iload_n 1, 1) := by decide +kernel
theorem dX12_move_33 : decode cX12_move 33 = .ok (.if_icmp .eq 12, 3) := by decide +kernel
theorem dX12_move_36 : decode cX12_move 36 = .ok (.aload_n 0, 1) := by decide +kernel
theorem dX12_move_37 : decode cX12_move 37 = .ok (.iload_n 2, 1) := by decide +kernel
theorem dX12_move_38 : decode cX12_move 38 = .ok (.iload_n 1, 1) := by decide +kernel
theorem dX12_move_39 : decode cX12_move 39 = .ok (.invokevirtual 91, 3) := by decide +kernel
theorem dX12_move_42 : decode cX12_move 42 = .ok (.ifCond .eq 9, 3) := by decide +kernel
theorem dX12_move_45 : decode cX12_move 45 = .ok (.aload_n 0, 1) := by decide +kernel
theorem dX12_move_46 : decode cX12_move 46 = .ok (.iconst 2, 1) := by decide +kernel
theorem dX12_move_47 : decode cX12_move 47 = .ok (.invokevirtual 76, 3) := by decide +kernel
theorem dX12_move_50 : decode cX12_move 50 = .ok (.ireturn, 1) := by decide +kernel
theorem dX12_move_51 : decode cX12_move 51 = .ok (.aload_n 0, 1) := by decide +kernel
theorem dX12_move_52 : decode cX12_move 52 = .ok (.invokevirtual 79, 3) := by decide +kernel
theorem dX12_move_55 : decode cX12_move 55 = .ok (.aload_n 0, 1) := by decide +kernel
theorem dX12_move_56 : decode cX12_move 56 = .ok (.iload_n 1, 1) := by decide +kernel
theorem dX12_move_57 : decode cX12_move 57 = .ok (.iconst 1, 1) := by decide +kernel
theorem dX12_move_58 : decode cX12_move 58 = .ok (.invokevirtual 54, 3) := by decide +kernel
theorem dX12_move_61 : decode cX12_move 61 = .ok (.istore_n 3, 1) := by decide +kernel
theorem dX12_move_62 : decode cX12_move 62 = .ok (.aload_n 0, 1) := by decide +kernel
theorem dX12_move_63 : decode cX12_move 63 = .ok (.getfield 7, 3) := by decide +kernel
theorem dX12_move_66 : decode cX12_move 66 = .ok (.iload_n 1, 1) := by decide +kernel
theorem dX12_move_67 : decode cX12_move 67 = .ok (.iconst 1, 1) := by decide +kernel
theorem dX12_move_68 : decode cX12_move 68 = .ok (.invokestatic 50, 3) := by decide +kernel
theorem dX12_move_71 : decode cX12_move 71 = .ok (.iload_n 2, 1) := by decide +kernel
theorem dX12_move_72 : decode cX12_move 72 = .ok (.iastore, 1) := by decide +kernel
theorem dX12_move_73 : decode cX12_move 73 = .ok (.iload_n 3, 1) := by decide +kernel
theorem dX12_move_74 : decode cX12_move 74 = .ok (.ireturn, 1) := by decide +kernel
theorem dX12_giveTo_0 : decode cX12_giveTo 0 = .ok (.aload_n 0, 1) := by decide +kernel
theorem dX12_giveTo_1 : decode cX12_giveTo 1 = .ok (.iconst 0, 1) := by decide +kernel
theorem dX12_giveTo_2 : decode cX12_giveTo 2 = .ok (.putfield 39, 3) := by decide +kernel
theorem dX12_giveTo_5 : decode cX12_giveTo 5 = .ok (.aload_n 0, 1) := by decide +kernel
theorem dX12_giveTo_6 : decode cX12_giveTo 6 = .ok (.iload_n 1, 1) := by decide +kernel
theorem dX12_giveTo_7 : decode cX12_giveTo 7 = .ok (.invokevirtual 57, 3) := by decide +kernel
theorem dX12_giveTo_10 : decode cX12_giveTo 10 = .ok (.ifCond .eq 11, 3) := by decide +kernel
theorem dX12_giveTo_13 : decode cX12_giveTo 13 = .ok (.aload_n 0, 1) := by decide +kernel
theorem dX12_giveTo_14 : decode cX12_giveTo 14 = .ok (.iload_n 2, 1) := by decide +kernel
theorem dX12_giveTo_15 : decode cX12_giveTo 15 = .ok (.invokevirtual 82, 3) := by decide +kernel
theorem dX12_giveTo_18 : decode cX12_giveTo 18 = .ok (.ifCond .ne 9, 3) := by decide +kernel
theorem dX12_giveTo_21 : decode cX12_giveTo 21 = .ok (.aload_n 0, 1) := by decide +kernel
theorem dX12_giveTo_22 : decode cX12_giveTo 22 = .ok (.iconst 1, 1) := by decide +kernel
theorem dX12_giveTo_23 : decode cX12_giveTo 23 = .ok (.invokevirtual 76, 3) := by decide +kernel
theorem dX12_giveTo_26 : decode cX12_giveTo 26 = .ok (.ireturn, 1) := by decide +kernel
theorem dX12_giveTo_27 : decode cX12_giveTo 27 = .ok (.aload_n 0, 1) := by decide +kernel
theorem dX12_giveTo_28 : decode cX12_giveTo 28 = .ok (.invokevirtual 79, 3) := by decide +kernel
theorem dX12_giveTo_31 : decode cX12_giveTo 31 = .ok (.aload_n 0, 1) := by decide +kernel
theorem dX12_giveTo_32 : decode cX12_giveTo 32 = .ok (.iload_n 1, 1) := by decide +kernel
theorem dX12_giveTo_33 : decode cX12_giveTo 33 = .ok (.iconst 2, 1) := by decide +kernel
theorem dX12_giveTo_34 : decode cX12_giveTo 34 = .ok (.invokevirtual 54, 3) := by decide +kernel
theorem dX12_giveTo_37 : decode cX12_giveTo 37 = .ok (.istore_n 3, 1) := by decide +kernel
theorem dX12_giveTo_38 : decode cX12_giveTo 38 = .ok (.aload_n 0, 1) := by decide +kernel
theorem dX12_giveTo_39 : decode cX12_giveTo 39 = .ok (.getfield 7, 3) := by decide +kernel
theorem dX12_giveTo_42 : decode cX12_giveTo 42 = .ok (.iload_n 1, 1) := by decide +kernel
theorem dX12_giveTo_43 : decode cX12_giveTo 43 = .ok (.iconst 2, 1) := by decide +kernel
theorem dX12_giveTo_44 : decode cX12_giveTo 44 = .ok (.invokestatic 50, 3) := by decide +kernel
theorem dX12_giveTo_47 : decode cX12_giveTo 47 = .ok (.iload_n 2, 1) := by decide +kernel
theorem dX12_giveTo_48 : decode cX12_giveTo 48 = .ok (.iastore, 1) := by decide +kernel
theorem dX12_giveTo_49 : decode cX12_giveTo 49 = .ok (.iload_n 3, 1) := by decide +kernel
theorem dX12_giveTo_50 : decode cX12_giveTo 50 = .ok (.ireturn, 1) := by decide +kernel
theorem dX12_setMask_0 : decode cX12_setMask 0 = .ok (.aload_n 0, 1) := by decide +kernel
theorem dX12_setMask_1 : decode cX12_setMask 1 = .ok (.iconst 0, 1) := by decide +kernel
theorem dX12_setMask_2 : decode cX12_setMask 2 = .ok (.putfield 39, 3) := by decide +kernel
theorem dX12_setMask_5 : decode cX12_setMask 5 = .ok (.aload_n 0, 1) := by decide +kernel
theorem dX12_setMask_6 : decode cX12_setMask 6 = .ok (.iload_n 1, 1) := by decide +kernel
theorem dX12_setMask_7 : decode cX12_setMask 7 = .ok (.invokevirtual 57, 3) := by decide +kernel
theorem dX12_setMask_10 : decode cX12_setMask 10 = .ok (.ifCond .ne 9, 3) := by decide +kernel
theorem dX12_setMask_13 : decode cX12_setMask 13 = .ok (.aload_n 0, 1) := by decide +kernel
theorem dX12_setMask_14 : decode cX12_setMask 14 = .ok (.iconst 1, 1) := by decide +kernel
theorem dX12_setMask_15 : decode cX12_setMask 15 = .ok (.invokevirtual 76, 3) := by decide +kernel
theorem dX12_setMask_18 : decode cX12_setMask 18 = .ok (.ireturn, 1) := by decide +kernel
theorem dX12_setMask_19 : decode cX12_setMask 19 = .ok (.iload_n 2, 1) := by decide +kernel
theorem dX12_setMask_20 : decode cX12_setMask 20 = .ok (.iconst 0, 1) := by decide +kernel
theorem dX12_setMask_21 : decode cX12_setMask 21 = .ok (.bipush 15, 2) := by decide +kernel
theorem dX12_setMask_23 : decode cX12_setMask 23 = .ok (.invokestatic 46, 3) := by decide +kernel
theorem dX12_setMask_26 : decode cX12_setMask 26 = .ok (.ifCond .ne 9, 3) := by decide +kernel
theorem dX12_setMask_29 : decode cX12_setMask 29 = .ok (.aload_n 0, 1) := by decide +kernel
theorem dX12_setMask_30 : decode cX12_setMask 30 = .ok (.iconst 2, 1) := by decide +kernel
theorem dX12_setMask_31 : decode cX12_setMask 31 = .ok (.invokevirtual 76, 3) := by decide +kernel
theorem dX12_setMask_34 : decode cX12_setMask 34 = .ok (.ireturn, 1) := by decide +kernel
theorem dX12_setMask_35 : decode cX12_setMask 35 = .ok (.aload_n 0, 1) := by decide +kernel
theorem dX12_setMask_36 : decode cX12_setMask 36 = .ok (.invokevirtual 79, 3) := by decide +kernel
theorem dX12_setMask_39 : decode cX12_setMask 39 = .ok (.aload_n 0, 1) := by decide +kernel
theorem dX12_setMask_40 : decode cX12_setMask 40 = .ok (.iload_n 1, 1) := by decide +kernel
theorem dX12_setMask_41 : decode cX12_setMask 41 = .ok (.iconst 3, 1) := by decide +kernel
theorem dX12_setMask_42 : decode cX12_setMask 42 = .ok (.invokevirtual 54, 3) := by decide +kernel
theorem dX12_setMask_45 : decode cX12_setMask 45 = .ok (.istore_n 3, 1) := by decide +kernel
theorem dX12_setMask_46 : decode cX12_setMask 46 = .ok (.aload_n 0, 1) := by decide +kernel
theorem dX12_setMask_47 : decode cX12_setMask 47 = .ok (.getfield 7, 3) := by decide +kernel
theorem dX12_setMask_50 : decode cX12_setMask 50 = .ok (.iload_n 1, 1) := by decide +kernel
theorem dX12_setMask_51 : decode cX12_setMask 51 = .ok (.iconst 3, 1) := by decide +kernel
theorem dX12_setMask_52 : decode cX12_setMask 52 = .ok (.invokestatic 50, 3) := by decide +kernel
theorem dX12_setMask_55 : decode cX12_setMask 55 = .ok (.iload_n 2, 1) := by decide +kernel
theorem dX12_setMask_56 : decode cX12_setMask 56 = .ok (.iastore, 1) := by decide +kernel
theorem dX12_setMask_57 : decode cX12_setMask 57 = .ok (.iload_n 3, 1) := by decide +kernel
theorem dX12_setMask_58 : decode cX12_setMask 58 = .ok (.ireturn, 1) := by decide +kernel
theorem dX12_setInheriting_0 : decode cX12_setInheriting 0 = .ok (.aload_n 0, 1) := by decide +kernel
theorem dX12_setInheriting_1 : decode cX12_setInheriting 1 = .ok (.aload_n 0, 1) := by decide +kernel
theorem dX12_setInheriting_2 : decode cX12_setInheriting 2 = .ok (.iload_n 1, 1) := by decide +kernel
theorem dX12_setInheriting_3 : decode cX12_setInheriting 3 = .ok (.invokevirtual 57, 3) := by decide +kernel
theorem dX12_setInheriting_6 : decode cX12_setInheriting 6 = .ok (.ifCond .eq 7, 3) := by decide +kernel
theorem dX12_setInheriting_9 : decode cX12_setInheriting 9 = .ok (.iconst 0, 1) := by decide +kernel
theorem dX12_setInheriting_10 : decode cX12_setInheriting 10 = .ok (.goto 4, 3) := by decide +kernel
theorem dX12_setInheriting_13 : decode cX12_setInheriting 13 = .ok (.iconst 1, 1) := by decide +kernel
theorem dX12_setInheriting_14 : decode cX12_setInheriting 14 = .ok (.putfield 39, 3) := by decide +kernel
theorem dX12_setInheriting_17 : decode cX12_setInheriting 17 = .ok (.aload_n 0, 1) := by decide +kernel
theorem dX12_setInheriting_18 : decode cX12_setInheriting 18 = .ok (.getfield 39, 3) := by decide +kernel
theorem dX12_setInheriting_21 : decode cX12_setInheriting 21 = .ok (.iconst 1, 1) := by decide +kernel
theorem dX12_setInheriting_22 : decode cX12_setInheriting 22 = .ok (.if_icmp .ne 5, 3) := by decide +kernel
theorem dX12_setInheriting_25 : decode cX12_setInheriting 25 = .ok (.iconst 0, 1) := by decide +kernel
theorem dX12_setInheriting_26 : decode cX12_setInheriting 26 = .ok (.ireturn, 1) := by decide +kernel
theorem dX12_setInheriting_27 : decode cX12_setInheriting 27 = .ok (.aload_n 0, 1) := by decide +kernel
theorem dX12_setInheriting_28 : decode cX12_setInheriting 28 = .ok (.invokevirtual 79, 3) := by decide +kernel
theorem dX12_setInheriting_31 : decode cX12_setInheriting 31 = .ok (.aload_n 0, 1) := by decide +kernel
theorem dX12_setInheriting_32 : decode cX12_setInheriting 32 = .ok (.iload_n 1, 1) := by decide +kernel
theorem dX12_setInheriting_33 : decode cX12_setInheriting 33 = .ok (.iconst 4, 1) := by decide +kernel
theorem dX12_setInheriting_34 : decode cX12_setInheriting 34 = .ok (.invokevirtual 54, 3) := by decide +kernel
theorem dX12_setInheriting_37 : decode cX12_setInheriting 37 = .ok (.iconst 1, 1) := by decide +kernel
theorem dX12_setInheriting_38 : decode cX12_setInheriting 38 = .ok (.if_icmp .ne 7, 3) := by decide +kernel
theorem dX12_setInheriting_41 : decode cX12_setInheriting 41 = .ok (.iconst 1, 1) := by decide +kernel
theorem dX12_setInheriting_42 : decode cX12_setInheriting 42 = .ok (.goto 4, 3) := by decide +kernel
theorem dX12_setInheriting_45 : decode cX12_setInheriting 45 = .ok (.iconst 0, 1) := by decide +kernel
theorem dX12_setInheriting_46 : decode cX12_setInheriting 46 = .ok (.istore_n 3, 1) := by decide +kernel
theorem dX12_setInheriting_47 : decode cX12_setInheriting 47 = .ok (.aload_n 0, 1) := by decide +kernel
theorem dX12_setInheriting_48 : decode cX12_setInheriting 48 = .ok (.getfield 7, 3) := by decide +kernel
theorem dX12_setInheriting_51 : decode cX12_setInheriting 51 = .ok (.iload_n 1, 1) := by decide +kernel
theorem dX12_setInheriting_52 : decode cX12_setInheriting 52 = .ok (.iconst 4, 1) := by decide +kernel
theorem dX12_setInheriting_53 : decode cX12_setInheriting 53 = .ok (.invokestatic 50, 3) := by decide +kernel
theorem dX12_setInheriting_56 : decode cX12_setInheriting 56 = .ok (.iload_n 2, 1) := by decide +kernel
theorem dX12_setInheriting_57 : decode cX12_setInheriting 57 = .ok (.ifCond .eq 7, 3) := by decide +kernel
theorem dX12_setInheriting_60 : decode cX12_setInheriting 60 = .ok (.iconst 1, 1) := by decide +kernel
theorem dX12_setInheriting_61 : decode cX12_setInheriting 61 = .ok (.goto 4, 3) := by decide +kernel
theorem dX12_setInheriting_64 : decode cX12_setInheriting 64 = .ok (.iconst 0, 1) := by decide +kernel
theorem dX12_setInheriting_65 : decode cX12_setInheriting 65 = .ok (.iastore, 1) := by decide +kernel
theorem dX12_setInheriting_66 : decode cX12_setInheriting 66 = .ok (.iload_n 3, 1) := by decide +kernel
theorem dX12_setInheriting_67 : decode cX12_setInheriting 67 = .ok (.ireturn, 1) := by decide +kernel
theorem dX12_takesOut_0 : decode cX12_takesOut 0 = .ok (.aload_n 0, 1) := by decide +kernel
theorem dX12_takesOut_1 : decode cX12_takesOut 1 = .ok (.getfield 7, 3) := by decide +kernel
theorem dX12_takesOut_4 : decode cX12_takesOut 4 = .ok (.iload_n 1, 1) := by decide +kernel
theorem dX12_takesOut_5 : decode cX12_takesOut 5 = .ok (.iconst 5, 1) := by decide +kernel
theorem dX12_takesOut_6 : decode cX12_takesOut 6 = .ok (.invokestatic 50, 3) := by decide +kernel
theorem dX12_takesOut_9 : decode cX12_takesOut 9 = .ok (.dup2, 1) := by decide +kernel
theorem dX12_takesOut_10 : decode cX12_takesOut 10 = .ok (.iaload, 1) := by decide +kernel
theorem dX12_takesOut_11 : decode cX12_takesOut 11 = .ok (.iconst 1, 1) := by decide +kernel
theorem dX12_takesOut_12 : decode cX12_takesOut 12 = .ok (.isub, 1) := by decide +kernel
theorem dX12_takesOut_13 : decode cX12_takesOut 13 = .ok (.iastore, 1) := by decide +kernel
theorem dX12_takesOut_14 : decode cX12_takesOut 14 = .ok (.iload_n 1, 1) := by decide +kernel
theorem dX12_takesOut_15 : decode cX12_takesOut 15 = .ok (.iload_n 2, 1) := by decide +kernel
theorem dX12_takesOut_16 : decode cX12_takesOut 16 = .ok (.iconst 0, 1) := by decide +kernel
theorem dX12_takesOut_17 : decode cX12_takesOut 17 = .ok (.invokestatic 61, 3) := by decide +kernel
theorem dX12_takesOut_20 : decode cX12_takesOut 20 = .ok (.istore_n 3, 1) := by decide +kernel
theorem dX12_takesOut_21 : decode cX12_takesOut 21 = .ok (.iload_n 3, 1) := by decide +kernel
theorem dX12_takesOut_22 : decode cX12_takesOut 22 = .ok (.iload_n 1, 1) := by decide +kernel
theorem dX12_takesOut_23 : decode cX12_takesOut 23 = .ok (.aload_n 0, 1) := by decide +kernel
theorem dX12_takesOut_24 : decode cX12_takesOut 24 = .ok (.iload_n 1, 1) := by decide +kernel
theorem dX12_takesOut_25 : decode cX12_takesOut 25 = .ok (.iconst 5, 1) := by decide +kernel
theorem dX12_takesOut_26 : decode cX12_takesOut 26 = .ok (.invokevirtual 54, 3) := by decide +kernel
theorem dX12_takesOut_29 : decode cX12_takesOut 29 = .ok (.iconst 0, 1) := by decide +kernel
theorem dX12_takesOut_30 : decode cX12_takesOut 30 = .ok (.invokestatic 61, 3) := by decide +kernel
theorem dX12_takesOut_33 : decode cX12_takesOut 33 = .ok (.if_icmp .ge 23, 3) := by decide +kernel
theorem dX12_takesOut_36 : decode cX12_takesOut 36 = .ok (.aload_n 0, 1) := by decide +kernel
theorem dX12_takesOut_37 : decode cX12_takesOut 37 = .ok (.getfield 7, 3) := by decide +kernel
theorem dX12_takesOut_40 : decode cX12_takesOut 40 = .ok (.iload_n 3, 1) := by decide +kernel
theorem dX12_takesOut_41 : decode cX12_takesOut 41 = .ok (.aload_n 0, 1) := by decide +kernel
theorem dX12_takesOut_42 : decode cX12_takesOut 42 = .ok (.getfield 7, 3) := by decide +kernel
theorem dX12_takesOut_45 : decode cX12_takesOut 45 = .ok (.iload_n 3, 1) := by decide +kernel
theorem dX12_takesOut_46 : decode cX12_takesOut 46 = .ok (.iconst 5, 1) := by decide +kernel
theorem dX12_takesOut_47 : decode cX12_takesOut 47 = .ok (.iadd, 1) := by decide +kernel
theorem dX12_takesOut_48 : decode cX12_takesOut 48 = .ok (.iaload, 1) := by decide +kernel
theorem dX12_takesOut_49 : decode cX12_takesOut 49 = .ok (.iastore, 1) := by decide +kernel
theorem dX12_takesOut_50 : decode cX12_takesOut 50 = .ok (.iinc 3 1, 3) := by decide +kernel
theorem dX12_takesOut_53 : decode cX12_takesOut 53 = .ok (.goto (-32), 3) := by decide +kernel
theorem dX12_takesOut_56 : decode cX12_takesOut 56 = .ok (.return_, 1) := by decide +kernel
theorem dX12_opens_0 : decode cX12_opens 0 = .ok (.iload_n 1, 1) := by decide +kernel
theorem dX12_opens_1 : decode cX12_opens 1 = .ok (.aload_n 0, 1) := by decide +kernel
theorem dX12_opens_2 : decode cX12_opens 2 = .ok (.iload_n 1, 1) := by decide +kernel
theorem dX12_opens_3 : decode cX12_opens 3 = .ok (.iconst 5, 1) := by decide +kernel
theorem dX12_opens_4 : decode cX12_opens 4 = .ok (.invokevirtual 54, 3) := by decide +kernel
theorem dX12_opens_7 : decode cX12_opens 7 = .ok (.iconst 4, 1) := by decide +kernel
theorem dX12_opens_8 : decode cX12_opens 8 = .ok (.invokestatic 61, 3) := by decide +kernel
theorem dX12_opens_11 : decode cX12_opens 11 = .ok (.istore_n 3, 1) := by decide +kernel
theorem dX12_opens_12 : decode cX12_opens 12 = .ok (.iload_n 3, 1) := by decide +kernel
theorem dX12_opens_13 : decode cX12_opens 13 = .ok (.iload_n 1, 1) := by decide +kernel
theorem dX12_opens_14 : decode cX12_opens 14 = .ok (.iload_n 2, 1) := by decide +kernel
theorem dX12_opens_15 : decode cX12_opens 15 = .ok (.iconst 1, 1) := by decide +kernel
theorem dX12_opens_16 : decode cX12_opens 16 = .ok (.iadd, 1) := by decide +kernel
theorem dX12_opens_17 : decode cX12_opens 17 = .ok (.iconst 0, 1) := by decide +kernel
theorem dX12_opens_18 : decode cX12_opens 18 = .ok (.invokestatic 61, 3) := by decide +kernel
theorem dX12_opens_21 : decode cX12_opens 21 = .ok (.if_icmp .lt 23, 3) := by decide +kernel
theorem dX12_opens_24 : decode cX12_opens 24 = .ok (.aload_n 0, 1) := by decide +kernel
theorem dX12_opens_25 : decode cX12_opens 25 = .ok (.getfield 7, 3) := by decide +kernel
theorem dX12_opens_28 : decode cX12_opens 28 = .ok (.iload_n 3, 1) := by decide +kernel
theorem dX12_opens_29 : decode cX12_opens 29 = .ok (.aload_n 0, 1) := by decide +kernel
theorem dX12_opens_30 : decode cX12_opens 30 = .ok (.getfield 7, 3) := by decide +kernel
theorem dX12_opens_33 : decode cX12_opens 33 = .ok (.iload_n 3, 1) := by decide +kernel
theorem dX12_opens_34 : decode cX12_opens 34 = .ok (.iconst 5, 1) := by decide +kernel
theorem dX12_opens_35 : decode cX12_opens 35 = .ok (.isub, 1) := by decide +kernel
theorem dX12_opens_36 : decode cX12_opens 36 = .ok (.iaload, 1) := by decide +kernel
theorem dX12_opens_37 : decode cX12_opens 37 = .ok (.iastore, 1) := by decide +kernel
theorem dX12_opens_38 : decode cX12_opens 38 = .ok (.iinc 3 (-1), 3) := by decide +kernel
theorem dX12_opens_41 : decode cX12_opens 41 = .ok (.goto (-29), 3) := by decide +kernel
theorem dX12_opens_44 : decode cX12_opens 44 = .ok (.aload_n 0, 1) := by decide +kernel
theorem dX12_opens_45 : decode cX12_opens 45 = .ok (.getfield 7, 3) := by decide +kernel
theorem dX12_opens_48 : decode cX12_opens 48 = .ok (.iload_n 1, 1) := by decide +kernel
theorem dX12_opens_49 : decode cX12_opens 49 = .ok (.iconst 5, 1) := by decide +kernel
theorem dX12_opens_50 : decode cX12_opens 50 = .ok (.invokestatic 50, 3) := by decide +kernel
theorem dX12_opens_53 : decode cX12_opens 53 = .ok (.dup2, 1) := by decide +kernel
theorem dX12_opens_54 : decode cX12_opens 54 = .ok (.iaload, 1) := by decide +kernel
theorem dX12_opens_55 : decode cX12_opens 55 = .ok (.iconst 1, 1) := by decide +kernel
theorem dX12_opens_56 : decode cX12_opens 56 = .ok (.iadd, 1) := by decide +kernel
theorem dX12_opens_57 : decode cX12_opens 57 = .ok (.iastore, 1) := by decide +kernel
theorem dX12_opens_58 : decode cX12_opens 58 = .ok (.return_, 1) := by decide +kernel
theorem dX12_writes_0 : decode cX12_writes 0 = .ok (.aload_n 0, 1) := by decide +kernel
theorem dX12_writes_1 : decode cX12_writes 1 = .ok (.getfield 7, 3) := by decide +kernel
theorem dX12_writes_4 : decode cX12_writes 4 = .ok (.iload_n 1, 1) := by decide +kernel
theorem dX12_writes_5 : decode cX12_writes 5 = .ok (.iload_n 2, 1) := by decide +kernel
theorem dX12_writes_6 : decode cX12_writes 6 = .ok (.iconst 0, 1) := by decide +kernel
theorem dX12_writes_7 : decode cX12_writes 7 = .ok (.invokestatic 61, 3) := by decide +kernel
theorem dX12_writes_10 : decode cX12_writes 10 = .ok (.iload_n 3, 1) := by decide +kernel
theorem dX12_writes_11 : decode cX12_writes 11 = .ok (.iastore, 1) := by decide +kernel
theorem dX12_writes_12 : decode cX12_writes 12 = .ok (.aload_n 0, 1) := by decide +kernel
theorem dX12_writes_13 : decode cX12_writes 13 = .ok (.getfield 7, 3) := by decide +kernel
theorem dX12_writes_16 : decode cX12_writes 16 = .ok (.iload_n 1, 1) := by decide +kernel
theorem dX12_writes_17 : decode cX12_writes 17 = .ok (.iload_n 2, 1) := by decide +kernel
theorem dX12_writes_18 : decode cX12_writes 18 = .ok (.iconst 1, 1) := by decide +kernel
theorem dX12_writes_19 : decode cX12_writes 19 = .ok (.invokestatic 61, 3) := by decide +kernel
theorem dX12_writes_22 : decode cX12_writes 22 = .ok (.iload 4, 2) := by decide +kernel
theorem dX12_writes_24 : decode cX12_writes 24 = .ok (.iastore, 1) := by decide +kernel
theorem dX12_writes_25 : decode cX12_writes 25 = .ok (.aload_n 0, 1) := by decide +kernel
theorem dX12_writes_26 : decode cX12_writes 26 = .ok (.getfield 7, 3) := by decide +kernel
theorem dX12_writes_29 : decode cX12_writes 29 = .ok (.iload_n 1, 1) := by decide +kernel
theorem dX12_writes_30 : decode cX12_writes 30 = .ok (.iload_n 2, 1) := by decide +kernel
theorem dX12_writes_31 : decode cX12_writes 31 = .ok (.iconst 2, 1) := by decide +kernel
theorem dX12_writes_32 : decode cX12_writes 32 = .ok (.invokestatic 61, 3) := by decide +kernel
theorem dX12_writes_35 : decode cX12_writes 35 = .ok (.iload 5, 2) := by decide +kernel
theorem dX12_writes_37 : decode cX12_writes 37 = .ok (.iastore, 1) := by decide +kernel
theorem dX12_writes_38 : decode cX12_writes 38 = .ok (.aload_n 0, 1) := by decide +kernel
theorem dX12_writes_39 : decode cX12_writes 39 = .ok (.getfield 7, 3) := by decide +kernel
theorem dX12_writes_42 : decode cX12_writes 42 = .ok (.iload_n 1, 1) := by decide +kernel
theorem dX12_writes_43 : decode cX12_writes 43 = .ok (.iload_n 2, 1) := by decide +kernel
theorem dX12_writes_44 : decode cX12_writes 44 = .ok (.iconst 3, 1) := by decide +kernel
theorem dX12_writes_45 : decode cX12_writes 45 = .ok (.invokestatic 61, 3) := by decide +kernel
theorem dX12_writes_48 : decode cX12_writes 48 = .ok (.iload 6, 2) := by decide +kernel
theorem dX12_writes_50 : decode cX12_writes 50 = .ok (.ifCond .eq 7, 3) := by decide +kernel
theorem dX12_writes_53 : decode cX12_writes 53 = .ok (.iconst 1, 1) := by decide +kernel
theorem dX12_writes_54 : decode cX12_writes 54 = .ok (.goto 4, 3) := by decide +kernel
theorem dX12_writes_57 : decode cX12_writes 57 = .ok (.iconst 0, 1) := by decide +kernel
theorem dX12_writes_58 : decode cX12_writes 58 = .ok (.iastore, 1) := by decide +kernel
theorem dX12_writes_59 : decode cX12_writes 59 = .ok (.aload_n 0, 1) := by decide +kernel
theorem dX12_writes_60 : decode cX12_writes 60 = .ok (.getfield 7, 3) := by decide +kernel
theorem dX12_writes_63 : decode cX12_writes 63 = .ok (.iload_n 1, 1) := by decide +kernel
theorem dX12_writes_64 : decode cX12_writes 64 = .ok (.iload_n 2, 1) := by decide +kernel
theorem dX12_writes_65 : decode cX12_writes 65 = .ok (.iconst 4, 1) := by decide +kernel
theorem dX12_writes_66 : decode cX12_writes 66 = .ok (.invokestatic 61, 3) := by decide +kernel
theorem dX12_writes_69 : decode cX12_writes 69 = .ok (.iload 7, 2) := by decide +kernel
theorem dX12_writes_71 : decode cX12_writes 71 = .ok (.ifCond .eq 7, 3) := by decide +kernel
theorem dX12_writes_74 : decode cX12_writes 74 = .ok (.iconst 1, 1) := by decide +kernel
theorem dX12_writes_75 : decode cX12_writes 75 = .ok (.goto 4, 3) := by decide +kernel
theorem dX12_writes_78 : decode cX12_writes 78 = .ok (.iconst 0, 1) := by decide +kernel
theorem dX12_writes_79 : decode cX12_writes 79 = .ok (.iastore, 1) := by decide +kernel
theorem dX12_writes_80 : decode cX12_writes 80 = .ok (.return_, 1) := by decide +kernel
theorem dX12_adds_0 : decode cX12_adds 0 = .ok (.aload_n 0, 1) := by decide +kernel
theorem dX12_adds_1 : decode cX12_adds 1 = .ok (.iconst 0, 1) := by decide +kernel
theorem dX12_adds_2 : decode cX12_adds 2 = .ok (.putfield 39, 3) := by decide +kernel
theorem dX12_adds_5 : decode cX12_adds 5 = .ok (.aload_n 0, 1) := by decide +kernel
theorem dX12_adds_6 : decode cX12_adds 6 = .ok (.iload_n 1, 1) := by decide +kernel
theorem dX12_adds_7 : decode cX12_adds 7 = .ok (.invokevirtual 57, 3) := by decide +kernel
theorem dX12_adds_10 : decode cX12_adds 10 = .ok (.ifCond .eq 32, 3) := by decide +kernel
theorem dX12_adds_13 : decode cX12_adds 13 = .ok (.iload_n 2, 1) := by decide +kernel
theorem dX12_adds_14 : decode cX12_adds 14 = .ok (.ifCond .ne 11, 3) := by decide +kernel
theorem dX12_adds_17 : decode cX12_adds 17 = .ok (.aload_n 0, 1) := by decide +kernel
theorem dX12_adds_18 : decode cX12_adds 18 = .ok (.iload_n 3, 1) := by decide +kernel
theorem dX12_adds_19 : decode cX12_adds 19 = .ok (.invokevirtual 82, 3) := by decide +kernel
theorem dX12_adds_22 : decode cX12_adds 22 = .ok (.ifCond .eq 20, 3) := by decide +kernel
theorem dX12_adds_25 : decode cX12_adds 25 = .ok (.iload_n 2, 1) := by decide +kernel
theorem dX12_adds_26 : decode cX12_adds 26 = .ok (.iconst 1, 1) := by decide +kernel
theorem dX12_adds_27 : decode cX12_adds 27 = .ok (.if_icmp .ne 11, 3) := by decide +kernel
theorem dX12_adds_30 : decode cX12_adds 30 = .ok (.aload_n 0, 1) := by decide +kernel
theorem dX12_adds_31 : decode cX12_adds 31 = .ok (.iload_n 3, 1) := by decide +kernel
theorem dX12_adds_32 : decode cX12_adds 32 = .ok (.invokevirtual 85, 3) := by decide +kernel
theorem dX12_adds_35 : decode cX12_adds 35 = .ok (.ifCond .eq 7, 3) := by decide +kernel
theorem dX12_adds_38 : decode cX12_adds 38 = .ok (.iconst 1, 1) := by decide +kernel
theorem dX12_adds_39 : decode cX12_adds 39 = .ok (.goto 4, 3) := by decide +kernel
theorem dX12_adds_42 : decode cX12_adds 42 = .ok (.iconst 0, 1) := by decide +kernel
theorem dX12_adds_43 : decode cX12_adds 43 = .ok (.istore 7, 2) := by decide +kernel
theorem dX12_adds_45 : decode cX12_adds 45 = .ok (.iload 7, 2) := by decide +kernel
theorem dX12_adds_47 : decode cX12_adds 47 = .ok (.ifCond .ne 9, 3) := by decide +kernel
theorem dX12_adds_50 : decode cX12_adds 50 = .ok (.aload_n 0, 1) := by decide +kernel
theorem dX12_adds_51 : decode cX12_adds 51 = .ok (.iconst 1, 1) := by decide +kernel
theorem dX12_adds_52 : decode cX12_adds 52 = .ok (.invokevirtual 76, 3) := by decide +kernel
theorem dX12_adds_55 : decode cX12_adds 55 = .ok (.ireturn, 1) := by decide +kernel
theorem dX12_adds_56 : decode cX12_adds 56 = .ok (.iload 4, 2) := by decide +kernel
theorem dX12_adds_58 : decode cX12_adds 58 = .ok (.invokestatic 101, 3) := by decide +kernel
theorem dX12_adds_61 : decode cX12_adds 61 = .ok (.ifCond .ne 9, 3) := by decide +kernel
theorem dX12_adds_64 : decode cX12_adds 64 = .ok (.aload_n 0, 1) := by decide +kernel
theorem dX12_adds_65 : decode cX12_adds 65 = .ok (.iconst 2, 1) := by decide +kernel
theorem dX12_adds_66 : decode cX12_adds 66 = .ok (.invokevirtual 76, 3) := by decide +kernel
theorem dX12_adds_69 : decode cX12_adds 69 = .ok (.ireturn, 1) := by decide +kernel
theorem dX12_adds_70 : decode cX12_adds 70 = .ok (.aload_n 0, 1) := by decide +kernel
theorem dX12_adds_71 : decode cX12_adds 71 = .ok (.iload_n 1, 1) := by decide +kernel
theorem dX12_adds_72 : decode cX12_adds 72 = .ok (.iconst 5, 1) := by decide +kernel
theorem dX12_adds_73 : decode cX12_adds 73 = .ok (.invokevirtual 54, 3) := by decide +kernel
theorem dX12_adds_76 : decode cX12_adds 76 = .ok (.bipush 6, 2) := by decide +kernel
theorem dX12_adds_78 : decode cX12_adds 78 = .ok (.if_icmp .ne 9, 3) := by decide +kernel
theorem dX12_adds_81 : decode cX12_adds 81 = .ok (.aload_n 0, 1) := by decide +kernel
theorem dX12_adds_82 : decode cX12_adds 82 = .ok (.iconst 3, 1) := by decide +kernel
theorem dX12_adds_83 : decode cX12_adds 83 = .ok (.invokevirtual 76, 3) := by decide +kernel
theorem dX12_adds_86 : decode cX12_adds 86 = .ok (.ireturn, 1) := by decide +kernel
theorem dX12_adds_87 : decode cX12_adds 87 = .ok (.aload_n 0, 1) := by decide +kernel
theorem dX12_adds_88 : decode cX12_adds 88 = .ok (.invokevirtual 79, 3) := by decide +kernel
theorem dX12_adds_91 : decode cX12_adds 91 = .ok (.aload_n 0, 1) := by decide +kernel
theorem dX12_adds_92 : decode cX12_adds 92 = .ok (.getfield 7, 3) := by decide +kernel
theorem dX12_adds_95 : decode cX12_adds 95 = .ok (.iload_n 1, 1) := by decide +kernel
theorem dX12_adds_96 : decode cX12_adds 96 = .ok (.iconst 5, 1) := by decide +kernel
theorem dX12_adds_97 : decode cX12_adds 97 = .ok (.invokestatic 50, 3) := by decide +kernel
theorem dX12_adds_100 : decode cX12_adds 100 = .ok (.dup2, 1) := by decide +kernel
theorem dX12_adds_101 : decode cX12_adds 101 = .ok (.iaload, 1) := by decide +kernel
theorem dX12_adds_102 : decode cX12_adds 102 = .ok (.iconst 1, 1) := by decide +kernel
theorem dX12_adds_103 : decode cX12_adds 103 = .ok (.iadd, 1) := by decide +kernel
theorem dX12_adds_104 : decode cX12_adds 104 = .ok (.iastore, 1) := by decide +kernel
theorem dX12_adds_105 : decode cX12_adds 105 = .ok (.aload_n 0, 1) := by decide +kernel
theorem dX12_adds_106 : decode cX12_adds 106 = .ok (.iload_n 1, 1) := by decide +kernel
theorem dX12_adds_107 : decode cX12_adds 107 = .ok (.aload_n 0, 1) := by decide +kernel
theorem dX12_adds_108 : decode cX12_adds 108 = .ok (.iload_n 1, 1) := by decide +kernel
theorem dX12_adds_109 : decode cX12_adds 109 = .ok (.iconst 5, 1) := by decide +kernel
theorem dX12_adds_110 : decode cX12_adds 110 = .ok (.invokevirtual 54, 3) := by decide +kernel
theorem dX12_adds_113 : decode cX12_adds 113 = .ok (.iconst 1, 1) := by decide +kernel
theorem dX12_adds_114 : decode cX12_adds 114 = .ok (.isub, 1) := by decide +kernel
theorem dX12_adds_115 : decode cX12_adds 115 = .ok (.iload_n 2, 1) := by decide +kernel
theorem dX12_adds_116 : decode cX12_adds 116 = .ok (.iload_n 3, 1) := by decide +kernel
theorem dX12_adds_117 : decode cX12_adds 117 = .ok (.iload 4, 2) := by decide +kernel
theorem dX12_adds_119 : decode cX12_adds 119 = .ok (.iload 5, 2) := by decide +kernel
theorem dX12_adds_121 : decode cX12_adds 121 = .ok (.iload 6, 2) := by decide +kernel
theorem dX12_adds_123 : decode cX12_adds 123 = .ok (.invokevirtual 104, 3) := by decide +kernel
theorem dX12_adds_126 : decode cX12_adds 126 = .ok (.aload_n 0, 1) := by decide +kernel
theorem dX12_adds_127 : decode cX12_adds 127 = .ok (.iload_n 1, 1) := by decide +kernel
theorem dX12_adds_128 : decode cX12_adds 128 = .ok (.iconst 5, 1) := by decide +kernel
theorem dX12_adds_129 : decode cX12_adds 129 = .ok (.invokevirtual 54, 3) := by decide +kernel
theorem dX12_adds_132 : decode cX12_adds 132 = .ok (.ireturn, 1) := by decide +kernel
theorem dX12_addForUser_0 : decode cX12_addForUser 0 = .ok (.aload_n 0, 1) := by decide +kernel
theorem dX12_addForUser_1 : decode cX12_addForUser 1 = .ok (.iload_n 1, 1) := by decide +kernel
theorem dX12_addForUser_2 : decode cX12_addForUser 2 = .ok (.iconst 0, 1) := by decide +kernel
theorem dX12_addForUser_3 : decode cX12_addForUser 3 = .ok (.iload_n 2, 1) := by decide +kernel
theorem dX12_addForUser_4 : decode cX12_addForUser 4 = .ok (.iload_n 3, 1) := by decide +kernel
theorem dX12_addForUser_5 : decode cX12_addForUser 5 = .ok (.iload 4, 2) := by decide +kernel
theorem dX12_addForUser_7 : decode cX12_addForUser 7 = .ok (.iload 5, 2) := by decide +kernel
theorem dX12_addForUser_9 : decode cX12_addForUser 9 = .ok (.invokevirtual 108, 3) := by decide +kernel
theorem dX12_addForUser_12 : decode cX12_addForUser 12 = .ok (.ireturn, 1) := by decide +kernel
theorem dX12_addForGroup_0 : decode cX12_addForGroup 0 = .ok (.aload_n 0, 1) := by decide +kernel
theorem dX12_addForGroup_1 : decode cX12_addForGroup 1 = .ok (.iload_n 1, 1) := by decide +kernel
theorem dX12_addForGroup_2 : decode cX12_addForGroup 2 = .ok (.iconst 1, 1) := by decide +kernel
theorem dX12_addForGroup_3 : decode cX12_addForGroup 3 = .ok (.iload_n 2, 1) := by decide +kernel
theorem dX12_addForGroup_4 : decode cX12_addForGroup 4 = .ok (.iload_n 3, 1) := by decide +kernel
theorem dX12_addForGroup_5 : decode cX12_addForGroup 5 = .ok (.iload 4, 2) := by decide +kernel
theorem dX12_addForGroup_7 : decode cX12_addForGroup 7 = .ok (.iload 5, 2) := by decide +kernel
theorem dX12_addForGroup_9 : decode cX12_addForGroup 9 = .ok (.invokevirtual 108, 3) := by decide +kernel
theorem dX12_addForGroup_12 : decode cX12_addForGroup 12 = .ok (.ireturn, 1) := by decide +kernel
theorem dX12_addForOwner_0 : decode cX12_addForOwner 0 = .ok (.aload_n 0, 1) := by decide +kernel
theorem dX12_addForOwner_1 : decode cX12_addForOwner 1 = .ok (.iload_n 1, 1) := by decide +kernel
theorem dX12_addForOwner_2 : decode cX12_addForOwner 2 = .ok (.iconst 2, 1) := by decide +kernel
theorem dX12_addForOwner_3 : decode cX12_addForOwner 3 = .ok (.iconst 0, 1) := by decide +kernel
theorem dX12_addForOwner_4 : decode cX12_addForOwner 4 = .ok (.iload_n 2, 1) := by decide +kernel
theorem dX12_addForOwner_5 : decode cX12_addForOwner 5 = .ok (.iload_n 3, 1) := by decide +kernel
theorem dX12_addForOwner_6 : decode cX12_addForOwner 6 = .ok (.iload 4, 2) := by decide +kernel
theorem dX12_addForOwner_8 : decode cX12_addForOwner 8 = .ok (.invokevirtual 108, 3) := by decide +kernel
theorem dX12_addForOwner_11 : decode cX12_addForOwner 11 = .ok (.ireturn, 1) := by decide +kernel
theorem dX12_addForAll_0 : decode cX12_addForAll 0 = .ok (.aload_n 0, 1) := by decide +kernel
theorem dX12_addForAll_1 : decode cX12_addForAll 1 = .ok (.iload_n 1, 1) := by decide +kernel
theorem dX12_addForAll_2 : decode cX12_addForAll 2 = .ok (.iconst 3, 1) := by decide +kernel
theorem dX12_addForAll_3 : decode cX12_addForAll 3 = .ok (.iconst 0, 1) := by decide +kernel
theorem dX12_addForAll_4 : decode cX12_addForAll 4 = .ok (.iload_n 2, 1) := by decide +kernel
theorem dX12_addForAll_5 : decode cX12_addForAll 5 = .ok (.iload_n 3, 1) := by decide +kernel
theorem dX12_addForAll_6 : decode cX12_addForAll 6 = .ok (.iload 4, 2) := by decide +kernel
theorem dX12_addForAll_8 : decode cX12_addForAll 8 = .ok (.invokevirtual 108, 3) := by decide +kernel
theorem dX12_addForAll_11 : decode cX12_addForAll 11 = .ok (.ireturn, 1) := by decide +kernel
theorem dX12_removeEntry_0 : decode cX12_removeEntry 0 = .ok (.aload_n 0, 1) := by decide +kernel
theorem dX12_removeEntry_1 : decode cX12_removeEntry 1 = .ok (.iconst 0, 1) := by decide +kernel
theorem dX12_removeEntry_2 : decode cX12_removeEntry 2 = .ok (.putfield 39, 3) := by decide +kernel
theorem dX12_removeEntry_5 : decode cX12_removeEntry 5 = .ok (.aload_n 0, 1) := by decide +kernel
theorem dX12_removeEntry_6 : decode cX12_removeEntry 6 = .ok (.iload_n 1, 1) := by decide +kernel
theorem dX12_removeEntry_7 : decode cX12_removeEntry 7 = .ok (.iload_n 2, 1) := by decide +kernel
theorem dX12_removeEntry_8 : decode cX12_removeEntry 8 = .ok (.invokevirtual 112, 3) := by decide +kernel
theorem dX12_removeEntry_11 : decode cX12_removeEntry 11 = .ok (.ifCond .ne 9, 3) := by decide +kernel
theorem dX12_removeEntry_14 : decode cX12_removeEntry 14 = .ok (.aload_n 0, 1) := by decide +kernel
theorem dX12_removeEntry_15 : decode cX12_removeEntry 15 = .ok (.iconst 1, 1) := by decide +kernel
theorem dX12_removeEntry_16 : decode cX12_removeEntry 16 = .ok (.invokevirtual 76, 3) := by decide +kernel
theorem dX12_removeEntry_19 : decode cX12_removeEntry 19 = .ok (.ireturn, 1) := by decide +kernel
theorem dX12_removeEntry_20 : decode cX12_removeEntry 20 = .ok (.aload_n 0, 1) := by decide +kernel
theorem dX12_removeEntry_21 : decode cX12_removeEntry 21 = .ok (.invokevirtual 79, 3) := by decide +kernel
theorem dX12_removeEntry_24 : decode cX12_removeEntry 24 = .ok (.aload_n 0, 1) := by decide +kernel
theorem dX12_removeEntry_25 : decode cX12_removeEntry 25 = .ok (.iload_n 1, 1) := by decide +kernel
theorem dX12_removeEntry_26 : decode cX12_removeEntry 26 = .ok (.iload_n 2, 1) := by decide +kernel
theorem dX12_removeEntry_27 : decode cX12_removeEntry 27 = .ok (.invokevirtual 115, 3) := by decide +kernel
theorem dX12_removeEntry_30 : decode cX12_removeEntry 30 = .ok (.aload_n 0, 1) := by decide +kernel
theorem dX12_removeEntry_31 : decode cX12_removeEntry 31 = .ok (.iload_n 1, 1) := by decide +kernel
theorem dX12_removeEntry_32 : decode cX12_removeEntry 32 = .ok (.iconst 5, 1) := by decide +kernel
theorem dX12_removeEntry_33 : decode cX12_removeEntry 33 = .ok (.invokevirtual 54, 3) := by decide +kernel
theorem dX12_removeEntry_36 : decode cX12_removeEntry 36 = .ok (.ireturn, 1) := by decide +kernel
theorem dX12_notes_0 : decode cX12_notes 0 = .ok (.iconst 0, 1) := by decide +kernel
theorem dX12_notes_1 : decode cX12_notes 1 = .ok (.istore_n 1, 1) := by decide +kernel
theorem dX12_notes_2 : decode cX12_notes 2 = .ok (.iload_n 1, 1) := by decide +kernel
theorem dX12_notes_3 : decode cX12_notes 3 = .ok (.sipush 240, 3) := by decide +kernel
theorem dX12_notes_6 : decode cX12_notes 6 = .ok (.if_icmp .ge 55, 3) := by decide +kernel
theorem dX12_notes_9 : decode cX12_notes 9 = .ok (.aload_n 0, 1) := by decide +kernel
theorem dX12_notes_10 : decode cX12_notes 10 = .ok (.getfield 26, 3) := by decide +kernel
theorem dX12_notes_13 : decode cX12_notes 13 = .ok (.iload_n 1, 1) := by decide +kernel
theorem dX12_notes_14 : decode cX12_notes 14 = .ok (.iload_n 1, 1) := by decide +kernel
theorem dX12_notes_15 : decode cX12_notes 15 = .ok (.bipush 20, 2) := by decide +kernel
theorem dX12_notes_17 : decode cX12_notes 17 = .ok (.idiv, 1) := by decide +kernel
theorem dX12_notes_18 : decode cX12_notes 18 = .ok (.aload_n 0, 1) := by decide +kernel
theorem dX12_notes_19 : decode cX12_notes 19 = .ok (.getfield 7, 3) := by decide +kernel
theorem dX12_notes_22 : decode cX12_notes 22 = .ok (.iconst 0, 1) := by decide +kernel
theorem dX12_notes_23 : decode cX12_notes 23 = .ok (.iaload, 1) := by decide +kernel
theorem dX12_notes_24 : decode cX12_notes 24 = .ok (.if_icmp .ge 29, 3) := by decide +kernel
theorem dX12_notes_27 : decode cX12_notes 27 = .ok (.aload_n 0, 1) := by decide +kernel
theorem dX12_notes_28 : decode cX12_notes 28 = .ok (.iload_n 1, 1) := by decide +kernel
theorem dX12_notes_29 : decode cX12_notes 29 = .ok (.bipush 20, 2) := by decide +kernel
theorem dX12_notes_31 : decode cX12_notes 31 = .ok (.irem, 1) := by decide +kernel
theorem dX12_notes_32 : decode cX12_notes 32 = .ok (.invokevirtual 57, 3) := by decide +kernel
theorem dX12_notes_35 : decode cX12_notes 35 = .ok (.ifCond .eq 18, 3) := by decide +kernel
theorem dX12_notes_38 : decode cX12_notes 38 = .ok (.aload_n 0, 1) := by decide +kernel
theorem dX12_notes_39 : decode cX12_notes 39 = .ok (.iload_n 1, 1) := by decide +kernel
theorem dX12_notes_40 : decode cX12_notes 40 = .ok (.bipush 20, 2) := by decide +kernel
theorem dX12_notes_42 : decode cX12_notes 42 = .ok (.idiv, 1) := by decide +kernel
theorem dX12_notes_43 : decode cX12_notes 43 = .ok (.iload_n 1, 1) := by decide +kernel
theorem dX12_notes_44 : decode cX12_notes 44 = .ok (.bipush 20, 2) := by decide +kernel
theorem dX12_notes_46 : decode cX12_notes 46 = .ok (.irem, 1) := by decide +kernel
theorem dX12_notes_47 : decode cX12_notes 47 = .ok (.invokevirtual 119, 3) := by decide +kernel
theorem dX12_notes_50 : decode cX12_notes 50 = .ok (.goto 4, 3) := by decide +kernel
theorem dX12_notes_53 : decode cX12_notes 53 = .ok (.iconst 0, 1) := by decide +kernel
theorem dX12_notes_54 : decode cX12_notes 54 = .ok (.iastore, 1) := by decide +kernel
theorem dX12_notes_55 : decode cX12_notes 55 = .ok (.iinc 1 1, 3) := by decide +kernel
theorem dX12_notes_58 : decode cX12_notes 58 = .ok (.goto (-56), 3) := by decide +kernel
theorem dX12_notes_61 : decode cX12_notes 61 = .ok (.return_, 1) := by decide +kernel
theorem dX12_unlike_0 : decode cX12_unlike 0 = .ok (.iconst 0, 1) := by decide +kernel
theorem dX12_unlike_1 : decode cX12_unlike 1 = .ok (.istore_n 1, 1) := by decide +kernel
theorem dX12_unlike_2 : decode cX12_unlike 2 = .ok (.iconst 0, 1) := by decide +kernel
theorem dX12_unlike_3 : decode cX12_unlike 3 = .ok (.istore_n 2, 1) := by decide +kernel
theorem dX12_unlike_4 : decode cX12_unlike 4 = .ok (.iload_n 2, 1) := by decide +kernel
theorem dX12_unlike_5 : decode cX12_unlike 5 = .ok (.sipush 240, 3) := by decide +kernel
theorem dX12_unlike_8 : decode cX12_unlike 8 = .ok (.if_icmp .ge 93, 3) := by decide +kernel
theorem dX12_unlike_11 : decode cX12_unlike 11 = .ok (.iload_n 2, 1) := by decide +kernel
theorem dX12_unlike_12 : decode cX12_unlike 12 = .ok (.bipush 20, 2) := by decide +kernel
theorem dX12_unlike_14 : decode cX12_unlike 14 = .ok (.idiv, 1) := by decide +kernel
theorem dX12_unlike_15 : decode cX12_unlike 15 = .ok (.aload_n 0, 1) := by decide +kernel
theorem dX12_unlike_16 : decode cX12_unlike 16 = .ok (.getfield 7, 3) := by decide +kernel
theorem dX12_unlike_19 : decode cX12_unlike 19 = .ok (.iconst 0, 1) := by decide +kernel
theorem dX12_unlike_20 : decode cX12_unlike 20 = .ok (.iaload, 1) := by decide +kernel
theorem dX12_unlike_21 : decode cX12_unlike 21 = .ok (.if_icmp .ge 29, 3) := by decide +kernel
theorem dX12_unlike_24 : decode cX12_unlike 24 = .ok (.aload_n 0, 1) := by decide +kernel
theorem dX12_unlike_25 : decode cX12_unlike 25 = .ok (.iload_n 2, 1) := by decide +kernel
theorem dX12_unlike_26 : decode cX12_unlike 26 = .ok (.bipush 20, 2) := by decide +kernel
theorem dX12_unlike_28 : decode cX12_unlike 28 = .ok (.irem, 1) := by decide +kernel
theorem dX12_unlike_29 : decode cX12_unlike 29 = .ok (.invokevirtual 57, 3) := by decide +kernel
theorem dX12_unlike_32 : decode cX12_unlike 32 = .ok (.ifCond .eq 18, 3) := by decide +kernel
theorem dX12_unlike_35 : decode cX12_unlike 35 = .ok (.aload_n 0, 1) := by decide +kernel
theorem dX12_unlike_36 : decode cX12_unlike 36 = .ok (.iload_n 2, 1) := by decide +kernel
theorem dX12_unlike_37 : decode cX12_unlike 37 = .ok (.bipush 20, 2) := by decide +kernel
theorem dX12_unlike_39 : decode cX12_unlike 39 = .ok (.idiv, 1) := by decide +kernel
theorem dX12_unlike_40 : decode cX12_unlike 40 = .ok (.iload_n 2, 1) := by decide +kernel
theorem dX12_unlike_41 : decode cX12_unlike 41 = .ok (.bipush 20, 2) := by decide +kernel
theorem dX12_unlike_43 : decode cX12_unlike 43 = .ok (.irem, 1) := by decide +kernel
theorem dX12_unlike_44 : decode cX12_unlike 44 = .ok (.invokevirtual 119, 3) := by decide +kernel
theorem dX12_unlike_47 : decode cX12_unlike 47 = .ok (.goto 4, 3) := by decide +kernel
theorem dX12_unlike_50 : decode cX12_unlike 50 = .ok (.iconst 0, 1) := by decide +kernel
theorem dX12_unlike_51 : decode cX12_unlike 51 = .ok (.istore_n 3, 1) := by decide +kernel
theorem dX12_unlike_52 : decode cX12_unlike 52 = .ok (.iconst 0, 1) := by decide +kernel
theorem dX12_unlike_53 : decode cX12_unlike 53 = .ok (.istore 4, 2) := by decide +kernel
theorem dX12_unlike_55 : decode cX12_unlike 55 = .ok (.iload 4, 2) := by decide +kernel
theorem dX12_unlike_57 : decode cX12_unlike 57 = .ok (.iconst 3, 1) := by decide +kernel
theorem dX12_unlike_58 : decode cX12_unlike 58 = .ok (.if_icmp .gt 37, 3) := by decide +kernel
theorem dX12_unlike_61 : decode cX12_unlike 61 = .ok (.iload_n 1, 1) := by decide +kernel
theorem dX12_unlike_62 : decode cX12_unlike 62 = .ok (.iload_n 3, 1) := by decide +kernel
theorem dX12_unlike_63 : decode cX12_unlike 63 = .ok (.iload 4, 2) := by decide +kernel
theorem dX12_unlike_65 : decode cX12_unlike 65 = .ok (.invokestatic 65, 3) := by decide +kernel
theorem dX12_unlike_68 : decode cX12_unlike 68 = .ok (.aload_n 0, 1) := by decide +kernel
theorem dX12_unlike_69 : decode cX12_unlike 69 = .ok (.getfield 26, 3) := by decide +kernel
theorem dX12_unlike_72 : decode cX12_unlike 72 = .ok (.iload_n 2, 1) := by decide +kernel
theorem dX12_unlike_73 : decode cX12_unlike 73 = .ok (.iaload, 1) := by decide +kernel
theorem dX12_unlike_74 : decode cX12_unlike 74 = .ok (.iload 4, 2) := by decide +kernel
theorem dX12_unlike_76 : decode cX12_unlike 76 = .ok (.invokestatic 65, 3) := by decide +kernel
theorem dX12_unlike_79 : decode cX12_unlike 79 = .ok (.if_icmp .ne 7, 3) := by decide +kernel
theorem dX12_unlike_82 : decode cX12_unlike 82 = .ok (.iconst 0, 1) := by decide +kernel
theorem dX12_unlike_83 : decode cX12_unlike 83 = .ok (.goto 4, 3) := by decide +kernel
theorem dX12_unlike_86 : decode cX12_unlike 86 = .ok (.iconst 1, 1) := by decide +kernel
theorem dX12_unlike_87 : decode cX12_unlike 87 = .ok (.iadd, 1) := by decide +kernel
theorem dX12_unlike_88 : decode cX12_unlike 88 = .ok (.istore_n 1, 1) := by decide +kernel
theorem dX12_unlike_89 : decode cX12_unlike 89 = .ok (.iinc 4 1, 3) := by decide +kernel
theorem dX12_unlike_92 : decode cX12_unlike 92 = .ok (.goto (-37), 3) := by decide +kernel
theorem dX12_unlike_95 : decode cX12_unlike 95 = .ok (.iinc 2 1, 3) := by decide +kernel
theorem dX12_unlike_98 : decode cX12_unlike 98 = .ok (.goto (-94), 3) := by decide +kernel
theorem dX12_unlike_101 : decode cX12_unlike 101 = .ok (.iload_n 1, 1) := by decide +kernel
theorem dX12_unlike_102 : decode cX12_unlike 102 = .ok (.ireturn, 1) := by decide +kernel
theorem dX12_keepsOne_0 : decode cX12_keepsOne 0 = .ok (.iconst 0, 1) := by decide +kernel
theorem dX12_keepsOne_1 : decode cX12_keepsOne 1 = .ok (.istore_n 3, 1) := by decide +kernel
theorem dX12_keepsOne_2 : decode cX12_keepsOne 2 = .ok (.iload_n 3, 1) := by decide +kernel
theorem dX12_keepsOne_3 : decode cX12_keepsOne 3 = .ok (.iconst 5, 1) := by decide +kernel
theorem dX12_keepsOne_4 : decode cX12_keepsOne 4 = .ok (.if_icmp .ge 22, 3) := by decide +kernel
theorem dX12_keepsOne_7 : decode cX12_keepsOne 7 = .ok (.aload_n 0, 1) := by decide +kernel
theorem dX12_keepsOne_8 : decode cX12_keepsOne 8 = .ok (.getfield 29, 3) := by decide +kernel
theorem dX12_keepsOne_11 : decode cX12_keepsOne 11 = .ok (.iload_n 3, 1) := by decide +kernel
theorem dX12_keepsOne_12 : decode cX12_keepsOne 12 = .ok (.aload_n 0, 1) := by decide +kernel
theorem dX12_keepsOne_13 : decode cX12_keepsOne 13 = .ok (.iload_n 1, 1) := by decide +kernel
theorem dX12_keepsOne_14 : decode cX12_keepsOne 14 = .ok (.iload_n 2, 1) := by decide +kernel
theorem dX12_keepsOne_15 : decode cX12_keepsOne 15 = .ok (.iload_n 3, 1) := by decide +kernel
theorem dX12_keepsOne_16 : decode cX12_keepsOne 16 = .ok (.invokevirtual 122, 3) := by decide +kernel
theorem dX12_keepsOne_19 : decode cX12_keepsOne 19 = .ok (.iastore, 1) := by decide +kernel
theorem dX12_keepsOne_20 : decode cX12_keepsOne 20 = .ok (.iinc 3 1, 3) := by decide +kernel
theorem dX12_keepsOne_23 : decode cX12_keepsOne 23 = .ok (.goto (-21), 3) := by decide +kernel
theorem dX12_keepsOne_26 : decode cX12_keepsOne 26 = .ok (.return_, 1) := by decide +kernel
theorem dX12_putsOne_0 : decode cX12_putsOne 0 = .ok (.aload_n 0, 1) := by decide +kernel
theorem dX12_putsOne_1 : decode cX12_putsOne 1 = .ok (.iload_n 1, 1) := by decide +kernel
theorem dX12_putsOne_2 : decode cX12_putsOne 2 = .ok (.iload_n 2, 1) := by decide +kernel
theorem dX12_putsOne_3 : decode cX12_putsOne 3 = .ok (.invokevirtual 125, 3) := by decide +kernel
theorem dX12_putsOne_6 : decode cX12_putsOne 6 = .ok (.iconst 0, 1) := by decide +kernel
theorem dX12_putsOne_7 : decode cX12_putsOne 7 = .ok (.istore_n 3, 1) := by decide +kernel
theorem dX12_putsOne_8 : decode cX12_putsOne 8 = .ok (.iload_n 3, 1) := by decide +kernel
theorem dX12_putsOne_9 : decode cX12_putsOne 9 = .ok (.iconst 5, 1) := by decide +kernel
theorem dX12_putsOne_10 : decode cX12_putsOne 10 = .ok (.if_icmp .ge 26, 3) := by decide +kernel
theorem dX12_putsOne_13 : decode cX12_putsOne 13 = .ok (.aload_n 0, 1) := by decide +kernel
theorem dX12_putsOne_14 : decode cX12_putsOne 14 = .ok (.getfield 7, 3) := by decide +kernel
theorem dX12_putsOne_17 : decode cX12_putsOne 17 = .ok (.iload_n 1, 1) := by decide +kernel
theorem dX12_putsOne_18 : decode cX12_putsOne 18 = .ok (.iload_n 2, 1) := by decide +kernel
theorem dX12_putsOne_19 : decode cX12_putsOne 19 = .ok (.iload_n 3, 1) := by decide +kernel
theorem dX12_putsOne_20 : decode cX12_putsOne 20 = .ok (.invokestatic 61, 3) := by decide +kernel
theorem dX12_putsOne_23 : decode cX12_putsOne 23 = .ok (.aload_n 0, 1) := by decide +kernel
theorem dX12_putsOne_24 : decode cX12_putsOne 24 = .ok (.getfield 29, 3) := by decide +kernel
theorem dX12_putsOne_27 : decode cX12_putsOne 27 = .ok (.iload_n 3, 1) := by decide +kernel
theorem dX12_putsOne_28 : decode cX12_putsOne 28 = .ok (.iaload, 1) := by decide +kernel
theorem dX12_putsOne_29 : decode cX12_putsOne 29 = .ok (.iastore, 1) := by decide +kernel
theorem dX12_putsOne_30 : decode cX12_putsOne 30 = .ok (.iinc 3 1, 3) := by decide +kernel
theorem dX12_putsOne_33 : decode cX12_putsOne 33 = .ok (.goto (-25), 3) := by decide +kernel
theorem dX12_putsOne_36 : decode cX12_putsOne 36 = .ok (.return_, 1) := by decide +kernel
theorem dX12_moveEntry_0 : decode cX12_moveEntry 0 = .ok (.aload_n 0, 1) := by decide +kernel
theorem dX12_moveEntry_1 : decode cX12_moveEntry 1 = .ok (.iconst 0, 1) := by decide +kernel
theorem dX12_moveEntry_2 : decode cX12_moveEntry 2 = .ok (.putfield 39, 3) := by decide +kernel
theorem dX12_moveEntry_5 : decode cX12_moveEntry 5 = .ok (.aload_n 0, 1) := by decide +kernel
theorem dX12_moveEntry_6 : decode cX12_moveEntry 6 = .ok (.iload_n 1, 1) := by decide +kernel
theorem dX12_moveEntry_7 : decode cX12_moveEntry 7 = .ok (.iload_n 2, 1) := by decide +kernel
theorem dX12_moveEntry_8 : decode cX12_moveEntry 8 = .ok (.invokevirtual 112, 3) := by decide +kernel
theorem dX12_moveEntry_11 : decode cX12_moveEntry 11 = .ok (.ifCond .eq 12, 3) := by decide +kernel
theorem dX12_moveEntry_14 : decode cX12_moveEntry 14 = .ok (.aload_n 0, 1) := by decide +kernel
theorem dX12_moveEntry_15 : decode cX12_moveEntry 15 = .ok (.iload_n 1, 1) := by decide +kernel
theorem dX12_moveEntry_16 : decode cX12_moveEntry 16 = .ok (.iload_n 3, 1) := by decide +kernel
theorem dX12_moveEntry_17 : decode cX12_moveEntry 17 = .ok (.invokevirtual 112, 3) := by decide +kernel
theorem dX12_moveEntry_20 : decode cX12_moveEntry 20 = .ok (.ifCond .ne 9, 3) := by decide +kernel
theorem dX12_moveEntry_23 : decode cX12_moveEntry 23 = .ok (.aload_n 0, 1) := by decide +kernel
theorem dX12_moveEntry_24 : decode cX12_moveEntry 24 = .ok (.iconst 1, 1) := by decide +kernel
theorem dX12_moveEntry_25 : decode cX12_moveEntry 25 = .ok (.invokevirtual 76, 3) := by decide +kernel
theorem dX12_moveEntry_28 : decode cX12_moveEntry 28 = .ok (.ireturn, 1) := by decide +kernel
theorem dX12_moveEntry_29 : decode cX12_moveEntry 29 = .ok (.aload_n 0, 1) := by decide +kernel
theorem dX12_moveEntry_30 : decode cX12_moveEntry 30 = .ok (.invokevirtual 79, 3) := by decide +kernel
theorem dX12_moveEntry_33 : decode cX12_moveEntry 33 = .ok (.aload_n 0, 1) := by decide +kernel
theorem dX12_moveEntry_34 : decode cX12_moveEntry 34 = .ok (.invokevirtual 128, 3) := by decide +kernel
theorem dX12_moveEntry_37 : decode cX12_moveEntry 37 = .ok (.aload_n 0, 1) := by decide +kernel
theorem dX12_moveEntry_38 : decode cX12_moveEntry 38 = .ok (.iload_n 1, 1) := by decide +kernel
theorem dX12_moveEntry_39 : decode cX12_moveEntry 39 = .ok (.iload_n 2, 1) := by decide +kernel
theorem dX12_moveEntry_40 : decode cX12_moveEntry 40 = .ok (.invokevirtual 131, 3) := by decide +kernel
theorem dX12_moveEntry_43 : decode cX12_moveEntry 43 = .ok (.aload_n 0, 1) := by decide +kernel
theorem dX12_moveEntry_44 : decode cX12_moveEntry 44 = .ok (.iload_n 1, 1) := by decide +kernel
theorem dX12_moveEntry_45 : decode cX12_moveEntry 45 = .ok (.iload_n 2, 1) := by decide +kernel
theorem dX12_moveEntry_46 : decode cX12_moveEntry 46 = .ok (.invokevirtual 115, 3) := by decide +kernel
theorem dX12_moveEntry_49 : decode cX12_moveEntry 49 = .ok (.aload_n 0, 1) := by decide +kernel
theorem dX12_moveEntry_50 : decode cX12_moveEntry 50 = .ok (.iload_n 1, 1) := by decide +kernel
theorem dX12_moveEntry_51 : decode cX12_moveEntry 51 = .ok (.iload_n 3, 1) := by decide +kernel
theorem dX12_moveEntry_52 : decode cX12_moveEntry 52 = .ok (.invokevirtual 134, 3) := by decide +kernel
theorem dX12_moveEntry_55 : decode cX12_moveEntry 55 = .ok (.aload_n 0, 1) := by decide +kernel
theorem dX12_moveEntry_56 : decode cX12_moveEntry 56 = .ok (.invokevirtual 137, 3) := by decide +kernel
theorem dX12_moveEntry_59 : decode cX12_moveEntry 59 = .ok (.ireturn, 1) := by decide +kernel
theorem dX12_isFor_0 : decode cX12_isFor 0 = .ok (.aload_n 0, 1) := by decide +kernel
theorem dX12_isFor_1 : decode cX12_isFor 1 = .ok (.iload_n 3, 1) := by decide +kernel
theorem dX12_isFor_2 : decode cX12_isFor 2 = .ok (.iload 4, 2) := by decide +kernel
theorem dX12_isFor_4 : decode cX12_isFor 4 = .ok (.iconst 1, 1) := by decide +kernel
theorem dX12_isFor_5 : decode cX12_isFor 5 = .ok (.invokevirtual 122, 3) := by decide +kernel
theorem dX12_isFor_8 : decode cX12_isFor 8 = .ok (.istore 5, 2) := by decide +kernel
theorem dX12_isFor_10 : decode cX12_isFor 10 = .ok (.aload_n 0, 1) := by decide +kernel
theorem dX12_isFor_11 : decode cX12_isFor 11 = .ok (.iload_n 3, 1) := by decide +kernel
theorem dX12_isFor_12 : decode cX12_isFor 12 = .ok (.iload 4, 2) := by decide +kernel
theorem dX12_isFor_14 : decode cX12_isFor 14 = .ok (.iconst 0, 1) := by decide +kernel
theorem dX12_isFor_15 : decode cX12_isFor 15 = .ok (.invokevirtual 122, 3) := by decide +kernel
theorem dX12_isFor_18 : decode cX12_isFor 18 = .ok (.tableswitch 62 0 2 #[26, 38, 46], 26) := by decide +kernel
theorem dX12_isFor_44 : decode cX12_isFor 44 = .ok (.iload 5, 2) := by decide +kernel
theorem dX12_isFor_46 : decode cX12_isFor 46 = .ok (.iload_n 1, 1) := by decide +kernel
theorem dX12_isFor_47 : decode cX12_isFor 47 = .ok (.if_icmp .ne 7, 3) := by decide +kernel
theorem dX12_isFor_50 : decode cX12_isFor 50 = .ok (.iconst 1, 1) := by decide +kernel
theorem dX12_isFor_51 : decode cX12_isFor 51 = .ok (.goto 4, 3) := by decide +kernel
theorem dX12_isFor_54 : decode cX12_isFor 54 = .ok (.iconst 0, 1) := by decide +kernel
theorem dX12_isFor_55 : decode cX12_isFor 55 = .ok (.ireturn, 1) := by decide +kernel
theorem dX12_isFor_56 : decode cX12_isFor 56 = .ok (.aload_n 0, 1) := by decide +kernel
theorem dX12_isFor_57 : decode cX12_isFor 57 = .ok (.iload_n 1, 1) := by decide +kernel
theorem dX12_isFor_58 : decode cX12_isFor 58 = .ok (.iload 5, 2) := by decide +kernel
theorem dX12_isFor_60 : decode cX12_isFor 60 = .ok (.invokevirtual 73, 3) := by decide +kernel
theorem dX12_isFor_63 : decode cX12_isFor 63 = .ok (.ireturn, 1) := by decide +kernel
theorem dX12_isFor_64 : decode cX12_isFor 64 = .ok (.aload_n 0, 1) := by decide +kernel
theorem dX12_isFor_65 : decode cX12_isFor 65 = .ok (.iload_n 2, 1) := by decide +kernel
theorem dX12_isFor_66 : decode cX12_isFor 66 = .ok (.iconst 2, 1) := by decide +kernel
theorem dX12_isFor_67 : decode cX12_isFor 67 = .ok (.invokevirtual 54, 3) := by decide +kernel
theorem dX12_isFor_70 : decode cX12_isFor 70 = .ok (.iload_n 1, 1) := by decide +kernel
theorem dX12_isFor_71 : decode cX12_isFor 71 = .ok (.if_icmp .ne 7, 3) := by decide +kernel
theorem dX12_isFor_74 : decode cX12_isFor 74 = .ok (.iconst 1, 1) := by decide +kernel
theorem dX12_isFor_75 : decode cX12_isFor 75 = .ok (.goto 4, 3) := by decide +kernel
theorem dX12_isFor_78 : decode cX12_isFor 78 = .ok (.iconst 0, 1) := by decide +kernel
theorem dX12_isFor_79 : decode cX12_isFor 79 = .ok (.ireturn, 1) := by decide +kernel
theorem dX12_isFor_80 : decode cX12_isFor 80 = .ok (.iconst 1, 1) := by decide +kernel
theorem dX12_isFor_81 : decode cX12_isFor 81 = .ok (.ireturn, 1) := by decide +kernel
theorem dX12_decides_0 : decode cX12_decides 0 = .ok (.iload_n 2, 1) := by decide +kernel
theorem dX12_decides_1 : decode cX12_decides 1 = .ok (.istore 4, 2) := by decide +kernel
theorem dX12_decides_3 : decode cX12_decides 3 = .ok (.iload 4, 2) := by decide +kernel
theorem dX12_decides_5 : decode cX12_decides 5 = .ok (.ifCond .lt 120, 3) := by decide +kernel
theorem dX12_decides_8 : decode cX12_decides 8 = .ok (.iconst 0, 1) := by decide +kernel
theorem dX12_decides_9 : decode cX12_decides 9 = .ok (.istore 5, 2) := by decide +kernel
theorem dX12_decides_11 : decode cX12_decides 11 = .ok (.iload 5, 2) := by decide +kernel
theorem dX12_decides_13 : decode cX12_decides 13 = .ok (.aload_n 0, 1) := by decide +kernel
theorem dX12_decides_14 : decode cX12_decides 14 = .ok (.iload 4, 2) := by decide +kernel
theorem dX12_decides_16 : decode cX12_decides 16 = .ok (.iconst 5, 1) := by decide +kernel
theorem dX12_decides_17 : decode cX12_decides 17 = .ok (.invokevirtual 54, 3) := by decide +kernel
theorem dX12_decides_20 : decode cX12_decides 20 = .ok (.if_icmp .ge 78, 3) := by decide +kernel
theorem dX12_decides_23 : decode cX12_decides 23 = .ok (.iload 4, 2) := by decide +kernel
theorem dX12_decides_25 : decode cX12_decides 25 = .ok (.iload_n 2, 1) := by decide +kernel
theorem dX12_decides_26 : decode cX12_decides 26 = .ok (.if_icmp .eq 16, 3) := by decide +kernel
theorem dX12_decides_29 : decode cX12_decides 29 = .ok (.aload_n 0, 1) := by decide +kernel
theorem dX12_decides_30 : decode cX12_decides 30 = .ok (.iload 4, 2) := by decide +kernel
theorem dX12_decides_32 : decode cX12_decides 32 = .ok (.iload 5, 2) := by decide +kernel
theorem dX12_decides_34 : decode cX12_decides 34 = .ok (.iconst 4, 1) := by decide +kernel
theorem dX12_decides_35 : decode cX12_decides 35 = .ok (.invokevirtual 122, 3) := by decide +kernel
theorem dX12_decides_38 : decode cX12_decides 38 = .ok (.iconst 1, 1) := by decide +kernel
theorem dX12_decides_39 : decode cX12_decides 39 = .ok (.if_icmp .ne 7, 3) := by decide +kernel
theorem dX12_decides_42 : decode cX12_decides 42 = .ok (.iconst 1, 1) := by decide +kernel
theorem dX12_decides_43 : decode cX12_decides 43 = .ok (.goto 4, 3) := by decide +kernel
theorem dX12_decides_46 : decode cX12_decides 46 = .ok (.iconst 0, 1) := by decide +kernel
theorem dX12_decides_47 : decode cX12_decides 47 = .ok (.istore 6, 2) := by decide +kernel
theorem dX12_decides_49 : decode cX12_decides 49 = .ok (.iload 6, 2) := by decide +kernel
theorem dX12_decides_51 : decode cX12_decides 51 = .ok (.ifCond .eq 41, 3) := by decide +kernel
theorem dX12_decides_54 : decode cX12_decides 54 = .ok (.aload_n 0, 1) := by decide +kernel
theorem dX12_decides_55 : decode cX12_decides 55 = .ok (.iload 4, 2) := by decide +kernel
theorem dX12_decides_57 : decode cX12_decides 57 = .ok (.iload 5, 2) := by decide +kernel
theorem dX12_decides_59 : decode cX12_decides 59 = .ok (.iconst 2, 1) := by decide +kernel
theorem dX12_decides_60 : decode cX12_decides 60 = .ok (.invokevirtual 122, 3) := by decide +kernel
theorem dX12_decides_63 : decode cX12_decides 63 = .ok (.iload_n 3, 1) := by decide +kernel
theorem dX12_decides_64 : decode cX12_decides 64 = .ok (.invokestatic 65, 3) := by decide +kernel
theorem dX12_decides_67 : decode cX12_decides 67 = .ok (.ifCond .eq 25, 3) := by decide +kernel
theorem dX12_decides_70 : decode cX12_decides 70 = .ok (.aload_n 0, 1) := by decide +kernel
theorem dX12_decides_71 : decode cX12_decides 71 = .ok (.iload_n 1, 1) := by decide +kernel
theorem dX12_decides_72 : decode cX12_decides 72 = .ok (.iload_n 2, 1) := by decide +kernel
theorem dX12_decides_73 : decode cX12_decides 73 = .ok (.iload 4, 2) := by decide +kernel
theorem dX12_decides_75 : decode cX12_decides 75 = .ok (.iload 5, 2) := by decide +kernel
theorem dX12_decides_77 : decode cX12_decides 77 = .ok (.invokevirtual 140, 3) := by decide +kernel
theorem dX12_decides_80 : decode cX12_decides 80 = .ok (.ifCond .eq 12, 3) := by decide +kernel
theorem dX12_decides_83 : decode cX12_decides 83 = .ok (.bipush 6, 2) := by decide +kernel
theorem dX12_decides_85 : decode cX12_decides 85 = .ok (.iload 4, 2) := by decide +kernel
theorem dX12_decides_87 : decode cX12_decides 87 = .ok (.imul, 1) := by decide +kernel
theorem dX12_decides_88 : decode cX12_decides 88 = .ok (.iload 5, 2) := by decide +kernel
theorem dX12_decides_90 : decode cX12_decides 90 = .ok (.iadd, 1) := by decide +kernel
theorem dX12_decides_91 : decode cX12_decides 91 = .ok (.ireturn, 1) := by decide +kernel
theorem dX12_decides_92 : decode cX12_decides 92 = .ok (.iinc 5 1, 3) := by decide +kernel
theorem dX12_decides_95 : decode cX12_decides 95 = .ok (.goto (-84), 3) := by decide +kernel
theorem dX12_decides_98 : decode cX12_decides 98 = .ok (.aload_n 0, 1) := by decide +kernel
theorem dX12_decides_99 : decode cX12_decides 99 = .ok (.iload 4, 2) := by decide +kernel
theorem dX12_decides_101 : decode cX12_decides 101 = .ok (.iconst 4, 1) := by decide +kernel
theorem dX12_decides_102 : decode cX12_decides 102 = .ok (.invokevirtual 54, 3) := by decide +kernel
theorem dX12_decides_105 : decode cX12_decides 105 = .ok (.iconst 1, 1) := by decide +kernel
theorem dX12_decides_106 : decode cX12_decides 106 = .ok (.if_icmp .ne 13, 3) := by decide +kernel
theorem dX12_decides_109 : decode cX12_decides 109 = .ok (.aload_n 0, 1) := by decide +kernel
theorem dX12_decides_110 : decode cX12_decides 110 = .ok (.iload 4, 2) := by decide +kernel
theorem dX12_decides_112 : decode cX12_decides 112 = .ok (.iconst 1, 1) := by decide +kernel
theorem dX12_decides_113 : decode cX12_decides 113 = .ok (.invokevirtual 54, 3) := by decide +kernel
theorem dX12_decides_116 : decode cX12_decides 116 = .ok (.goto 4, 3) := by decide +kernel
theorem dX12_decides_119 : decode cX12_decides 119 = .ok (.iconst (-1), 1) := by decide +kernel
theorem dX12_decides_120 : decode cX12_decides 120 = .ok (.istore 4, 2) := by decide +kernel
theorem dX12_decides_122 : decode cX12_decides 122 = .ok (.goto (-119), 3) := by decide +kernel
theorem dX12_decides_125 : decode cX12_decides 125 = .ok (.iconst (-1), 1) := by decide +kernel
theorem dX12_decides_126 : decode cX12_decides 126 = .ok (.ireturn, 1) := by decide +kernel
theorem dX12_isByList_0 : decode cX12_isByList 0 = .ok (.aload_n 0, 1) := by decide +kernel
theorem dX12_isByList_1 : decode cX12_isByList 1 = .ok (.iload_n 1, 1) := by decide +kernel
theorem dX12_isByList_2 : decode cX12_isByList 2 = .ok (.iload_n 2, 1) := by decide +kernel
theorem dX12_isByList_3 : decode cX12_isByList 3 = .ok (.iload_n 3, 1) := by decide +kernel
theorem dX12_isByList_4 : decode cX12_isByList 4 = .ok (.invokevirtual 144, 3) := by decide +kernel
theorem dX12_isByList_7 : decode cX12_isByList 7 = .ok (.istore 4, 2) := by decide +kernel
theorem dX12_isByList_9 : decode cX12_isByList 9 = .ok (.iload 4, 2) := by decide +kernel
theorem dX12_isByList_11 : decode cX12_isByList 11 = .ok (.ifCond .lt 26, 3) := by decide +kernel
theorem dX12_isByList_14 : decode cX12_isByList 14 = .ok (.aload_n 0, 1) := by decide +kernel
theorem dX12_isByList_15 : decode cX12_isByList 15 = .ok (.iload 4, 2) := by decide +kernel
theorem dX12_isByList_17 : decode cX12_isByList 17 = .ok (.bipush 6, 2) := by decide +kernel
theorem dX12_isByList_19 : decode cX12_isByList 19 = .ok (.idiv, 1) := by decide +kernel
theorem dX12_isByList_20 : decode cX12_isByList 20 = .ok (.iload 4, 2) := by decide +kernel
theorem dX12_isByList_22 : decode cX12_isByList 22 = .ok (.bipush 6, 2) := by decide +kernel
theorem dX12_isByList_24 : decode cX12_isByList 24 = .ok (.irem, 1) := by decide +kernel
theorem dX12_isByList_25 : decode cX12_isByList 25 = .ok (.iconst 3, 1) := by decide +kernel
theorem dX12_isByList_26 : decode cX12_isByList 26 = .ok (.invokevirtual 122, 3) := by decide +kernel
theorem dX12_isByList_29 : decode cX12_isByList 29 = .ok (.iconst 1, 1) := by decide +kernel
theorem dX12_isByList_30 : decode cX12_isByList 30 = .ok (.if_icmp .ne 7, 3) := by decide +kernel
theorem dX12_isByList_33 : decode cX12_isByList 33 = .ok (.iconst 1, 1) := by decide +kernel
theorem dX12_isByList_34 : decode cX12_isByList 34 = .ok (.goto 4, 3) := by decide +kernel
theorem dX12_isByList_37 : decode cX12_isByList 37 = .ok (.iconst 0, 1) := by decide +kernel
theorem dX12_isByList_38 : decode cX12_isByList 38 = .ok (.ireturn, 1) := by decide +kernel
theorem dX12_allows_0 : decode cX12_allows 0 = .ok (.iload_n 1, 1) := by decide +kernel
theorem dX12_allows_1 : decode cX12_allows 1 = .ok (.ifCond .eq 41, 3) := by decide +kernel
theorem dX12_allows_4 : decode cX12_allows 4 = .ok (.iload_n 3, 1) := by decide +kernel
theorem dX12_allows_5 : decode cX12_allows 5 = .ok (.iconst 3, 1) := by decide +kernel
theorem dX12_allows_6 : decode cX12_allows 6 = .ok (.if_icmp .ne 13, 3) := by decide +kernel
theorem dX12_allows_9 : decode cX12_allows 9 = .ok (.aload_n 0, 1) := by decide +kernel
theorem dX12_allows_10 : decode cX12_allows 10 = .ok (.iload_n 2, 1) := by decide +kernel
theorem dX12_allows_11 : decode cX12_allows 11 = .ok (.iconst 2, 1) := by decide +kernel
theorem dX12_allows_12 : decode cX12_allows 12 = .ok (.invokevirtual 54, 3) := by decide +kernel
theorem dX12_allows_15 : decode cX12_allows 15 = .ok (.iload_n 1, 1) := by decide +kernel
theorem dX12_allows_16 : decode cX12_allows 16 = .ok (.if_icmp .eq 26, 3) := by decide +kernel
theorem dX12_allows_19 : decode cX12_allows 19 = .ok (.aload_n 0, 1) := by decide +kernel
theorem dX12_allows_20 : decode cX12_allows 20 = .ok (.iload_n 2, 1) := by decide +kernel
theorem dX12_allows_21 : decode cX12_allows 21 = .ok (.iconst 3, 1) := by decide +kernel
theorem dX12_allows_22 : decode cX12_allows 22 = .ok (.invokevirtual 54, 3) := by decide +kernel
theorem dX12_allows_25 : decode cX12_allows 25 = .ok (.iload_n 3, 1) := by decide +kernel
theorem dX12_allows_26 : decode cX12_allows 26 = .ok (.invokestatic 65, 3) := by decide +kernel
theorem dX12_allows_29 : decode cX12_allows 29 = .ok (.ifCond .eq 17, 3) := by decide +kernel
theorem dX12_allows_32 : decode cX12_allows 32 = .ok (.aload_n 0, 1) := by decide +kernel
theorem dX12_allows_33 : decode cX12_allows 33 = .ok (.iload_n 1, 1) := by decide +kernel
theorem dX12_allows_34 : decode cX12_allows 34 = .ok (.iload_n 2, 1) := by decide +kernel
theorem dX12_allows_35 : decode cX12_allows 35 = .ok (.iload_n 3, 1) := by decide +kernel
theorem dX12_allows_36 : decode cX12_allows 36 = .ok (.invokevirtual 147, 3) := by decide +kernel
theorem dX12_allows_39 : decode cX12_allows 39 = .ok (.ifCond .eq 7, 3) := by decide +kernel
theorem dX12_allows_42 : decode cX12_allows 42 = .ok (.iconst 1, 1) := by decide +kernel
theorem dX12_allows_43 : decode cX12_allows 43 = .ok (.goto 4, 3) := by decide +kernel
theorem dX12_allows_46 : decode cX12_allows 46 = .ok (.iconst 0, 1) := by decide +kernel
theorem dX12_allows_47 : decode cX12_allows 47 = .ok (.ireturn, 1) := by decide +kernel
theorem dX12_rights_0 : decode cX12_rights 0 = .ok (.iconst 0, 1) := by decide +kernel
theorem dX12_rights_1 : decode cX12_rights 1 = .ok (.istore_n 3, 1) := by decide +kernel
theorem dX12_rights_2 : decode cX12_rights 2 = .ok (.iconst 0, 1) := by decide +kernel
theorem dX12_rights_3 : decode cX12_rights 3 = .ok (.istore 4, 2) := by decide +kernel
theorem dX12_rights_5 : decode cX12_rights 5 = .ok (.iload 4, 2) := by decide +kernel
theorem dX12_rights_7 : decode cX12_rights 7 = .ok (.iconst 3, 1) := by decide +kernel
theorem dX12_rights_8 : decode cX12_rights 8 = .ok (.if_icmp .gt 31, 3) := by decide +kernel
theorem dX12_rights_11 : decode cX12_rights 11 = .ok (.iload_n 3, 1) := by decide +kernel
theorem dX12_rights_12 : decode cX12_rights 12 = .ok (.aload_n 0, 1) := by decide +kernel
theorem dX12_rights_13 : decode cX12_rights 13 = .ok (.iload_n 1, 1) := by decide +kernel
theorem dX12_rights_14 : decode cX12_rights 14 = .ok (.iload_n 2, 1) := by decide +kernel
theorem dX12_rights_15 : decode cX12_rights 15 = .ok (.iload 4, 2) := by decide +kernel
theorem dX12_rights_17 : decode cX12_rights 17 = .ok (.invokevirtual 150, 3) := by decide +kernel
theorem dX12_rights_20 : decode cX12_rights 20 = .ok (.ifCond .eq 10, 3) := by decide +kernel
theorem dX12_rights_23 : decode cX12_rights 23 = .ok (.iconst 1, 1) := by decide +kernel
theorem dX12_rights_24 : decode cX12_rights 24 = .ok (.iload 4, 2) := by decide +kernel
theorem dX12_rights_26 : decode cX12_rights 26 = .ok (.ishl, 1) := by decide +kernel
theorem dX12_rights_27 : decode cX12_rights 27 = .ok (.goto 4, 3) := by decide +kernel
theorem dX12_rights_30 : decode cX12_rights 30 = .ok (.iconst 0, 1) := by decide +kernel
theorem dX12_rights_31 : decode cX12_rights 31 = .ok (.ior, 1) := by decide +kernel
theorem dX12_rights_32 : decode cX12_rights 32 = .ok (.istore_n 3, 1) := by decide +kernel
theorem dX12_rights_33 : decode cX12_rights 33 = .ok (.iinc 4 1, 3) := by decide +kernel
theorem dX12_rights_36 : decode cX12_rights 36 = .ok (.goto (-31), 3) := by decide +kernel
theorem dX12_rights_39 : decode cX12_rights 39 = .ok (.iload_n 3, 1) := by decide +kernel
theorem dX12_rights_40 : decode cX12_rights 40 = .ok (.ireturn, 1) := by decide +kernel
theorem dX12_everything_0 : decode cX12_everything 0 = .ok (.iconst 0, 1) := by decide +kernel
theorem dX12_everything_1 : decode cX12_everything 1 = .ok (.istore_n 1, 1) := by decide +kernel
theorem dX12_everything_2 : decode cX12_everything 2 = .ok (.iconst 0, 1) := by decide +kernel
theorem dX12_everything_3 : decode cX12_everything 3 = .ok (.istore_n 2, 1) := by decide +kernel
theorem dX12_everything_4 : decode cX12_everything 4 = .ok (.iload_n 2, 1) := by decide +kernel
theorem dX12_everything_5 : decode cX12_everything 5 = .ok (.aload_n 0, 1) := by decide +kernel
theorem dX12_everything_6 : decode cX12_everything 6 = .ok (.getfield 7, 3) := by decide +kernel
theorem dX12_everything_9 : decode cX12_everything 9 = .ok (.iconst 0, 1) := by decide +kernel
theorem dX12_everything_10 : decode cX12_everything 10 = .ok (.iaload, 1) := by decide +kernel
theorem dX12_everything_11 : decode cX12_everything 11 = .ok (.if_icmp .ge 47, 3) := by decide +kernel
theorem dX12_everything_14 : decode cX12_everything 14 = .ok (.iconst 0, 1) := by decide +kernel
theorem dX12_everything_15 : decode cX12_everything 15 = .ok (.istore_n 3, 1) := by decide +kernel
theorem dX12_everything_16 : decode cX12_everything 16 = .ok (.iload_n 3, 1) := by decide +kernel
theorem dX12_everything_17 : decode cX12_everything 17 = .ok (.bipush 20, 2) := by decide +kernel
theorem dX12_everything_19 : decode cX12_everything 19 = .ok (.if_icmp .ge 33, 3) := by decide +kernel
theorem dX12_everything_22 : decode cX12_everything 22 = .ok (.iload_n 1, 1) := by decide +kernel
theorem dX12_everything_23 : decode cX12_everything 23 = .ok (.aload_n 0, 1) := by decide +kernel
theorem dX12_everything_24 : decode cX12_everything 24 = .ok (.iload_n 3, 1) := by decide +kernel
theorem dX12_everything_25 : decode cX12_everything 25 = .ok (.invokevirtual 57, 3) := by decide +kernel
theorem dX12_everything_28 : decode cX12_everything 28 = .ok (.ifCond .eq 15, 3) := by decide +kernel
theorem dX12_everything_31 : decode cX12_everything 31 = .ok (.aload_n 0, 1) := by decide +kernel
theorem dX12_everything_32 : decode cX12_everything 32 = .ok (.iload_n 2, 1) := by decide +kernel
theorem dX12_everything_33 : decode cX12_everything 33 = .ok (.iload_n 3, 1) := by decide +kernel
theorem dX12_everything_34 : decode cX12_everything 34 = .ok (.invokevirtual 119, 3) := by decide +kernel
theorem dX12_everything_37 : decode cX12_everything 37 = .ok (.invokestatic 153, 3) := by decide +kernel
theorem dX12_everything_40 : decode cX12_everything 40 = .ok (.goto 4, 3) := by decide +kernel
theorem dX12_everything_43 : decode cX12_everything 43 = .ok (.iconst 0, 1) := by decide +kernel
theorem dX12_everything_44 : decode cX12_everything 44 = .ok (.iadd, 1) := by decide +kernel
theorem dX12_everything_45 : decode cX12_everything 45 = .ok (.istore_n 1, 1) := by decide +kernel
theorem dX12_everything_46 : decode cX12_everything 46 = .ok (.iinc 3 1, 3) := by decide +kernel
theorem dX12_everything_49 : decode cX12_everything 49 = .ok (.goto (-33), 3) := by decide +kernel
theorem dX12_everything_52 : decode cX12_everything 52 = .ok (.iinc 2 1, 3) := by decide +kernel
theorem dX12_everything_55 : decode cX12_everything 55 = .ok (.goto (-51), 3) := by decide +kernel
theorem dX12_everything_58 : decode cX12_everything 58 = .ok (.iload_n 1, 1) := by decide +kernel
theorem dX12_everything_59 : decode cX12_everything 59 = .ok (.ireturn, 1) := by decide +kernel
theorem dX12_ask_0 : decode cX12_ask 0 = .ok (.aload_n 0, 1) := by decide +kernel
theorem dX12_ask_1 : decode cX12_ask 1 = .ok (.aload_n 0, 1) := by decide +kernel
theorem dX12_ask_2 : decode cX12_ask 2 = .ok (.iload_n 1, 1) := by decide +kernel
theorem dX12_ask_3 : decode cX12_ask 3 = .ok (.invokevirtual 82, 3) := by decide +kernel
theorem dX12_ask_6 : decode cX12_ask 6 = .ok (.ifCond .eq 11, 3) := by decide +kernel
theorem dX12_ask_9 : decode cX12_ask 9 = .ok (.aload_n 0, 1) := by decide +kernel
theorem dX12_ask_10 : decode cX12_ask 10 = .ok (.iload_n 2, 1) := by decide +kernel
theorem dX12_ask_11 : decode cX12_ask 11 = .ok (.invokevirtual 57, 3) := by decide +kernel
theorem dX12_ask_14 : decode cX12_ask 14 = .ok (.ifCond .ne 7, 3) := by decide +kernel
theorem dX12_ask_17 : decode cX12_ask 17 = .ok (.iconst 1, 1) := by decide +kernel
theorem dX12_ask_18 : decode cX12_ask 18 = .ok (.goto 15, 3) := by decide +kernel
theorem dX12_ask_21 : decode cX12_ask 21 = .ok (.iload_n 3, 1) := by decide +kernel
theorem dX12_ask_22 : decode cX12_ask 22 = .ok (.invokestatic 156, 3) := by decide +kernel
theorem dX12_ask_25 : decode cX12_ask 25 = .ok (.ifCond .eq 7, 3) := by decide +kernel
theorem dX12_ask_28 : decode cX12_ask 28 = .ok (.iconst 0, 1) := by decide +kernel
theorem dX12_ask_29 : decode cX12_ask 29 = .ok (.goto 4, 3) := by decide +kernel
theorem dX12_ask_32 : decode cX12_ask 32 = .ok (.iconst 2, 1) := by decide +kernel
theorem dX12_ask_33 : decode cX12_ask 33 = .ok (.putfield 39, 3) := by decide +kernel
theorem dX12_ask_36 : decode cX12_ask 36 = .ok (.aload_n 0, 1) := by decide +kernel
theorem dX12_ask_37 : decode cX12_ask 37 = .ok (.getfield 39, 3) := by decide +kernel
theorem dX12_ask_40 : decode cX12_ask 40 = .ok (.ifCond .le 5, 3) := by decide +kernel
theorem dX12_ask_43 : decode cX12_ask 43 = .ok (.iconst 0, 1) := by decide +kernel
theorem dX12_ask_44 : decode cX12_ask 44 = .ok (.ireturn, 1) := by decide +kernel
theorem dX12_ask_45 : decode cX12_ask 45 = .ok (.aload_n 0, 1) := by decide +kernel
theorem dX12_ask_46 : decode cX12_ask 46 = .ok (.invokevirtual 79, 3) := by decide +kernel
theorem dX12_ask_49 : decode cX12_ask 49 = .ok (.aload_n 0, 1) := by decide +kernel
theorem dX12_ask_50 : decode cX12_ask 50 = .ok (.iload_n 1, 1) := by decide +kernel
theorem dX12_ask_51 : decode cX12_ask 51 = .ok (.iload_n 2, 1) := by decide +kernel
theorem dX12_ask_52 : decode cX12_ask 52 = .ok (.iload_n 3, 1) := by decide +kernel
theorem dX12_ask_53 : decode cX12_ask 53 = .ok (.invokevirtual 150, 3) := by decide +kernel
theorem dX12_ask_56 : decode cX12_ask 56 = .ok (.istore 4, 2) := by decide +kernel
theorem dX12_ask_58 : decode cX12_ask 58 = .ok (.sipush 761, 3) := by decide +kernel
theorem dX12_ask_61 : decode cX12_ask 61 = .ok (.istore 5, 2) := by decide +kernel
theorem dX12_ask_63 : decode cX12_ask 63 = .ok (.iload 5, 2) := by decide +kernel
theorem dX12_ask_65 : decode cX12_ask 65 = .ok (.sipush 741, 3) := by decide +kernel
theorem dX12_ask_68 : decode cX12_ask 68 = .ok (.if_icmp .lt 25, 3) := by decide +kernel
theorem dX12_ask_71 : decode cX12_ask 71 = .ok (.aload_n 0, 1) := by decide +kernel
theorem dX12_ask_72 : decode cX12_ask 72 = .ok (.getfield 7, 3) := by decide +kernel
theorem dX12_ask_75 : decode cX12_ask 75 = .ok (.iload 5, 2) := by decide +kernel
theorem dX12_ask_77 : decode cX12_ask 77 = .ok (.aload_n 0, 1) := by decide +kernel
theorem dX12_ask_78 : decode cX12_ask 78 = .ok (.getfield 7, 3) := by decide +kernel
theorem dX12_ask_81 : decode cX12_ask 81 = .ok (.iload 5, 2) := by decide +kernel
theorem dX12_ask_83 : decode cX12_ask 83 = .ok (.iconst 3, 1) := by decide +kernel
theorem dX12_ask_84 : decode cX12_ask 84 = .ok (.isub, 1) := by decide +kernel
theorem dX12_ask_85 : decode cX12_ask 85 = .ok (.iaload, 1) := by decide +kernel
theorem dX12_ask_86 : decode cX12_ask 86 = .ok (.iastore, 1) := by decide +kernel
theorem dX12_ask_87 : decode cX12_ask 87 = .ok (.iinc 5 (-1), 3) := by decide +kernel
theorem dX12_ask_90 : decode cX12_ask 90 = .ok (.goto (-27), 3) := by decide +kernel
theorem dX12_ask_93 : decode cX12_ask 93 = .ok (.aload_n 0, 1) := by decide +kernel
theorem dX12_ask_94 : decode cX12_ask 94 = .ok (.getfield 7, 3) := by decide +kernel
theorem dX12_ask_97 : decode cX12_ask 97 = .ok (.sipush 738, 3) := by decide +kernel
theorem dX12_ask_100 : decode cX12_ask 100 = .ok (.iload_n 1, 1) := by decide +kernel
theorem dX12_ask_101 : decode cX12_ask 101 = .ok (.iastore, 1) := by decide +kernel
theorem dX12_ask_102 : decode cX12_ask 102 = .ok (.aload_n 0, 1) := by decide +kernel
theorem dX12_ask_103 : decode cX12_ask 103 = .ok (.getfield 7, 3) := by decide +kernel
theorem dX12_ask_106 : decode cX12_ask 106 = .ok (.sipush 739, 3) := by decide +kernel
theorem dX12_ask_109 : decode cX12_ask 109 = .ok (.iload_n 2, 1) := by decide +kernel
theorem dX12_ask_110 : decode cX12_ask 110 = .ok (.iastore, 1) := by decide +kernel
theorem dX12_ask_111 : decode cX12_ask 111 = .ok (.aload_n 0, 1) := by decide +kernel
theorem dX12_ask_112 : decode cX12_ask 112 = .ok (.getfield 7, 3) := by decide +kernel
theorem dX12_ask_115 : decode cX12_ask 115 = .ok (.sipush 740, 3) := by decide +kernel
theorem dX12_ask_118 : decode cX12_ask 118 = .ok (.iload 4, 2) := by decide +kernel
theorem dX12_ask_120 : decode cX12_ask 120 = .ok (.ifCond .eq 7, 3) := by decide +kernel
theorem dX12_ask_123 : decode cX12_ask 123 = .ok (.iconst 1, 1) := by decide +kernel
theorem dX12_ask_124 : decode cX12_ask 124 = .ok (.goto 4, 3) := by decide +kernel
theorem dX12_ask_127 : decode cX12_ask 127 = .ok (.iconst 0, 1) := by decide +kernel
theorem dX12_ask_128 : decode cX12_ask 128 = .ok (.iastore, 1) := by decide +kernel
theorem dX12_ask_129 : decode cX12_ask 129 = .ok (.aload_n 0, 1) := by decide +kernel
theorem dX12_ask_130 : decode cX12_ask 130 = .ok (.getfield 7, 3) := by decide +kernel
theorem dX12_ask_133 : decode cX12_ask 133 = .ok (.sipush 762, 3) := by decide +kernel
theorem dX12_ask_136 : decode cX12_ask 136 = .ok (.dup2, 1) := by decide +kernel
theorem dX12_ask_137 : decode cX12_ask 137 = .ok (.iaload, 1) := by decide +kernel
theorem dX12_ask_138 : decode cX12_ask 138 = .ok (.aload_n 0, 1) := by decide +kernel
theorem dX12_ask_139 : decode cX12_ask 139 = .ok (.getfield 7, 3) := by decide +kernel
theorem dX12_ask_142 : decode cX12_ask 142 = .ok (.sipush 762, 3) := by decide +kernel
theorem dX12_ask_145 : decode cX12_ask 145 = .ok (.iaload, 1) := by decide +kernel
theorem dX12_ask_146 : decode cX12_ask 146 = .ok (.bipush 8, 2) := by decide +kernel
theorem dX12_ask_148 : decode cX12_ask 148 = .ok (.if_icmp .ge 7, 3) := by decide +kernel
theorem dX12_ask_151 : decode cX12_ask 151 = .ok (.iconst 1, 1) := by decide +kernel
theorem dX12_ask_152 : decode cX12_ask 152 = .ok (.goto 4, 3) := by decide +kernel
theorem dX12_ask_155 : decode cX12_ask 155 = .ok (.iconst 0, 1) := by decide +kernel
theorem dX12_ask_156 : decode cX12_ask 156 = .ok (.iadd, 1) := by decide +kernel
theorem dX12_ask_157 : decode cX12_ask 157 = .ok (.iastore, 1) := by decide +kernel
theorem dX12_ask_158 : decode cX12_ask 158 = .ok (.aload_n 0, 1) := by decide +kernel
theorem dX12_ask_159 : decode cX12_ask 159 = .ok (.getfield 7, 3) := by decide +kernel
theorem dX12_ask_162 : decode cX12_ask 162 = .ok (.sipush 763, 3) := by decide +kernel
theorem dX12_ask_165 : decode cX12_ask 165 = .ok (.dup2, 1) := by decide +kernel
theorem dX12_ask_166 : decode cX12_ask 166 = .ok (.iaload, 1) := by decide +kernel
theorem dX12_ask_167 : decode cX12_ask 167 = .ok (.iconst 1, 1) := by decide +kernel
theorem dX12_ask_168 : decode cX12_ask 168 = .ok (.iadd, 1) := by decide +kernel
theorem dX12_ask_169 : decode cX12_ask 169 = .ok (.iastore, 1) := by decide +kernel
theorem dX12_ask_170 : decode cX12_ask 170 = .ok (.aload_n 0, 1) := by decide +kernel
theorem dX12_ask_171 : decode cX12_ask 171 = .ok (.getfield 7, 3) := by decide +kernel
theorem dX12_ask_174 : decode cX12_ask 174 = .ok (.sipush 764, 3) := by decide +kernel
theorem dX12_ask_177 : decode cX12_ask 177 = .ok (.dup2, 1) := by decide +kernel
theorem dX12_ask_178 : decode cX12_ask 178 = .ok (.iaload, 1) := by decide +kernel
theorem dX12_ask_179 : decode cX12_ask 179 = .ok (.iload 4, 2) := by decide +kernel
theorem dX12_ask_181 : decode cX12_ask 181 = .ok (.ifCond .eq 7, 3) := by decide +kernel
theorem dX12_ask_184 : decode cX12_ask 184 = .ok (.iconst 0, 1) := by decide +kernel
theorem dX12_ask_185 : decode cX12_ask 185 = .ok (.goto 4, 3) := by decide +kernel
theorem dX12_ask_188 : decode cX12_ask 188 = .ok (.iconst 1, 1) := by decide +kernel
theorem dX12_ask_189 : decode cX12_ask 189 = .ok (.iadd, 1) := by decide +kernel
theorem dX12_ask_190 : decode cX12_ask 190 = .ok (.iastore, 1) := by decide +kernel
theorem dX12_ask_191 : decode cX12_ask 191 = .ok (.iload 4, 2) := by decide +kernel
theorem dX12_ask_193 : decode cX12_ask 193 = .ok (.ireturn, 1) := by decide +kernel
theorem dX12_share_0 : decode cX12_share 0 = .ok (.aload_n 0, 1) := by decide +kernel
theorem dX12_share_1 : decode cX12_share 1 = .ok (.iconst 0, 1) := by decide +kernel
theorem dX12_share_2 : decode cX12_share 2 = .ok (.putfield 39, 3) := by decide +kernel
theorem dX12_share_5 : decode cX12_share 5 = .ok (.aload_n 0, 1) := by decide +kernel
theorem dX12_share_6 : decode cX12_share 6 = .ok (.iload_n 1, 1) := by decide +kernel
theorem dX12_share_7 : decode cX12_share 7 = .ok (.invokevirtual 82, 3) := by decide +kernel
theorem dX12_share_10 : decode cX12_share 10 = .ok (.ifCond .eq 19, 3) := by decide +kernel
theorem dX12_share_13 : decode cX12_share 13 = .ok (.aload_n 0, 1) := by decide +kernel
theorem dX12_share_14 : decode cX12_share 14 = .ok (.iload_n 2, 1) := by decide +kernel
theorem dX12_share_15 : decode cX12_share 15 = .ok (.invokevirtual 57, 3) := by decide +kernel
theorem dX12_share_18 : decode cX12_share 18 = .ok (.ifCond .eq 11, 3) := by decide +kernel
theorem dX12_share_21 : decode cX12_share 21 = .ok (.aload_n 0, 1) := by decide +kernel
theorem dX12_share_22 : decode cX12_share 22 = .ok (.iload_n 3, 1) := by decide +kernel
theorem dX12_share_23 : decode cX12_share 23 = .ok (.invokevirtual 82, 3) := by decide +kernel
theorem dX12_share_26 : decode cX12_share 26 = .ok (.ifCond .ne 9, 3) := by decide +kernel
theorem dX12_share_29 : decode cX12_share 29 = .ok (.aload_n 0, 1) := by decide +kernel
theorem dX12_share_30 : decode cX12_share 30 = .ok (.iconst 1, 1) := by decide +kernel
theorem dX12_share_31 : decode cX12_share 31 = .ok (.invokevirtual 76, 3) := by decide +kernel
theorem dX12_share_34 : decode cX12_share 34 = .ok (.ireturn, 1) := by decide +kernel
theorem dX12_share_35 : decode cX12_share 35 = .ok (.iload 4, 2) := by decide +kernel
theorem dX12_share_37 : decode cX12_share 37 = .ok (.invokestatic 101, 3) := by decide +kernel
theorem dX12_share_40 : decode cX12_share 40 = .ok (.ifCond .ne 9, 3) := by decide +kernel
theorem dX12_share_43 : decode cX12_share 43 = .ok (.aload_n 0, 1) := by decide +kernel
theorem dX12_share_44 : decode cX12_share 44 = .ok (.iconst 2, 1) := by decide +kernel
theorem dX12_share_45 : decode cX12_share 45 = .ok (.invokevirtual 76, 3) := by decide +kernel
theorem dX12_share_48 : decode cX12_share 48 = .ok (.ireturn, 1) := by decide +kernel
theorem dX12_share_49 : decode cX12_share 49 = .ok (.aload_n 0, 1) := by decide +kernel
theorem dX12_share_50 : decode cX12_share 50 = .ok (.iload_n 1, 1) := by decide +kernel
theorem dX12_share_51 : decode cX12_share 51 = .ok (.iload_n 2, 1) := by decide +kernel
theorem dX12_share_52 : decode cX12_share 52 = .ok (.invokevirtual 119, 3) := by decide +kernel
theorem dX12_share_55 : decode cX12_share 55 = .ok (.istore 5, 2) := by decide +kernel
theorem dX12_share_57 : decode cX12_share 57 = .ok (.iload 4, 2) := by decide +kernel
theorem dX12_share_59 : decode cX12_share 59 = .ok (.bipush 8, 2) := by decide +kernel
theorem dX12_share_61 : decode cX12_share 61 = .ok (.ior, 1) := by decide +kernel
theorem dX12_share_62 : decode cX12_share 62 = .ok (.istore 6, 2) := by decide +kernel
theorem dX12_share_64 : decode cX12_share 64 = .ok (.iload 5, 2) := by decide +kernel
theorem dX12_share_66 : decode cX12_share 66 = .ok (.iload 6, 2) := by decide +kernel
theorem dX12_share_68 : decode cX12_share 68 = .ok (.iand, 1) := by decide +kernel
theorem dX12_share_69 : decode cX12_share 69 = .ok (.iload 6, 2) := by decide +kernel
theorem dX12_share_71 : decode cX12_share 71 = .ok (.if_icmp .ne 14, 3) := by decide +kernel
theorem dX12_share_74 : decode cX12_share 74 = .ok (.aload_n 0, 1) := by decide +kernel
theorem dX12_share_75 : decode cX12_share 75 = .ok (.iload_n 2, 1) := by decide +kernel
theorem dX12_share_76 : decode cX12_share 76 = .ok (.iconst 5, 1) := by decide +kernel
theorem dX12_share_77 : decode cX12_share 77 = .ok (.invokevirtual 54, 3) := by decide +kernel
theorem dX12_share_80 : decode cX12_share 80 = .ok (.bipush 6, 2) := by decide +kernel
theorem dX12_share_82 : decode cX12_share 82 = .ok (.if_icmp .ne 9, 3) := by decide +kernel
theorem dX12_share_85 : decode cX12_share 85 = .ok (.aload_n 0, 1) := by decide +kernel
theorem dX12_share_86 : decode cX12_share 86 = .ok (.iconst 3, 1) := by decide +kernel
theorem dX12_share_87 : decode cX12_share 87 = .ok (.invokevirtual 76, 3) := by decide +kernel
theorem dX12_share_90 : decode cX12_share 90 = .ok (.ireturn, 1) := by decide +kernel
theorem dX12_share_91 : decode cX12_share 91 = .ok (.aload_n 0, 1) := by decide +kernel
theorem dX12_share_92 : decode cX12_share 92 = .ok (.invokevirtual 79, 3) := by decide +kernel
theorem dX12_share_95 : decode cX12_share 95 = .ok (.aload_n 0, 1) := by decide +kernel
theorem dX12_share_96 : decode cX12_share 96 = .ok (.iload_n 2, 1) := by decide +kernel
theorem dX12_share_97 : decode cX12_share 97 = .ok (.iconst 0, 1) := by decide +kernel
theorem dX12_share_98 : decode cX12_share 98 = .ok (.invokevirtual 125, 3) := by decide +kernel
theorem dX12_share_101 : decode cX12_share 101 = .ok (.aload_n 0, 1) := by decide +kernel
theorem dX12_share_102 : decode cX12_share 102 = .ok (.iload_n 2, 1) := by decide +kernel
theorem dX12_share_103 : decode cX12_share 103 = .ok (.iconst 0, 1) := by decide +kernel
theorem dX12_share_104 : decode cX12_share 104 = .ok (.iconst 0, 1) := by decide +kernel
theorem dX12_share_105 : decode cX12_share 105 = .ok (.iload_n 3, 1) := by decide +kernel
theorem dX12_share_106 : decode cX12_share 106 = .ok (.iload 4, 2) := by decide +kernel
theorem dX12_share_108 : decode cX12_share 108 = .ok (.iconst 1, 1) := by decide +kernel
theorem dX12_share_109 : decode cX12_share 109 = .ok (.iconst 0, 1) := by decide +kernel
theorem dX12_share_110 : decode cX12_share 110 = .ok (.invokevirtual 104, 3) := by decide +kernel
theorem dX12_share_113 : decode cX12_share 113 = .ok (.aload_n 0, 1) := by decide +kernel
theorem dX12_share_114 : decode cX12_share 114 = .ok (.iload_n 3, 1) := by decide +kernel
theorem dX12_share_115 : decode cX12_share 115 = .ok (.iload_n 2, 1) := by decide +kernel
theorem dX12_share_116 : decode cX12_share 116 = .ok (.invokevirtual 119, 3) := by decide +kernel
theorem dX12_share_119 : decode cX12_share 119 = .ok (.ireturn, 1) := by decide +kernel
theorem dX12_append_0 : decode cX12_append 0 = .ok (.aload_n 0, 1) := by decide +kernel
theorem dX12_append_1 : decode cX12_append 1 = .ok (.iconst 0, 1) := by decide +kernel
theorem dX12_append_2 : decode cX12_append 2 = .ok (.putfield 39, 3) := by decide +kernel
theorem dX12_append_5 : decode cX12_append 5 = .ok (.iload_n 1, 1) := by decide +kernel
theorem dX12_append_6 : decode cX12_append 6 = .ok (.bipush 33, 2) := by decide +kernel
theorem dX12_append_8 : decode cX12_append 8 = .ok (.bipush 126, 2) := by decide +kernel
theorem dX12_append_10 : decode cX12_append 10 = .ok (.invokestatic 46, 3) := by decide +kernel
theorem dX12_append_13 : decode cX12_append 13 = .ok (.ifCond .ne 9, 3) := by decide +kernel
theorem dX12_append_16 : decode cX12_append 16 = .ok (.aload_n 0, 1) := by decide +kernel
theorem dX12_append_17 : decode cX12_append 17 = .ok (.iconst 1, 1) := by decide +kernel
theorem dX12_append_18 : decode cX12_append 18 = .ok (.invokevirtual 76, 3) := by decide +kernel
theorem dX12_append_21 : decode cX12_append 21 = .ok (.ireturn, 1) := by decide +kernel
theorem dX12_append_22 : decode cX12_append 22 = .ok (.aload_n 0, 1) := by decide +kernel
theorem dX12_append_23 : decode cX12_append 23 = .ok (.getfield 159, 3) := by decide +kernel
theorem dX12_append_26 : decode cX12_append 26 = .ok (.bipush 80, 2) := by decide +kernel
theorem dX12_append_28 : decode cX12_append 28 = .ok (.if_icmp .ne 9, 3) := by decide +kernel
theorem dX12_append_31 : decode cX12_append 31 = .ok (.aload_n 0, 1) := by decide +kernel
theorem dX12_append_32 : decode cX12_append 32 = .ok (.iconst 2, 1) := by decide +kernel
theorem dX12_append_33 : decode cX12_append 33 = .ok (.invokevirtual 76, 3) := by decide +kernel
theorem dX12_append_36 : decode cX12_append 36 = .ok (.ireturn, 1) := by decide +kernel
theorem dX12_append_37 : decode cX12_append 37 = .ok (.aload_n 0, 1) := by decide +kernel
theorem dX12_append_38 : decode cX12_append 38 = .ok (.getfield 23, 3) := by decide +kernel
theorem dX12_append_41 : decode cX12_append 41 = .ok (.aload_n 0, 1) := by decide +kernel
theorem dX12_append_42 : decode cX12_append 42 = .ok (.getfield 159, 3) := by decide +kernel
theorem dX12_append_45 : decode cX12_append 45 = .ok (.iload_n 1, 1) := by decide +kernel
theorem dX12_append_46 : decode cX12_append 46 = .ok (.iastore, 1) := by decide +kernel
theorem dX12_append_47 : decode cX12_append 47 = .ok (.aload_n 0, 1) := by decide +kernel
theorem dX12_append_48 : decode cX12_append 48 = .ok (.dup, 1) := by decide +kernel
theorem dX12_append_49 : decode cX12_append 49 = .ok (.getfield 159, 3) := by decide +kernel
theorem dX12_append_52 : decode cX12_append 52 = .ok (.iconst 1, 1) := by decide +kernel
theorem dX12_append_53 : decode cX12_append 53 = .ok (.iadd, 1) := by decide +kernel
theorem dX12_append_54 : decode cX12_append 54 = .ok (.putfield 159, 3) := by decide +kernel
theorem dX12_append_57 : decode cX12_append 57 = .ok (.aload_n 0, 1) := by decide +kernel
theorem dX12_append_58 : decode cX12_append 58 = .ok (.getfield 159, 3) := by decide +kernel
theorem dX12_append_61 : decode cX12_append 61 = .ok (.ireturn, 1) := by decide +kernel
theorem dX12_clear_0 : decode cX12_clear 0 = .ok (.aload_n 0, 1) := by decide +kernel
theorem dX12_clear_1 : decode cX12_clear 1 = .ok (.iconst 0, 1) := by decide +kernel
theorem dX12_clear_2 : decode cX12_clear 2 = .ok (.putfield 39, 3) := by decide +kernel
theorem dX12_clear_5 : decode cX12_clear 5 = .ok (.aload_n 0, 1) := by decide +kernel
theorem dX12_clear_6 : decode cX12_clear 6 = .ok (.getfield 159, 3) := by decide +kernel
theorem dX12_clear_9 : decode cX12_clear 9 = .ok (.istore_n 1, 1) := by decide +kernel
theorem dX12_clear_10 : decode cX12_clear 10 = .ok (.aload_n 0, 1) := by decide +kernel
theorem dX12_clear_11 : decode cX12_clear 11 = .ok (.iconst 0, 1) := by decide +kernel
theorem dX12_clear_12 : decode cX12_clear 12 = .ok (.putfield 159, 3) := by decide +kernel
theorem dX12_clear_15 : decode cX12_clear 15 = .ok (.iload_n 1, 1) := by decide +kernel
theorem dX12_clear_16 : decode cX12_clear 16 = .ok (.ireturn, 1) := by decide +kernel
theorem dX12_sees_0 : decode cX12_sees 0 = .ok (.aload_n 0, 1) := by decide +kernel
theorem dX12_sees_1 : decode cX12_sees 1 = .ok (.getfield 162, 3) := by decide +kernel
theorem dX12_sees_4 : decode cX12_sees 4 = .ok (.aload_n 0, 1) := by decide +kernel
theorem dX12_sees_5 : decode cX12_sees 5 = .ok (.getfield 159, 3) := by decide +kernel
theorem dX12_sees_8 : decode cX12_sees 8 = .ok (.if_icmp .ge 24, 3) := by decide +kernel
theorem dX12_sees_11 : decode cX12_sees 11 = .ok (.aload_n 0, 1) := by decide +kernel
theorem dX12_sees_12 : decode cX12_sees 12 = .ok (.getfield 23, 3) := by decide +kernel
theorem dX12_sees_15 : decode cX12_sees 15 = .ok (.aload_n 0, 1) := by decide +kernel
theorem dX12_sees_16 : decode cX12_sees 16 = .ok (.getfield 162, 3) := by decide +kernel
theorem dX12_sees_19 : decode cX12_sees 19 = .ok (.iaload, 1) := by decide +kernel
theorem dX12_sees_20 : decode cX12_sees 20 = .ok (.iload_n 1, 1) := by decide +kernel
theorem dX12_sees_21 : decode cX12_sees 21 = .ok (.iload_n 2, 1) := by decide +kernel
theorem dX12_sees_22 : decode cX12_sees 22 = .ok (.invokestatic 46, 3) := by decide +kernel
theorem dX12_sees_25 : decode cX12_sees 25 = .ok (.ifCond .eq 7, 3) := by decide +kernel
theorem dX12_sees_28 : decode cX12_sees 28 = .ok (.iconst 1, 1) := by decide +kernel
theorem dX12_sees_29 : decode cX12_sees 29 = .ok (.goto 4, 3) := by decide +kernel
theorem dX12_sees_32 : decode cX12_sees 32 = .ok (.iconst 0, 1) := by decide +kernel
theorem dX12_sees_33 : decode cX12_sees 33 = .ok (.ireturn, 1) := by decide +kernel
theorem dX12_sign_0 : decode cX12_sign 0 = .ok (.aload_n 0, 1) := by decide +kernel
theorem dX12_sign_1 : decode cX12_sign 1 = .ok (.iload_n 1, 1) := by decide +kernel
theorem dX12_sign_2 : decode cX12_sign 2 = .ok (.iload_n 1, 1) := by decide +kernel
theorem dX12_sign_3 : decode cX12_sign 3 = .ok (.invokevirtual 165, 3) := by decide +kernel
theorem dX12_sign_6 : decode cX12_sign 6 = .ok (.istore_n 2, 1) := by decide +kernel
theorem dX12_sign_7 : decode cX12_sign 7 = .ok (.aload_n 0, 1) := by decide +kernel
theorem dX12_sign_8 : decode cX12_sign 8 = .ok (.dup, 1) := by decide +kernel
theorem dX12_sign_9 : decode cX12_sign 9 = .ok (.getfield 162, 3) := by decide +kernel
theorem dX12_sign_12 : decode cX12_sign 12 = .ok (.iload_n 2, 1) := by decide +kernel
theorem dX12_sign_13 : decode cX12_sign 13 = .ok (.ifCond .eq 7, 3) := by decide +kernel
theorem dX12_sign_16 : decode cX12_sign 16 = .ok (.iconst 1, 1) := by decide +kernel
theorem dX12_sign_17 : decode cX12_sign 17 = .ok (.goto 4, 3) := by decide +kernel
theorem dX12_sign_20 : decode cX12_sign 20 = .ok (.iconst 0, 1) := by decide +kernel
theorem dX12_sign_21 : decode cX12_sign 21 = .ok (.iadd, 1) := by decide +kernel
theorem dX12_sign_22 : decode cX12_sign 22 = .ok (.putfield 162, 3) := by decide +kernel
theorem dX12_sign_25 : decode cX12_sign 25 = .ok (.iload_n 2, 1) := by decide +kernel
theorem dX12_sign_26 : decode cX12_sign 26 = .ok (.ireturn, 1) := by decide +kernel
theorem dX12_number_0 : decode cX12_number 0 = .ok (.aload_n 0, 1) := by decide +kernel
theorem dX12_number_1 : decode cX12_number 1 = .ok (.bipush 48, 2) := by decide +kernel
theorem dX12_number_3 : decode cX12_number 3 = .ok (.bipush 48, 2) := by decide +kernel
theorem dX12_number_5 : decode cX12_number 5 = .ok (.iload_n 1, 1) := by decide +kernel
theorem dX12_number_6 : decode cX12_number 6 = .ok (.bipush 9, 2) := by decide +kernel
theorem dX12_number_8 : decode cX12_number 8 = .ok (.if_icmp .ge 7, 3) := by decide +kernel
theorem dX12_number_11 : decode cX12_number 11 = .ok (.iload_n 1, 1) := by decide +kernel
theorem dX12_number_12 : decode cX12_number 12 = .ok (.goto 5, 3) := by decide +kernel
theorem dX12_number_15 : decode cX12_number 15 = .ok (.bipush 9, 2) := by decide +kernel
theorem dX12_number_17 : decode cX12_number 17 = .ok (.iadd, 1) := by decide +kernel
theorem dX12_number_18 : decode cX12_number 18 = .ok (.invokevirtual 165, 3) := by decide +kernel
theorem dX12_number_21 : decode cX12_number 21 = .ok (.ifCond .ne 5, 3) := by decide +kernel
theorem dX12_number_24 : decode cX12_number 24 = .ok (.iconst 0, 1) := by decide +kernel
theorem dX12_number_25 : decode cX12_number 25 = .ok (.ireturn, 1) := by decide +kernel
theorem dX12_number_26 : decode cX12_number 26 = .ok (.aload_n 0, 1) := by decide +kernel
theorem dX12_number_27 : decode cX12_number 27 = .ok (.aload_n 0, 1) := by decide +kernel
theorem dX12_number_28 : decode cX12_number 28 = .ok (.getfield 23, 3) := by decide +kernel
theorem dX12_number_31 : decode cX12_number 31 = .ok (.aload_n 0, 1) := by decide +kernel
theorem dX12_number_32 : decode cX12_number 32 = .ok (.getfield 162, 3) := by decide +kernel
theorem dX12_number_35 : decode cX12_number 35 = .ok (.iaload, 1) := by decide +kernel
theorem dX12_number_36 : decode cX12_number 36 = .ok (.bipush 48, 2) := by decide +kernel
theorem dX12_number_38 : decode cX12_number 38 = .ok (.isub, 1) := by decide +kernel
theorem dX12_number_39 : decode cX12_number 39 = .ok (.putfield 168, 3) := by decide +kernel
theorem dX12_number_42 : decode cX12_number 42 = .ok (.aload_n 0, 1) := by decide +kernel
theorem dX12_number_43 : decode cX12_number 43 = .ok (.dup, 1) := by decide +kernel
theorem dX12_number_44 : decode cX12_number 44 = .ok (.getfield 162, 3) := by decide +kernel
theorem dX12_number_47 : decode cX12_number 47 = .ok (.iconst 1, 1) := by decide +kernel
theorem dX12_number_48 : decode cX12_number 48 = .ok (.iadd, 1) := by decide +kernel
theorem dX12_number_49 : decode cX12_number 49 = .ok (.putfield 162, 3) := by decide +kernel
theorem dX12_number_52 : decode cX12_number 52 = .ok (.aload_n 0, 1) := by decide +kernel
theorem dX12_number_53 : decode cX12_number 53 = .ok (.getfield 168, 3) := by decide +kernel
theorem dX12_number_56 : decode cX12_number 56 = .ok (.iconst 1, 1) := by decide +kernel
theorem dX12_number_57 : decode cX12_number 57 = .ok (.if_icmp .ne 54, 3) := by decide +kernel
theorem dX12_number_60 : decode cX12_number 60 = .ok (.iload_n 1, 1) := by decide +kernel
theorem dX12_number_61 : decode cX12_number 61 = .ok (.bipush 9, 2) := by decide +kernel
theorem dX12_number_63 : decode cX12_number 63 = .ok (.if_icmp .le 48, 3) := by decide +kernel
theorem dX12_number_66 : decode cX12_number 66 = .ok (.aload_n 0, 1) := by decide +kernel
theorem dX12_number_67 : decode cX12_number 67 = .ok (.bipush 48, 2) := by decide +kernel
theorem dX12_number_69 : decode cX12_number 69 = .ok (.bipush 48, 2) := by decide +kernel
theorem dX12_number_71 : decode cX12_number 71 = .ok (.iload_n 1, 1) := by decide +kernel
theorem dX12_number_72 : decode cX12_number 72 = .ok (.iadd, 1) := by decide +kernel
theorem dX12_number_73 : decode cX12_number 73 = .ok (.bipush 10, 2) := by decide +kernel
theorem dX12_number_75 : decode cX12_number 75 = .ok (.isub, 1) := by decide +kernel
theorem dX12_number_76 : decode cX12_number 76 = .ok (.invokevirtual 165, 3) := by decide +kernel
theorem dX12_number_79 : decode cX12_number 79 = .ok (.ifCond .eq 32, 3) := by decide +kernel
theorem dX12_number_82 : decode cX12_number 82 = .ok (.aload_n 0, 1) := by decide +kernel
theorem dX12_number_83 : decode cX12_number 83 = .ok (.bipush 10, 2) := by decide +kernel
theorem dX12_number_85 : decode cX12_number 85 = .ok (.aload_n 0, 1) := by decide +kernel
theorem dX12_number_86 : decode cX12_number 86 = .ok (.getfield 23, 3) := by decide +kernel
theorem dX12_number_89 : decode cX12_number 89 = .ok (.aload_n 0, 1) := by decide +kernel
theorem dX12_number_90 : decode cX12_number 90 = .ok (.getfield 162, 3) := by decide +kernel
theorem dX12_number_93 : decode cX12_number 93 = .ok (.iaload, 1) := by decide +kernel
theorem dX12_number_94 : decode cX12_number 94 = .ok (.iadd, 1) := by decide +kernel
theorem dX12_number_95 : decode cX12_number 95 = .ok (.bipush 48, 2) := by decide +kernel
theorem dX12_number_97 : decode cX12_number 97 = .ok (.isub, 1) := by decide +kernel
theorem dX12_number_98 : decode cX12_number 98 = .ok (.putfield 168, 3) := by decide +kernel
theorem dX12_number_101 : decode cX12_number 101 = .ok (.aload_n 0, 1) := by decide +kernel
theorem dX12_number_102 : decode cX12_number 102 = .ok (.dup, 1) := by decide +kernel
theorem dX12_number_103 : decode cX12_number 103 = .ok (.getfield 162, 3) := by decide +kernel
theorem dX12_number_106 : decode cX12_number 106 = .ok (.iconst 1, 1) := by decide +kernel
theorem dX12_number_107 : decode cX12_number 107 = .ok (.iadd, 1) := by decide +kernel
theorem dX12_number_108 : decode cX12_number 108 = .ok (.putfield 162, 3) := by decide +kernel
theorem dX12_number_111 : decode cX12_number 111 = .ok (.iconst 1, 1) := by decide +kernel
theorem dX12_number_112 : decode cX12_number 112 = .ok (.ireturn, 1) := by decide +kernel
theorem dX12_whomRead_0 : decode cX12_whomRead 0 = .ok (.iconst 5, 1) := by decide +kernel
theorem dX12_whomRead_1 : decode cX12_whomRead 1 = .ok (.aload_n 0, 1) := by decide +kernel
theorem dX12_whomRead_2 : decode cX12_whomRead 2 = .ok (.getfield 171, 3) := by decide +kernel
theorem dX12_whomRead_5 : decode cX12_whomRead 5 = .ok (.imul, 1) := by decide +kernel
theorem dX12_whomRead_6 : decode cX12_whomRead 6 = .ok (.istore_n 1, 1) := by decide +kernel
theorem dX12_whomRead_7 : decode cX12_whomRead 7 = .ok (.aload_n 0, 1) := by decide +kernel
theorem dX12_whomRead_8 : decode cX12_whomRead 8 = .ok (.getfield 32, 3) := by decide +kernel
theorem dX12_whomRead_11 : decode cX12_whomRead 11 = .ok (.iload_n 1, 1) := by decide +kernel
theorem dX12_whomRead_12 : decode cX12_whomRead 12 = .ok (.iconst 1, 1) := by decide +kernel
theorem dX12_whomRead_13 : decode cX12_whomRead 13 = .ok (.iadd, 1) := by decide +kernel
theorem dX12_whomRead_14 : decode cX12_whomRead 14 = .ok (.iconst 0, 1) := by decide +kernel
theorem dX12_whomRead_15 : decode cX12_whomRead 15 = .ok (.iastore, 1) := by decide +kernel
theorem dX12_whomRead_16 : decode cX12_whomRead 16 = .ok (.aload_n 0, 1) := by decide +kernel
theorem dX12_whomRead_17 : decode cX12_whomRead 17 = .ok (.bipush 117, 2) := by decide +kernel
theorem dX12_whomRead_19 : decode cX12_whomRead 19 = .ok (.invokevirtual 174, 3) := by decide +kernel
theorem dX12_whomRead_22 : decode cX12_whomRead 22 = .ok (.ifCond .eq 33, 3) := by decide +kernel
theorem dX12_whomRead_25 : decode cX12_whomRead 25 = .ok (.aload_n 0, 1) := by decide +kernel
theorem dX12_whomRead_26 : decode cX12_whomRead 26 = .ok (.bipush 11, 2) := by decide +kernel
theorem dX12_whomRead_28 : decode cX12_whomRead 28 = .ok (.invokevirtual 177, 3) := by decide +kernel
theorem dX12_whomRead_31 : decode cX12_whomRead 31 = .ok (.istore_n 2, 1) := by decide +kernel
theorem dX12_whomRead_32 : decode cX12_whomRead 32 = .ok (.aload_n 0, 1) := by decide +kernel
theorem dX12_whomRead_33 : decode cX12_whomRead 33 = .ok (.getfield 32, 3) := by decide +kernel
theorem dX12_whomRead_36 : decode cX12_whomRead 36 = .ok (.iload_n 1, 1) := by decide +kernel
theorem dX12_whomRead_37 : decode cX12_whomRead 37 = .ok (.iconst 0, 1) := by decide +kernel
theorem dX12_whomRead_38 : decode cX12_whomRead 38 = .ok (.iadd, 1) := by decide +kernel
theorem dX12_whomRead_39 : decode cX12_whomRead 39 = .ok (.iconst 0, 1) := by decide +kernel
theorem dX12_whomRead_40 : decode cX12_whomRead 40 = .ok (.iastore, 1) := by decide +kernel
theorem dX12_whomRead_41 : decode cX12_whomRead 41 = .ok (.aload_n 0, 1) := by decide +kernel
theorem dX12_whomRead_42 : decode cX12_whomRead 42 = .ok (.getfield 32, 3) := by decide +kernel
theorem dX12_whomRead_45 : decode cX12_whomRead 45 = .ok (.iload_n 1, 1) := by decide +kernel
theorem dX12_whomRead_46 : decode cX12_whomRead 46 = .ok (.iconst 1, 1) := by decide +kernel
theorem dX12_whomRead_47 : decode cX12_whomRead 47 = .ok (.iadd, 1) := by decide +kernel
theorem dX12_whomRead_48 : decode cX12_whomRead 48 = .ok (.aload_n 0, 1) := by decide +kernel
theorem dX12_whomRead_49 : decode cX12_whomRead 49 = .ok (.getfield 168, 3) := by decide +kernel
theorem dX12_whomRead_52 : decode cX12_whomRead 52 = .ok (.iastore, 1) := by decide +kernel
theorem dX12_whomRead_53 : decode cX12_whomRead 53 = .ok (.iload_n 2, 1) := by decide +kernel
theorem dX12_whomRead_54 : decode cX12_whomRead 54 = .ok (.ireturn, 1) := by decide +kernel
theorem dX12_whomRead_55 : decode cX12_whomRead 55 = .ok (.aload_n 0, 1) := by decide +kernel
theorem dX12_whomRead_56 : decode cX12_whomRead 56 = .ok (.bipush 103, 2) := by decide +kernel
theorem dX12_whomRead_58 : decode cX12_whomRead 58 = .ok (.invokevirtual 174, 3) := by decide +kernel
theorem dX12_whomRead_61 : decode cX12_whomRead 61 = .ok (.ifCond .eq 33, 3) := by decide +kernel
theorem dX12_whomRead_64 : decode cX12_whomRead 64 = .ok (.aload_n 0, 1) := by decide +kernel
theorem dX12_whomRead_65 : decode cX12_whomRead 65 = .ok (.bipush 7, 2) := by decide +kernel
theorem dX12_whomRead_67 : decode cX12_whomRead 67 = .ok (.invokevirtual 177, 3) := by decide +kernel
theorem dX12_whomRead_70 : decode cX12_whomRead 70 = .ok (.istore_n 2, 1) := by decide +kernel
theorem dX12_whomRead_71 : decode cX12_whomRead 71 = .ok (.aload_n 0, 1) := by decide +kernel
theorem dX12_whomRead_72 : decode cX12_whomRead 72 = .ok (.getfield 32, 3) := by decide +kernel
theorem dX12_whomRead_75 : decode cX12_whomRead 75 = .ok (.iload_n 1, 1) := by decide +kernel
theorem dX12_whomRead_76 : decode cX12_whomRead 76 = .ok (.iconst 0, 1) := by decide +kernel
theorem dX12_whomRead_77 : decode cX12_whomRead 77 = .ok (.iadd, 1) := by decide +kernel
theorem dX12_whomRead_78 : decode cX12_whomRead 78 = .ok (.iconst 1, 1) := by decide +kernel
theorem dX12_whomRead_79 : decode cX12_whomRead 79 = .ok (.iastore, 1) := by decide +kernel
theorem dX12_whomRead_80 : decode cX12_whomRead 80 = .ok (.aload_n 0, 1) := by decide +kernel
theorem dX12_whomRead_81 : decode cX12_whomRead 81 = .ok (.getfield 32, 3) := by decide +kernel
theorem dX12_whomRead_84 : decode cX12_whomRead 84 = .ok (.iload_n 1, 1) := by decide +kernel
theorem dX12_whomRead_85 : decode cX12_whomRead 85 = .ok (.iconst 1, 1) := by decide +kernel
theorem dX12_whomRead_86 : decode cX12_whomRead 86 = .ok (.iadd, 1) := by decide +kernel
theorem dX12_whomRead_87 : decode cX12_whomRead 87 = .ok (.aload_n 0, 1) := by decide +kernel
theorem dX12_whomRead_88 : decode cX12_whomRead 88 = .ok (.getfield 168, 3) := by decide +kernel
theorem dX12_whomRead_91 : decode cX12_whomRead 91 = .ok (.iastore, 1) := by decide +kernel
theorem dX12_whomRead_92 : decode cX12_whomRead 92 = .ok (.iload_n 2, 1) := by decide +kernel
theorem dX12_whomRead_93 : decode cX12_whomRead 93 = .ok (.ireturn, 1) := by decide +kernel
theorem dX12_whomRead_94 : decode cX12_whomRead 94 = .ok (.aload_n 0, 1) := by decide +kernel
theorem dX12_whomRead_95 : decode cX12_whomRead 95 = .ok (.bipush 111, 2) := by decide +kernel
theorem dX12_whomRead_97 : decode cX12_whomRead 97 = .ok (.invokevirtual 174, 3) := by decide +kernel
theorem dX12_whomRead_100 : decode cX12_whomRead 100 = .ok (.istore_n 2, 1) := by decide +kernel
theorem dX12_whomRead_101 : decode cX12_whomRead 101 = .ok (.aload_n 0, 1) := by decide +kernel
theorem dX12_whomRead_102 : decode cX12_whomRead 102 = .ok (.getfield 32, 3) := by decide +kernel
theorem dX12_whomRead_105 : decode cX12_whomRead 105 = .ok (.iload_n 1, 1) := by decide +kernel
theorem dX12_whomRead_106 : decode cX12_whomRead 106 = .ok (.iconst 0, 1) := by decide +kernel
theorem dX12_whomRead_107 : decode cX12_whomRead 107 = .ok (.iadd, 1) := by decide +kernel
theorem dX12_whomRead_108 : decode cX12_whomRead 108 = .ok (.iload_n 2, 1) := by decide +kernel
theorem dX12_whomRead_109 : decode cX12_whomRead 109 = .ok (.ifCond .eq 7, 3) := by decide +kernel
theorem dX12_whomRead_112 : decode cX12_whomRead 112 = .ok (.iconst 2, 1) := by decide +kernel
theorem dX12_whomRead_113 : decode cX12_whomRead 113 = .ok (.goto 4, 3) := by decide +kernel
theorem dX12_whomRead_116 : decode cX12_whomRead 116 = .ok (.iconst 3, 1) := by decide +kernel
theorem dX12_whomRead_117 : decode cX12_whomRead 117 = .ok (.iastore, 1) := by decide +kernel
theorem dX12_whomRead_118 : decode cX12_whomRead 118 = .ok (.iload_n 2, 1) := by decide +kernel
theorem dX12_whomRead_119 : decode cX12_whomRead 119 = .ok (.ifCond .ne 12, 3) := by decide +kernel
theorem dX12_whomRead_122 : decode cX12_whomRead 122 = .ok (.aload_n 0, 1) := by decide +kernel
theorem dX12_whomRead_123 : decode cX12_whomRead 123 = .ok (.bipush 97, 2) := by decide +kernel
theorem dX12_whomRead_125 : decode cX12_whomRead 125 = .ok (.invokevirtual 174, 3) := by decide +kernel
theorem dX12_whomRead_128 : decode cX12_whomRead 128 = .ok (.ifCond .eq 7, 3) := by decide +kernel
theorem dX12_whomRead_131 : decode cX12_whomRead 131 = .ok (.iconst 1, 1) := by decide +kernel
theorem dX12_whomRead_132 : decode cX12_whomRead 132 = .ok (.goto 4, 3) := by decide +kernel
theorem dX12_whomRead_135 : decode cX12_whomRead 135 = .ok (.iconst 0, 1) := by decide +kernel
theorem dX12_whomRead_136 : decode cX12_whomRead 136 = .ok (.ireturn, 1) := by decide +kernel
theorem dX12_entryRead_0 : decode cX12_entryRead 0 = .ok (.aload_n 0, 1) := by decide +kernel
theorem dX12_entryRead_1 : decode cX12_entryRead 1 = .ok (.bipush 43, 2) := by decide +kernel
theorem dX12_entryRead_3 : decode cX12_entryRead 3 = .ok (.invokevirtual 174, 3) := by decide +kernel
theorem dX12_entryRead_6 : decode cX12_entryRead 6 = .ok (.istore_n 1, 1) := by decide +kernel
theorem dX12_entryRead_7 : decode cX12_entryRead 7 = .ok (.iload_n 1, 1) := by decide +kernel
theorem dX12_entryRead_8 : decode cX12_entryRead 8 = .ok (.ifCond .ne 12, 3) := by decide +kernel
theorem dX12_entryRead_11 : decode cX12_entryRead 11 = .ok (.aload_n 0, 1) := by decide +kernel
theorem dX12_entryRead_12 : decode cX12_entryRead 12 = .ok (.bipush 45, 2) := by decide +kernel
theorem dX12_entryRead_14 : decode cX12_entryRead 14 = .ok (.invokevirtual 174, 3) := by decide +kernel
theorem dX12_entryRead_17 : decode cX12_entryRead 17 = .ok (.ifCond .eq 19, 3) := by decide +kernel
theorem dX12_entryRead_20 : decode cX12_entryRead 20 = .ok (.aload_n 0, 1) := by decide +kernel
theorem dX12_entryRead_21 : decode cX12_entryRead 21 = .ok (.invokevirtual 180, 3) := by decide +kernel
theorem dX12_entryRead_24 : decode cX12_entryRead 24 = .ok (.ifCond .eq 12, 3) := by decide +kernel
theorem dX12_entryRead_27 : decode cX12_entryRead 27 = .ok (.aload_n 0, 1) := by decide +kernel
theorem dX12_entryRead_28 : decode cX12_entryRead 28 = .ok (.bipush 61, 2) := by decide +kernel
theorem dX12_entryRead_30 : decode cX12_entryRead 30 = .ok (.invokevirtual 174, 3) := by decide +kernel
theorem dX12_entryRead_33 : decode cX12_entryRead 33 = .ok (.ifCond .ne 5, 3) := by decide +kernel
theorem dX12_entryRead_36 : decode cX12_entryRead 36 = .ok (.iconst 0, 1) := by decide +kernel
theorem dX12_entryRead_37 : decode cX12_entryRead 37 = .ok (.ireturn, 1) := by decide +kernel
theorem dX12_entryRead_38 : decode cX12_entryRead 38 = .ok (.iconst 5, 1) := by decide +kernel
theorem dX12_entryRead_39 : decode cX12_entryRead 39 = .ok (.aload_n 0, 1) := by decide +kernel
theorem dX12_entryRead_40 : decode cX12_entryRead 40 = .ok (.getfield 171, 3) := by decide +kernel
theorem dX12_entryRead_43 : decode cX12_entryRead 43 = .ok (.imul, 1) := by decide +kernel
theorem dX12_entryRead_44 : decode cX12_entryRead 44 = .ok (.istore_n 2, 1) := by decide +kernel
theorem dX12_entryRead_45 : decode cX12_entryRead 45 = .ok (.aload_n 0, 1) := by decide +kernel
theorem dX12_entryRead_46 : decode cX12_entryRead 46 = .ok (.bipush 114, 2) := by decide +kernel
theorem dX12_entryRead_48 : decode cX12_entryRead 48 = .ok (.invokevirtual 174, 3) := by decide +kernel
theorem dX12_entryRead_51 : decode cX12_entryRead 51 = .ok (.ifCond .eq 7, 3) := by decide +kernel
theorem dX12_entryRead_54 : decode cX12_entryRead 54 = .ok (.iconst 1, 1) := by decide +kernel
theorem dX12_entryRead_55 : decode cX12_entryRead 55 = .ok (.goto 4, 3) := by decide +kernel
theorem dX12_entryRead_58 : decode cX12_entryRead 58 = .ok (.iconst 0, 1) := by decide +kernel
theorem dX12_entryRead_59 : decode cX12_entryRead 59 = .ok (.istore_n 3, 1) := by decide +kernel
theorem dX12_entryRead_60 : decode cX12_entryRead 60 = .ok (.iload_n 3, 1) := by decide +kernel
theorem dX12_entryRead_61 : decode cX12_entryRead 61 = .ok (.aload_n 0, 1) := by decide +kernel
theorem dX12_entryRead_62 : decode cX12_entryRead 62 = .ok (.bipush 119, 2) := by decide +kernel
theorem dX12_entryRead_64 : decode cX12_entryRead 64 = .ok (.invokevirtual 174, 3) := by decide +kernel
theorem dX12_entryRead_67 : decode cX12_entryRead 67 = .ok (.ifCond .eq 7, 3) := by decide +kernel
theorem dX12_entryRead_70 : decode cX12_entryRead 70 = .ok (.iconst 2, 1) := by decide +kernel
theorem dX12_entryRead_71 : decode cX12_entryRead 71 = .ok (.goto 4, 3) := by decide +kernel
theorem dX12_entryRead_74 : decode cX12_entryRead 74 = .ok (.iconst 0, 1) := by decide +kernel
theorem dX12_entryRead_75 : decode cX12_entryRead 75 = .ok (.iadd, 1) := by decide +kernel
theorem dX12_entryRead_76 : decode cX12_entryRead 76 = .ok (.istore_n 3, 1) := by decide +kernel
theorem dX12_entryRead_77 : decode cX12_entryRead 77 = .ok (.iload_n 3, 1) := by decide +kernel
theorem dX12_entryRead_78 : decode cX12_entryRead 78 = .ok (.aload_n 0, 1) := by decide +kernel
theorem dX12_entryRead_79 : decode cX12_entryRead 79 = .ok (.bipush 120, 2) := by decide +kernel
theorem dX12_entryRead_81 : decode cX12_entryRead 81 = .ok (.invokevirtual 174, 3) := by decide +kernel
theorem dX12_entryRead_84 : decode cX12_entryRead 84 = .ok (.ifCond .eq 7, 3) := by decide +kernel
theorem dX12_entryRead_87 : decode cX12_entryRead 87 = .ok (.iconst 4, 1) := by decide +kernel
theorem dX12_entryRead_88 : decode cX12_entryRead 88 = .ok (.goto 4, 3) := by decide +kernel
theorem dX12_entryRead_91 : decode cX12_entryRead 91 = .ok (.iconst 0, 1) := by decide +kernel
theorem dX12_entryRead_92 : decode cX12_entryRead 92 = .ok (.iadd, 1) := by decide +kernel
theorem dX12_entryRead_93 : decode cX12_entryRead 93 = .ok (.istore_n 3, 1) := by decide +kernel
theorem dX12_entryRead_94 : decode cX12_entryRead 94 = .ok (.iload_n 3, 1) := by decide +kernel
theorem dX12_entryRead_95 : decode cX12_entryRead 95 = .ok (.aload_n 0, 1) := by decide +kernel
theorem dX12_entryRead_96 : decode cX12_entryRead 96 = .ok (.bipush 109, 2) := by decide +kernel
theorem dX12_entryRead_98 : decode cX12_entryRead 98 = .ok (.invokevirtual 174, 3) := by decide +kernel
theorem dX12_entryRead_101 : decode cX12_entryRead 101 = .ok (.ifCond .eq 8, 3) := by decide +kernel
theorem dX12_entryRead_104 : decode cX12_entryRead 104 = .ok (.bipush 8, 2) := by decide +kernel
theorem dX12_entryRead_106 : decode cX12_entryRead 106 = .ok (.goto 4, 3) := by decide +kernel
theorem dX12_entryRead_109 : decode cX12_entryRead 109 = .ok (.iconst 0, 1) := by decide +kernel
theorem dX12_entryRead_110 : decode cX12_entryRead 110 = .ok (.iadd, 1) := by decide +kernel
theorem dX12_entryRead_111 : decode cX12_entryRead 111 = .ok (.istore_n 3, 1) := by decide +kernel
theorem dX12_entryRead_112 : decode cX12_entryRead 112 = .ok (.iload_n 3, 1) := by decide +kernel
theorem dX12_entryRead_113 : decode cX12_entryRead 113 = .ok (.ifCond .ne 5, 3) := by decide +kernel
theorem dX12_entryRead_116 : decode cX12_entryRead 116 = .ok (.iconst 0, 1) := by decide +kernel
theorem dX12_entryRead_117 : decode cX12_entryRead 117 = .ok (.ireturn, 1) := by decide +kernel
theorem dX12_entryRead_118 : decode cX12_entryRead 118 = .ok (.aload_n 0, 1) := by decide +kernel
theorem dX12_entryRead_119 : decode cX12_entryRead 119 = .ok (.getfield 32, 3) := by decide +kernel
theorem dX12_entryRead_122 : decode cX12_entryRead 122 = .ok (.iload_n 2, 1) := by decide +kernel
theorem dX12_entryRead_123 : decode cX12_entryRead 123 = .ok (.iconst 2, 1) := by decide +kernel
theorem dX12_entryRead_124 : decode cX12_entryRead 124 = .ok (.iadd, 1) := by decide +kernel
theorem dX12_entryRead_125 : decode cX12_entryRead 125 = .ok (.iload_n 3, 1) := by decide +kernel
theorem dX12_entryRead_126 : decode cX12_entryRead 126 = .ok (.iastore, 1) := by decide +kernel
theorem dX12_entryRead_127 : decode cX12_entryRead 127 = .ok (.aload_n 0, 1) := by decide +kernel
theorem dX12_entryRead_128 : decode cX12_entryRead 128 = .ok (.getfield 32, 3) := by decide +kernel
theorem dX12_entryRead_131 : decode cX12_entryRead 131 = .ok (.iload_n 2, 1) := by decide +kernel
theorem dX12_entryRead_132 : decode cX12_entryRead 132 = .ok (.iconst 3, 1) := by decide +kernel
theorem dX12_entryRead_133 : decode cX12_entryRead 133 = .ok (.iadd, 1) := by decide +kernel
theorem dX12_entryRead_134 : decode cX12_entryRead 134 = .ok (.iload_n 1, 1) := by decide +kernel
theorem dX12_entryRead_135 : decode cX12_entryRead 135 = .ok (.ifCond .eq 7, 3) := by decide +kernel
theorem dX12_entryRead_138 : decode cX12_entryRead 138 = .ok (.iconst 1, 1) := by decide +kernel
theorem dX12_entryRead_139 : decode cX12_entryRead 139 = .ok (.goto 4, 3) := by decide +kernel
theorem dX12_entryRead_142 : decode cX12_entryRead 142 = .ok (.iconst 0, 1) := by decide +kernel
theorem dX12_entryRead_143 : decode cX12_entryRead 143 = .ok (.iastore, 1) := by decide +kernel
theorem dX12_entryRead_144 : decode cX12_entryRead 144 = .ok (.aload_n 0, 1) := by decide +kernel
theorem dX12_entryRead_145 : decode cX12_entryRead 145 = .ok (.getfield 32, 3) := by decide +kernel
theorem dX12_entryRead_148 : decode cX12_entryRead 148 = .ok (.iload_n 2, 1) := by decide +kernel
theorem dX12_entryRead_149 : decode cX12_entryRead 149 = .ok (.iconst 4, 1) := by decide +kernel
theorem dX12_entryRead_150 : decode cX12_entryRead 150 = .ok (.iadd, 1) := by decide +kernel
theorem dX12_entryRead_151 : decode cX12_entryRead 151 = .ok (.aload_n 0, 1) := by decide +kernel
theorem dX12_entryRead_152 : decode cX12_entryRead 152 = .ok (.bipush 42, 2) := by decide +kernel
theorem dX12_entryRead_154 : decode cX12_entryRead 154 = .ok (.invokevirtual 174, 3) := by decide +kernel
theorem dX12_entryRead_157 : decode cX12_entryRead 157 = .ok (.ifCond .eq 7, 3) := by decide +kernel
theorem dX12_entryRead_160 : decode cX12_entryRead 160 = .ok (.iconst 1, 1) := by decide +kernel
theorem dX12_entryRead_161 : decode cX12_entryRead 161 = .ok (.goto 4, 3) := by decide +kernel
theorem dX12_entryRead_164 : decode cX12_entryRead 164 = .ok (.iconst 0, 1) := by decide +kernel
theorem dX12_entryRead_165 : decode cX12_entryRead 165 = .ok (.iastore, 1) := by decide +kernel
theorem dX12_entryRead_166 : decode cX12_entryRead 166 = .ok (.aload_n 0, 1) := by decide +kernel
theorem dX12_entryRead_167 : decode cX12_entryRead 167 = .ok (.dup, 1) := by decide +kernel
theorem dX12_entryRead_168 : decode cX12_entryRead 168 = .ok (.getfield 171, 3) := by decide +kernel
theorem dX12_entryRead_171 : decode cX12_entryRead 171 = .ok (.iconst 1, 1) := by decide +kernel
theorem dX12_entryRead_172 : decode cX12_entryRead 172 = .ok (.iadd, 1) := by decide +kernel
theorem dX12_entryRead_173 : decode cX12_entryRead 173 = .ok (.putfield 171, 3) := by decide +kernel
theorem dX12_entryRead_176 : decode cX12_entryRead 176 = .ok (.iconst 1, 1) := by decide +kernel
theorem dX12_entryRead_177 : decode cX12_entryRead 177 = .ok (.ireturn, 1) := by decide +kernel
theorem dX12_wrong_0 : decode cX12_wrong 0 = .ok (.aload_n 0, 1) := by decide +kernel
theorem dX12_wrong_1 : decode cX12_wrong 1 = .ok (.iconst 0, 1) := by decide +kernel
theorem dX12_wrong_2 : decode cX12_wrong 2 = .ok (.putfield 162, 3) := by decide +kernel
theorem dX12_wrong_5 : decode cX12_wrong 5 = .ok (.aload_n 0, 1) := by decide +kernel
theorem dX12_wrong_6 : decode cX12_wrong 6 = .ok (.iconst 0, 1) := by decide +kernel
theorem dX12_wrong_7 : decode cX12_wrong 7 = .ok (.putfield 171, 3) := by decide +kernel
theorem dX12_wrong_10 : decode cX12_wrong 10 = .ok (.aload_n 0, 1) := by decide +kernel
theorem dX12_wrong_11 : decode cX12_wrong 11 = .ok (.bipush 19, 2) := by decide +kernel
theorem dX12_wrong_13 : decode cX12_wrong 13 = .ok (.invokevirtual 177, 3) := by decide +kernel
theorem dX12_wrong_16 : decode cX12_wrong 16 = .ok (.ifCond .eq 12, 3) := by decide +kernel
theorem dX12_wrong_19 : decode cX12_wrong 19 = .ok (.aload_n 0, 1) := by decide +kernel
theorem dX12_wrong_20 : decode cX12_wrong 20 = .ok (.bipush 58, 2) := by decide +kernel
theorem dX12_wrong_22 : decode cX12_wrong 22 = .ok (.invokevirtual 174, 3) := by decide +kernel
theorem dX12_wrong_25 : decode cX12_wrong 25 = .ok (.ifCond .ne 13, 3) := by decide +kernel
theorem dX12_wrong_28 : decode cX12_wrong 28 = .ok (.aload_n 0, 1) := by decide +kernel
theorem dX12_wrong_29 : decode cX12_wrong 29 = .ok (.iconst 0, 1) := by decide +kernel
theorem dX12_wrong_30 : decode cX12_wrong 30 = .ok (.putfield 184, 3) := by decide +kernel
theorem dX12_wrong_33 : decode cX12_wrong 33 = .ok (.aload_n 0, 1) := by decide +kernel
theorem dX12_wrong_34 : decode cX12_wrong 34 = .ok (.getfield 162, 3) := by decide +kernel
theorem dX12_wrong_37 : decode cX12_wrong 37 = .ok (.ireturn, 1) := by decide +kernel
theorem dX12_wrong_38 : decode cX12_wrong 38 = .ok (.aload_n 0, 1) := by decide +kernel
theorem dX12_wrong_39 : decode cX12_wrong 39 = .ok (.aload_n 0, 1) := by decide +kernel
theorem dX12_wrong_40 : decode cX12_wrong 40 = .ok (.getfield 168, 3) := by decide +kernel
theorem dX12_wrong_43 : decode cX12_wrong 43 = .ok (.putfield 184, 3) := by decide +kernel
theorem dX12_wrong_46 : decode cX12_wrong 46 = .ok (.aload_n 0, 1) := by decide +kernel
theorem dX12_wrong_47 : decode cX12_wrong 47 = .ok (.getfield 162, 3) := by decide +kernel
theorem dX12_wrong_50 : decode cX12_wrong 50 = .ok (.aload_n 0, 1) := by decide +kernel
theorem dX12_wrong_51 : decode cX12_wrong 51 = .ok (.getfield 159, 3) := by decide +kernel
theorem dX12_wrong_54 : decode cX12_wrong 54 = .ok (.if_icmp .ge 7, 3) := by decide +kernel
theorem dX12_wrong_57 : decode cX12_wrong 57 = .ok (.iconst 1, 1) := by decide +kernel
theorem dX12_wrong_58 : decode cX12_wrong 58 = .ok (.goto 4, 3) := by decide +kernel
theorem dX12_wrong_61 : decode cX12_wrong 61 = .ok (.iconst 0, 1) := by decide +kernel
theorem dX12_wrong_62 : decode cX12_wrong 62 = .ok (.istore_n 1, 1) := by decide +kernel
theorem dX12_wrong_63 : decode cX12_wrong 63 = .ok (.iload_n 1, 1) := by decide +kernel
theorem dX12_wrong_64 : decode cX12_wrong 64 = .ok (.ifCond .eq 42, 3) := by decide +kernel
theorem dX12_wrong_67 : decode cX12_wrong 67 = .ok (.aload_n 0, 1) := by decide +kernel
theorem dX12_wrong_68 : decode cX12_wrong 68 = .ok (.invokevirtual 187, 3) := by decide +kernel
theorem dX12_wrong_71 : decode cX12_wrong 71 = .ok (.ifCond .ne 8, 3) := by decide +kernel
theorem dX12_wrong_74 : decode cX12_wrong 74 = .ok (.aload_n 0, 1) := by decide +kernel
theorem dX12_wrong_75 : decode cX12_wrong 75 = .ok (.getfield 162, 3) := by decide +kernel
theorem dX12_wrong_78 : decode cX12_wrong 78 = .ok (.ireturn, 1) := by decide +kernel
theorem dX12_wrong_79 : decode cX12_wrong 79 = .ok (.aload_n 0, 1) := by decide +kernel
theorem dX12_wrong_80 : decode cX12_wrong 80 = .ok (.getfield 171, 3) := by decide +kernel
theorem dX12_wrong_83 : decode cX12_wrong 83 = .ok (.bipush 6, 2) := by decide +kernel
theorem dX12_wrong_85 : decode cX12_wrong 85 = .ok (.if_icmp .ge 16, 3) := by decide +kernel
theorem dX12_wrong_88 : decode cX12_wrong 88 = .ok (.aload_n 0, 1) := by decide +kernel
theorem dX12_wrong_89 : decode cX12_wrong 89 = .ok (.bipush 59, 2) := by decide +kernel
theorem dX12_wrong_91 : decode cX12_wrong 91 = .ok (.invokevirtual 174, 3) := by decide +kernel
theorem dX12_wrong_94 : decode cX12_wrong 94 = .ok (.ifCond .eq 7, 3) := by decide +kernel
theorem dX12_wrong_97 : decode cX12_wrong 97 = .ok (.iconst 1, 1) := by decide +kernel
theorem dX12_wrong_98 : decode cX12_wrong 98 = .ok (.goto 4, 3) := by decide +kernel
theorem dX12_wrong_101 : decode cX12_wrong 101 = .ok (.iconst 0, 1) := by decide +kernel
theorem dX12_wrong_102 : decode cX12_wrong 102 = .ok (.istore_n 1, 1) := by decide +kernel
theorem dX12_wrong_103 : decode cX12_wrong 103 = .ok (.goto (-40), 3) := by decide +kernel
theorem dX12_wrong_106 : decode cX12_wrong 106 = .ok (.aload_n 0, 1) := by decide +kernel
theorem dX12_wrong_107 : decode cX12_wrong 107 = .ok (.getfield 162, 3) := by decide +kernel
theorem dX12_wrong_110 : decode cX12_wrong 110 = .ok (.aload_n 0, 1) := by decide +kernel
theorem dX12_wrong_111 : decode cX12_wrong 111 = .ok (.getfield 159, 3) := by decide +kernel
theorem dX12_wrong_114 : decode cX12_wrong 114 = .ok (.if_icmp .ne 7, 3) := by decide +kernel
theorem dX12_wrong_117 : decode cX12_wrong 117 = .ok (.iconst (-1), 1) := by decide +kernel
theorem dX12_wrong_118 : decode cX12_wrong 118 = .ok (.goto 7, 3) := by decide +kernel
theorem dX12_wrong_121 : decode cX12_wrong 121 = .ok (.aload_n 0, 1) := by decide +kernel
theorem dX12_wrong_122 : decode cX12_wrong 122 = .ok (.getfield 162, 3) := by decide +kernel
theorem dX12_wrong_125 : decode cX12_wrong 125 = .ok (.ireturn, 1) := by decide +kernel
theorem dX12_fault_0 : decode cX12_fault 0 = .ok (.aload_n 0, 1) := by decide +kernel
theorem dX12_fault_1 : decode cX12_fault 1 = .ok (.iconst 0, 1) := by decide +kernel
theorem dX12_fault_2 : decode cX12_fault 2 = .ok (.putfield 39, 3) := by decide +kernel
theorem dX12_fault_5 : decode cX12_fault 5 = .ok (.aload_n 0, 1) := by decide +kernel
theorem dX12_fault_6 : decode cX12_fault 6 = .ok (.invokevirtual 190, 3) := by decide +kernel
theorem dX12_fault_9 : decode cX12_fault 9 = .ok (.ireturn, 1) := by decide +kernel
theorem dX12_areThere_0 : decode cX12_areThere 0 = .ok (.aload_n 0, 1) := by decide +kernel
theorem dX12_areThere_1 : decode cX12_areThere 1 = .ok (.aload_n 0, 1) := by decide +kernel
theorem dX12_areThere_2 : decode cX12_areThere 2 = .ok (.getfield 184, 3) := by decide +kernel
theorem dX12_areThere_5 : decode cX12_areThere 5 = .ok (.invokevirtual 57, 3) := by decide +kernel
theorem dX12_areThere_8 : decode cX12_areThere 8 = .ok (.istore_n 1, 1) := by decide +kernel
theorem dX12_areThere_9 : decode cX12_areThere 9 = .ok (.iconst 0, 1) := by decide +kernel
theorem dX12_areThere_10 : decode cX12_areThere 10 = .ok (.istore_n 2, 1) := by decide +kernel
theorem dX12_areThere_11 : decode cX12_areThere 11 = .ok (.iload_n 2, 1) := by decide +kernel
theorem dX12_areThere_12 : decode cX12_areThere 12 = .ok (.aload_n 0, 1) := by decide +kernel
theorem dX12_areThere_13 : decode cX12_areThere 13 = .ok (.getfield 171, 3) := by decide +kernel
theorem dX12_areThere_16 : decode cX12_areThere 16 = .ok (.if_icmp .ge 73, 3) := by decide +kernel
theorem dX12_areThere_19 : decode cX12_areThere 19 = .ok (.aload_n 0, 1) := by decide +kernel
theorem dX12_areThere_20 : decode cX12_areThere 20 = .ok (.getfield 32, 3) := by decide +kernel
theorem dX12_areThere_23 : decode cX12_areThere 23 = .ok (.iconst 5, 1) := by decide +kernel
theorem dX12_areThere_24 : decode cX12_areThere 24 = .ok (.iload_n 2, 1) := by decide +kernel
theorem dX12_areThere_25 : decode cX12_areThere 25 = .ok (.imul, 1) := by decide +kernel
theorem dX12_areThere_26 : decode cX12_areThere 26 = .ok (.iconst 1, 1) := by decide +kernel
theorem dX12_areThere_27 : decode cX12_areThere 27 = .ok (.iadd, 1) := by decide +kernel
theorem dX12_areThere_28 : decode cX12_areThere 28 = .ok (.iaload, 1) := by decide +kernel
theorem dX12_areThere_29 : decode cX12_areThere 29 = .ok (.istore_n 3, 1) := by decide +kernel
theorem dX12_areThere_30 : decode cX12_areThere 30 = .ok (.iload_n 1, 1) := by decide +kernel
theorem dX12_areThere_31 : decode cX12_areThere 31 = .ok (.ifCond .eq 50, 3) := by decide +kernel
theorem dX12_areThere_34 : decode cX12_areThere 34 = .ok (.aload_n 0, 1) := by decide +kernel
theorem dX12_areThere_35 : decode cX12_areThere 35 = .ok (.getfield 32, 3) := by decide +kernel
theorem dX12_areThere_38 : decode cX12_areThere 38 = .ok (.iconst 5, 1) := by decide +kernel
theorem dX12_areThere_39 : decode cX12_areThere 39 = .ok (.iload_n 2, 1) := by decide +kernel
theorem dX12_areThere_40 : decode cX12_areThere 40 = .ok (.imul, 1) := by decide +kernel
theorem dX12_areThere_41 : decode cX12_areThere 41 = .ok (.iconst 0, 1) := by decide +kernel
theorem dX12_areThere_42 : decode cX12_areThere 42 = .ok (.iadd, 1) := by decide +kernel
theorem dX12_areThere_43 : decode cX12_areThere 43 = .ok (.iaload, 1) := by decide +kernel
theorem dX12_areThere_44 : decode cX12_areThere 44 = .ok (.ifCond .ne 11, 3) := by decide +kernel
theorem dX12_areThere_47 : decode cX12_areThere 47 = .ok (.aload_n 0, 1) := by decide +kernel
theorem dX12_areThere_48 : decode cX12_areThere 48 = .ok (.iload_n 3, 1) := by decide +kernel
theorem dX12_areThere_49 : decode cX12_areThere 49 = .ok (.invokevirtual 82, 3) := by decide +kernel
theorem dX12_areThere_52 : decode cX12_areThere 52 = .ok (.ifCond .eq 29, 3) := by decide +kernel
theorem dX12_areThere_55 : decode cX12_areThere 55 = .ok (.aload_n 0, 1) := by decide +kernel
theorem dX12_areThere_56 : decode cX12_areThere 56 = .ok (.getfield 32, 3) := by decide +kernel
theorem dX12_areThere_59 : decode cX12_areThere 59 = .ok (.iconst 5, 1) := by decide +kernel
theorem dX12_areThere_60 : decode cX12_areThere 60 = .ok (.iload_n 2, 1) := by decide +kernel
theorem dX12_areThere_61 : decode cX12_areThere 61 = .ok (.imul, 1) := by decide +kernel
theorem dX12_areThere_62 : decode cX12_areThere 62 = .ok (.iconst 0, 1) := by decide +kernel
theorem dX12_areThere_63 : decode cX12_areThere 63 = .ok (.iadd, 1) := by decide +kernel
theorem dX12_areThere_64 : decode cX12_areThere 64 = .ok (.iaload, 1) := by decide +kernel
theorem dX12_areThere_65 : decode cX12_areThere 65 = .ok (.iconst 1, 1) := by decide +kernel
theorem dX12_areThere_66 : decode cX12_areThere 66 = .ok (.if_icmp .ne 11, 3) := by decide +kernel
theorem dX12_areThere_69 : decode cX12_areThere 69 = .ok (.aload_n 0, 1) := by decide +kernel
theorem dX12_areThere_70 : decode cX12_areThere 70 = .ok (.iload_n 3, 1) := by decide +kernel
theorem dX12_areThere_71 : decode cX12_areThere 71 = .ok (.invokevirtual 85, 3) := by decide +kernel
theorem dX12_areThere_74 : decode cX12_areThere 74 = .ok (.ifCond .eq 7, 3) := by decide +kernel
theorem dX12_areThere_77 : decode cX12_areThere 77 = .ok (.iconst 1, 1) := by decide +kernel
theorem dX12_areThere_78 : decode cX12_areThere 78 = .ok (.goto 4, 3) := by decide +kernel
theorem dX12_areThere_81 : decode cX12_areThere 81 = .ok (.iconst 0, 1) := by decide +kernel
theorem dX12_areThere_82 : decode cX12_areThere 82 = .ok (.istore_n 1, 1) := by decide +kernel
theorem dX12_areThere_83 : decode cX12_areThere 83 = .ok (.iinc 2 1, 3) := by decide +kernel
theorem dX12_areThere_86 : decode cX12_areThere 86 = .ok (.goto (-75), 3) := by decide +kernel
theorem dX12_areThere_89 : decode cX12_areThere 89 = .ok (.iload_n 1, 1) := by decide +kernel
theorem dX12_areThere_90 : decode cX12_areThere 90 = .ok (.ireturn, 1) := by decide +kernel
theorem dX12_loadEntries_0 : decode cX12_loadEntries 0 = .ok (.aload_n 0, 1) := by decide +kernel
theorem dX12_loadEntries_1 : decode cX12_loadEntries 1 = .ok (.iconst 0, 1) := by decide +kernel
theorem dX12_loadEntries_2 : decode cX12_loadEntries 2 = .ok (.putfield 39, 3) := by decide +kernel
theorem dX12_loadEntries_5 : decode cX12_loadEntries 5 = .ok (.aload_n 0, 1) := by decide +kernel
theorem dX12_loadEntries_6 : decode cX12_loadEntries 6 = .ok (.invokevirtual 190, 3) := by decide +kernel
theorem dX12_loadEntries_9 : decode cX12_loadEntries 9 = .ok (.iconst (-1), 1) := by decide +kernel
theorem dX12_loadEntries_10 : decode cX12_loadEntries 10 = .ok (.if_icmp .ne 10, 3) := by decide +kernel
theorem dX12_loadEntries_13 : decode cX12_loadEntries 13 = .ok (.aload_n 0, 1) := by decide +kernel
theorem dX12_loadEntries_14 : decode cX12_loadEntries 14 = .ok (.invokevirtual 193, 3) := by decide +kernel
theorem dX12_loadEntries_17 : decode cX12_loadEntries 17 = .ok (.ifCond .ne 9, 3) := by decide +kernel
theorem dX12_loadEntries_20 : decode cX12_loadEntries 20 = .ok (.aload_n 0, 1) := by decide +kernel
theorem dX12_loadEntries_21 : decode cX12_loadEntries 21 = .ok (.iconst 1, 1) := by decide +kernel
theorem dX12_loadEntries_22 : decode cX12_loadEntries 22 = .ok (.invokevirtual 76, 3) := by decide +kernel
theorem dX12_loadEntries_25 : decode cX12_loadEntries 25 = .ok (.ireturn, 1) := by decide +kernel
theorem dX12_loadEntries_26 : decode cX12_loadEntries 26 = .ok (.aload_n 0, 1) := by decide +kernel
theorem dX12_loadEntries_27 : decode cX12_loadEntries 27 = .ok (.invokevirtual 79, 3) := by decide +kernel
theorem dX12_loadEntries_30 : decode cX12_loadEntries 30 = .ok (.aload_n 0, 1) := by decide +kernel
theorem dX12_loadEntries_31 : decode cX12_loadEntries 31 = .ok (.getfield 7, 3) := by decide +kernel
theorem dX12_loadEntries_34 : decode cX12_loadEntries 34 = .ok (.aload_n 0, 1) := by decide +kernel
theorem dX12_loadEntries_35 : decode cX12_loadEntries 35 = .ok (.getfield 184, 3) := by decide +kernel
theorem dX12_loadEntries_38 : decode cX12_loadEntries 38 = .ok (.iconst 5, 1) := by decide +kernel
theorem dX12_loadEntries_39 : decode cX12_loadEntries 39 = .ok (.invokestatic 50, 3) := by decide +kernel
theorem dX12_loadEntries_42 : decode cX12_loadEntries 42 = .ok (.aload_n 0, 1) := by decide +kernel
theorem dX12_loadEntries_43 : decode cX12_loadEntries 43 = .ok (.getfield 171, 3) := by decide +kernel
theorem dX12_loadEntries_46 : decode cX12_loadEntries 46 = .ok (.iastore, 1) := by decide +kernel
theorem dX12_loadEntries_47 : decode cX12_loadEntries 47 = .ok (.iconst 0, 1) := by decide +kernel
theorem dX12_loadEntries_48 : decode cX12_loadEntries 48 = .ok (.istore_n 1, 1) := by decide +kernel
theorem dX12_loadEntries_49 : decode cX12_loadEntries 49 = .ok (.iload_n 1, 1) := by decide +kernel
theorem dX12_loadEntries_50 : decode cX12_loadEntries 50 = .ok (.iconst 5, 1) := by decide +kernel
theorem dX12_loadEntries_51 : decode cX12_loadEntries 51 = .ok (.aload_n 0, 1) := by decide +kernel
theorem dX12_loadEntries_52 : decode cX12_loadEntries 52 = .ok (.getfield 171, 3) := by decide +kernel
theorem dX12_loadEntries_55 : decode cX12_loadEntries 55 = .ok (.imul, 1) := by decide +kernel
theorem dX12_loadEntries_56 : decode cX12_loadEntries 56 = .ok (.if_icmp .ge 29, 3) := by decide +kernel
theorem dX12_loadEntries_59 : decode cX12_loadEntries 59 = .ok (.aload_n 0, 1) := by decide +kernel
theorem dX12_loadEntries_60 : decode cX12_loadEntries 60 = .ok (.getfield 7, 3) := by decide +kernel
theorem dX12_loadEntries_63 : decode cX12_loadEntries 63 = .ok (.aload_n 0, 1) := by decide +kernel
theorem dX12_loadEntries_64 : decode cX12_loadEntries 64 = .ok (.getfield 184, 3) := by decide +kernel
theorem dX12_loadEntries_67 : decode cX12_loadEntries 67 = .ok (.iconst 0, 1) := by decide +kernel
theorem dX12_loadEntries_68 : decode cX12_loadEntries 68 = .ok (.iload_n 1, 1) := by decide +kernel
theorem dX12_loadEntries_69 : decode cX12_loadEntries 69 = .ok (.invokestatic 61, 3) := by decide +kernel
theorem dX12_loadEntries_72 : decode cX12_loadEntries 72 = .ok (.aload_n 0, 1) := by decide +kernel
theorem dX12_loadEntries_73 : decode cX12_loadEntries 73 = .ok (.getfield 32, 3) := by decide +kernel
theorem dX12_loadEntries_76 : decode cX12_loadEntries 76 = .ok (.iload_n 1, 1) := by decide +kernel
theorem dX12_loadEntries_77 : decode cX12_loadEntries 77 = .ok (.iaload, 1) := by decide +kernel
theorem dX12_loadEntries_78 : decode cX12_loadEntries 78 = .ok (.iastore, 1) := by decide +kernel
theorem dX12_loadEntries_79 : decode cX12_loadEntries 79 = .ok (.iinc 1 1, 3) := by decide +kernel
theorem dX12_loadEntries_82 : decode cX12_loadEntries 82 = .ok (.goto (-33), 3) := by decide +kernel
theorem dX12_loadEntries_85 : decode cX12_loadEntries 85 = .ok (.aload_n 0, 1) := by decide +kernel
theorem dX12_loadEntries_86 : decode cX12_loadEntries 86 = .ok (.iconst 0, 1) := by decide +kernel
theorem dX12_loadEntries_87 : decode cX12_loadEntries 87 = .ok (.putfield 159, 3) := by decide +kernel
theorem dX12_loadEntries_90 : decode cX12_loadEntries 90 = .ok (.aload_n 0, 1) := by decide +kernel
theorem dX12_loadEntries_91 : decode cX12_loadEntries 91 = .ok (.getfield 171, 3) := by decide +kernel
theorem dX12_loadEntries_94 : decode cX12_loadEntries 94 = .ok (.ireturn, 1) := by decide +kernel
theorem dX12_puts_0 : decode cX12_puts 0 = .ok (.aload_n 0, 1) := by decide +kernel
theorem dX12_puts_1 : decode cX12_puts 1 = .ok (.getfield 23, 3) := by decide +kernel
theorem dX12_puts_4 : decode cX12_puts 4 = .ok (.aload_n 0, 1) := by decide +kernel
theorem dX12_puts_5 : decode cX12_puts 5 = .ok (.getfield 159, 3) := by decide +kernel
theorem dX12_puts_8 : decode cX12_puts 8 = .ok (.iload_n 1, 1) := by decide +kernel
theorem dX12_puts_9 : decode cX12_puts 9 = .ok (.iastore, 1) := by decide +kernel
theorem dX12_puts_10 : decode cX12_puts 10 = .ok (.aload_n 0, 1) := by decide +kernel
theorem dX12_puts_11 : decode cX12_puts 11 = .ok (.dup, 1) := by decide +kernel
theorem dX12_puts_12 : decode cX12_puts 12 = .ok (.getfield 159, 3) := by decide +kernel
theorem dX12_puts_15 : decode cX12_puts 15 = .ok (.iconst 1, 1) := by decide +kernel
theorem dX12_puts_16 : decode cX12_puts 16 = .ok (.iadd, 1) := by decide +kernel
theorem dX12_puts_17 : decode cX12_puts 17 = .ok (.putfield 159, 3) := by decide +kernel
theorem dX12_puts_20 : decode cX12_puts 20 = .ok (.return_, 1) := by decide +kernel
theorem dX12_putsNumber_0 : decode cX12_putsNumber 0 = .ok (.iload_n 1, 1) := by decide +kernel
theorem dX12_putsNumber_1 : decode cX12_putsNumber 1 = .ok (.bipush 9, 2) := by decide +kernel
theorem dX12_putsNumber_3 : decode cX12_putsNumber 3 = .ok (.if_icmp .le 14, 3) := by decide +kernel
theorem dX12_putsNumber_6 : decode cX12_putsNumber 6 = .ok (.aload_n 0, 1) := by decide +kernel
theorem dX12_putsNumber_7 : decode cX12_putsNumber 7 = .ok (.bipush 48, 2) := by decide +kernel
theorem dX12_putsNumber_9 : decode cX12_putsNumber 9 = .ok (.iload_n 1, 1) := by decide +kernel
theorem dX12_putsNumber_10 : decode cX12_putsNumber 10 = .ok (.bipush 10, 2) := by decide +kernel
theorem dX12_putsNumber_12 : decode cX12_putsNumber 12 = .ok (.idiv, 1) := by decide +kernel
theorem dX12_putsNumber_13 : decode cX12_putsNumber 13 = .ok (.iadd, 1) := by decide +kernel
theorem dX12_putsNumber_14 : decode cX12_putsNumber 14 = .ok (.invokevirtual 196, 3) := by decide +kernel
theorem dX12_putsNumber_17 : decode cX12_putsNumber 17 = .ok (.aload_n 0, 1) := by decide +kernel
theorem dX12_putsNumber_18 : decode cX12_putsNumber 18 = .ok (.bipush 48, 2) := by decide +kernel
theorem dX12_putsNumber_20 : decode cX12_putsNumber 20 = .ok (.iload_n 1, 1) := by decide +kernel
theorem dX12_putsNumber_21 : decode cX12_putsNumber 21 = .ok (.bipush 10, 2) := by decide +kernel
theorem dX12_putsNumber_23 : decode cX12_putsNumber 23 = .ok (.irem, 1) := by decide +kernel
theorem dX12_putsNumber_24 : decode cX12_putsNumber 24 = .ok (.iadd, 1) := by decide +kernel
theorem dX12_putsNumber_25 : decode cX12_putsNumber 25 = .ok (.invokevirtual 196, 3) := by decide +kernel
theorem dX12_putsNumber_28 : decode cX12_putsNumber 28 = .ok (.return_, 1) := by decide +kernel
theorem dX12_putsRight_0 : decode cX12_putsRight 0 = .ok (.iload_n 1, 1) := by decide +kernel
theorem dX12_putsRight_1 : decode cX12_putsRight 1 = .ok (.iload_n 2, 1) := by decide +kernel
theorem dX12_putsRight_2 : decode cX12_putsRight 2 = .ok (.invokestatic 65, 3) := by decide +kernel
theorem dX12_putsRight_5 : decode cX12_putsRight 5 = .ok (.ifCond .eq 8, 3) := by decide +kernel
theorem dX12_putsRight_8 : decode cX12_putsRight 8 = .ok (.aload_n 0, 1) := by decide +kernel
theorem dX12_putsRight_9 : decode cX12_putsRight 9 = .ok (.iload_n 3, 1) := by decide +kernel
theorem dX12_putsRight_10 : decode cX12_putsRight 10 = .ok (.invokevirtual 196, 3) := by decide +kernel
theorem dX12_putsRight_13 : decode cX12_putsRight 13 = .ok (.return_, 1) := by decide +kernel
theorem dX12_putsEntry_0 : decode cX12_putsEntry 0 = .ok (.aload_n 0, 1) := by decide +kernel
theorem dX12_putsEntry_1 : decode cX12_putsEntry 1 = .ok (.iload_n 1, 1) := by decide +kernel
theorem dX12_putsEntry_2 : decode cX12_putsEntry 2 = .ok (.iload_n 2, 1) := by decide +kernel
theorem dX12_putsEntry_3 : decode cX12_putsEntry 3 = .ok (.iconst 0, 1) := by decide +kernel
theorem dX12_putsEntry_4 : decode cX12_putsEntry 4 = .ok (.invokevirtual 122, 3) := by decide +kernel
theorem dX12_putsEntry_7 : decode cX12_putsEntry 7 = .ok (.istore_n 3, 1) := by decide +kernel
theorem dX12_putsEntry_8 : decode cX12_putsEntry 8 = .ok (.aload_n 0, 1) := by decide +kernel
theorem dX12_putsEntry_9 : decode cX12_putsEntry 9 = .ok (.iload_n 1, 1) := by decide +kernel
theorem dX12_putsEntry_10 : decode cX12_putsEntry 10 = .ok (.iload_n 2, 1) := by decide +kernel
theorem dX12_putsEntry_11 : decode cX12_putsEntry 11 = .ok (.iconst 2, 1) := by decide +kernel
theorem dX12_putsEntry_12 : decode cX12_putsEntry 12 = .ok (.invokevirtual 122, 3) := by decide +kernel
theorem dX12_putsEntry_15 : decode cX12_putsEntry 15 = .ok (.istore 4, 2) := by decide +kernel
theorem dX12_putsEntry_17 : decode cX12_putsEntry 17 = .ok (.aload_n 0, 1) := by decide +kernel
theorem dX12_putsEntry_18 : decode cX12_putsEntry 18 = .ok (.aload_n 0, 1) := by decide +kernel
theorem dX12_putsEntry_19 : decode cX12_putsEntry 19 = .ok (.iload_n 1, 1) := by decide +kernel
theorem dX12_putsEntry_20 : decode cX12_putsEntry 20 = .ok (.iload_n 2, 1) := by decide +kernel
theorem dX12_putsEntry_21 : decode cX12_putsEntry 21 = .ok (.iconst 3, 1) := by decide +kernel
theorem dX12_putsEntry_22 : decode cX12_putsEntry 22 = .ok (.invokevirtual 122, 3) := by decide +kernel
theorem dX12_putsEntry_25 : decode cX12_putsEntry 25 = .ok (.iconst 1, 1) := by decide +kernel
theorem dX12_putsEntry_26 : decode cX12_putsEntry 26 = .ok (.if_icmp .ne 8, 3) := by decide +kernel
theorem dX12_putsEntry_29 : decode cX12_putsEntry 29 = .ok (.bipush 43, 2) := by decide +kernel
theorem dX12_putsEntry_31 : decode cX12_putsEntry 31 = .ok (.goto 5, 3) := by decide +kernel
theorem dX12_putsEntry_34 : decode cX12_putsEntry 34 = .ok (.bipush 45, 2) := by decide +kernel
theorem dX12_putsEntry_36 : decode cX12_putsEntry 36 = .ok (.invokevirtual 196, 3) := by decide +kernel
theorem dX12_putsEntry_39 : decode cX12_putsEntry 39 = .ok (.aload_n 0, 1) := by decide +kernel
theorem dX12_putsEntry_40 : decode cX12_putsEntry 40 = .ok (.iload_n 3, 1) := by decide +kernel
theorem dX12_putsEntry_41 : decode cX12_putsEntry 41 = .ok (.ifCond .ne 8, 3) := by decide +kernel
theorem dX12_putsEntry_44 : decode cX12_putsEntry 44 = .ok (.bipush 117, 2) := by decide +kernel
theorem dX12_putsEntry_46 : decode cX12_putsEntry 46 = .ok (.goto 25, 3) := by decide +kernel
theorem dX12_putsEntry_49 : decode cX12_putsEntry 49 = .ok (.iload_n 3, 1) := by decide +kernel
theorem dX12_putsEntry_50 : decode cX12_putsEntry 50 = .ok (.iconst 1, 1) := by decide +kernel
theorem dX12_putsEntry_51 : decode cX12_putsEntry 51 = .ok (.if_icmp .ne 8, 3) := by decide +kernel
theorem dX12_putsEntry_54 : decode cX12_putsEntry 54 = .ok (.bipush 103, 2) := by decide +kernel
theorem dX12_putsEntry_56 : decode cX12_putsEntry 56 = .ok (.goto 15, 3) := by decide +kernel
theorem dX12_putsEntry_59 : decode cX12_putsEntry 59 = .ok (.iload_n 3, 1) := by decide +kernel
theorem dX12_putsEntry_60 : decode cX12_putsEntry 60 = .ok (.iconst 2, 1) := by decide +kernel
theorem dX12_putsEntry_61 : decode cX12_putsEntry 61 = .ok (.if_icmp .ne 8, 3) := by decide +kernel
theorem dX12_putsEntry_64 : decode cX12_putsEntry 64 = .ok (.bipush 111, 2) := by decide +kernel
theorem dX12_putsEntry_66 : decode cX12_putsEntry 66 = .ok (.goto 5, 3) := by decide +kernel
theorem dX12_putsEntry_69 : decode cX12_putsEntry 69 = .ok (.bipush 97, 2) := by decide +kernel
theorem dX12_putsEntry_71 : decode cX12_putsEntry 71 = .ok (.invokevirtual 196, 3) := by decide +kernel
theorem dX12_putsEntry_74 : decode cX12_putsEntry 74 = .ok (.iload_n 3, 1) := by decide +kernel
theorem dX12_putsEntry_75 : decode cX12_putsEntry 75 = .ok (.iconst 2, 1) := by decide +kernel
theorem dX12_putsEntry_76 : decode cX12_putsEntry 76 = .ok (.if_icmp .ge 14, 3) := by decide +kernel
theorem dX12_putsEntry_79 : decode cX12_putsEntry 79 = .ok (.aload_n 0, 1) := by decide +kernel
theorem dX12_putsEntry_80 : decode cX12_putsEntry 80 = .ok (.aload_n 0, 1) := by decide +kernel
theorem dX12_putsEntry_81 : decode cX12_putsEntry 81 = .ok (.iload_n 1, 1) := by decide +kernel
theorem dX12_putsEntry_82 : decode cX12_putsEntry 82 = .ok (.iload_n 2, 1) := by decide +kernel
theorem dX12_putsEntry_83 : decode cX12_putsEntry 83 = .ok (.iconst 1, 1) := by decide +kernel
theorem dX12_putsEntry_84 : decode cX12_putsEntry 84 = .ok (.invokevirtual 122, 3) := by decide +kernel
theorem dX12_putsEntry_87 : decode cX12_putsEntry 87 = .ok (.invokevirtual 200, 3) := by decide +kernel
theorem dX12_putsEntry_90 : decode cX12_putsEntry 90 = .ok (.aload_n 0, 1) := by decide +kernel
theorem dX12_putsEntry_91 : decode cX12_putsEntry 91 = .ok (.bipush 61, 2) := by decide +kernel
theorem dX12_putsEntry_93 : decode cX12_putsEntry 93 = .ok (.invokevirtual 196, 3) := by decide +kernel
theorem dX12_putsEntry_96 : decode cX12_putsEntry 96 = .ok (.aload_n 0, 1) := by decide +kernel
theorem dX12_putsEntry_97 : decode cX12_putsEntry 97 = .ok (.iload 4, 2) := by decide +kernel
theorem dX12_putsEntry_99 : decode cX12_putsEntry 99 = .ok (.iconst 0, 1) := by decide +kernel
theorem dX12_putsEntry_100 : decode cX12_putsEntry 100 = .ok (.bipush 114, 2) := by decide +kernel
theorem dX12_putsEntry_102 : decode cX12_putsEntry 102 = .ok (.invokevirtual 203, 3) := by decide +kernel
theorem dX12_putsEntry_105 : decode cX12_putsEntry 105 = .ok (.aload_n 0, 1) := by decide +kernel
theorem dX12_putsEntry_106 : decode cX12_putsEntry 106 = .ok (.iload 4, 2) := by decide +kernel
theorem dX12_putsEntry_108 : decode cX12_putsEntry 108 = .ok (.iconst 1, 1) := by decide +kernel
theorem dX12_putsEntry_109 : decode cX12_putsEntry 109 = .ok (.bipush 119, 2) := by decide +kernel
theorem dX12_putsEntry_111 : decode cX12_putsEntry 111 = .ok (.invokevirtual 203, 3) := by decide +kernel
theorem dX12_putsEntry_114 : decode cX12_putsEntry 114 = .ok (.aload_n 0, 1) := by decide +kernel
theorem dX12_putsEntry_115 : decode cX12_putsEntry 115 = .ok (.iload 4, 2) := by decide +kernel
theorem dX12_putsEntry_117 : decode cX12_putsEntry 117 = .ok (.iconst 2, 1) := by decide +kernel
theorem dX12_putsEntry_118 : decode cX12_putsEntry 118 = .ok (.bipush 120, 2) := by decide +kernel
theorem dX12_putsEntry_120 : decode cX12_putsEntry 120 = .ok (.invokevirtual 203, 3) := by decide +kernel
theorem dX12_putsEntry_123 : decode cX12_putsEntry 123 = .ok (.aload_n 0, 1) := by decide +kernel
theorem dX12_putsEntry_124 : decode cX12_putsEntry 124 = .ok (.iload 4, 2) := by decide +kernel
theorem dX12_putsEntry_126 : decode cX12_putsEntry 126 = .ok (.iconst 3, 1) := by decide +kernel
theorem dX12_putsEntry_127 : decode cX12_putsEntry 127 = .ok (.bipush 109, 2) := by decide +kernel
theorem dX12_putsEntry_129 : decode cX12_putsEntry 129 = .ok (.invokevirtual 203, 3) := by decide +kernel
theorem dX12_putsEntry_132 : decode cX12_putsEntry 132 = .ok (.aload_n 0, 1) := by decide +kernel
theorem dX12_putsEntry_133 : decode cX12_putsEntry 133 = .ok (.iload_n 1, 1) := by decide +kernel
theorem dX12_putsEntry_134 : decode cX12_putsEntry 134 = .ok (.iload_n 2, 1) := by decide +kernel
theorem dX12_putsEntry_135 : decode cX12_putsEntry 135 = .ok (.iconst 4, 1) := by decide +kernel
theorem dX12_putsEntry_136 : decode cX12_putsEntry 136 = .ok (.invokevirtual 122, 3) := by decide +kernel
theorem dX12_putsEntry_139 : decode cX12_putsEntry 139 = .ok (.iconst 1, 1) := by decide +kernel
theorem dX12_putsEntry_140 : decode cX12_putsEntry 140 = .ok (.if_icmp .ne 9, 3) := by decide +kernel
theorem dX12_putsEntry_143 : decode cX12_putsEntry 143 = .ok (.aload_n 0, 1) := by decide +kernel
theorem dX12_putsEntry_144 : decode cX12_putsEntry 144 = .ok (.bipush 42, 2) := by decide +kernel
theorem dX12_putsEntry_146 : decode cX12_putsEntry 146 = .ok (.invokevirtual 196, 3) := by decide +kernel
theorem dX12_putsEntry_149 : decode cX12_putsEntry 149 = .ok (.return_, 1) := by decide +kernel
theorem dX12_writeEntries_0 : decode cX12_writeEntries 0 = .ok (.aload_n 0, 1) := by decide +kernel
theorem dX12_writeEntries_1 : decode cX12_writeEntries 1 = .ok (.iconst 0, 1) := by decide +kernel
theorem dX12_writeEntries_2 : decode cX12_writeEntries 2 = .ok (.putfield 39, 3) := by decide +kernel
theorem dX12_writeEntries_5 : decode cX12_writeEntries 5 = .ok (.aload_n 0, 1) := by decide +kernel
theorem dX12_writeEntries_6 : decode cX12_writeEntries 6 = .ok (.iload_n 1, 1) := by decide +kernel
theorem dX12_writeEntries_7 : decode cX12_writeEntries 7 = .ok (.invokevirtual 57, 3) := by decide +kernel
theorem dX12_writeEntries_10 : decode cX12_writeEntries 10 = .ok (.ifCond .ne 9, 3) := by decide +kernel
theorem dX12_writeEntries_13 : decode cX12_writeEntries 13 = .ok (.aload_n 0, 1) := by decide +kernel
theorem dX12_writeEntries_14 : decode cX12_writeEntries 14 = .ok (.iconst 1, 1) := by decide +kernel
theorem dX12_writeEntries_15 : decode cX12_writeEntries 15 = .ok (.invokevirtual 76, 3) := by decide +kernel
theorem dX12_writeEntries_18 : decode cX12_writeEntries 18 = .ok (.ireturn, 1) := by decide +kernel
theorem dX12_writeEntries_19 : decode cX12_writeEntries 19 = .ok (.aload_n 0, 1) := by decide +kernel
theorem dX12_writeEntries_20 : decode cX12_writeEntries 20 = .ok (.iconst 0, 1) := by decide +kernel
theorem dX12_writeEntries_21 : decode cX12_writeEntries 21 = .ok (.putfield 159, 3) := by decide +kernel
theorem dX12_writeEntries_24 : decode cX12_writeEntries 24 = .ok (.aload_n 0, 1) := by decide +kernel
theorem dX12_writeEntries_25 : decode cX12_writeEntries 25 = .ok (.iload_n 1, 1) := by decide +kernel
theorem dX12_writeEntries_26 : decode cX12_writeEntries 26 = .ok (.invokevirtual 200, 3) := by decide +kernel
theorem dX12_writeEntries_29 : decode cX12_writeEntries 29 = .ok (.aload_n 0, 1) := by decide +kernel
theorem dX12_writeEntries_30 : decode cX12_writeEntries 30 = .ok (.bipush 58, 2) := by decide +kernel
theorem dX12_writeEntries_32 : decode cX12_writeEntries 32 = .ok (.invokevirtual 196, 3) := by decide +kernel
theorem dX12_writeEntries_35 : decode cX12_writeEntries 35 = .ok (.iconst 0, 1) := by decide +kernel
theorem dX12_writeEntries_36 : decode cX12_writeEntries 36 = .ok (.istore_n 2, 1) := by decide +kernel
theorem dX12_writeEntries_37 : decode cX12_writeEntries 37 = .ok (.iload_n 2, 1) := by decide +kernel
theorem dX12_writeEntries_38 : decode cX12_writeEntries 38 = .ok (.aload_n 0, 1) := by decide +kernel
theorem dX12_writeEntries_39 : decode cX12_writeEntries 39 = .ok (.iload_n 1, 1) := by decide +kernel
theorem dX12_writeEntries_40 : decode cX12_writeEntries 40 = .ok (.iconst 5, 1) := by decide +kernel
theorem dX12_writeEntries_41 : decode cX12_writeEntries 41 = .ok (.invokevirtual 54, 3) := by decide +kernel
theorem dX12_writeEntries_44 : decode cX12_writeEntries 44 = .ok (.if_icmp .ge 25, 3) := by decide +kernel
theorem dX12_writeEntries_47 : decode cX12_writeEntries 47 = .ok (.iload_n 2, 1) := by decide +kernel
theorem dX12_writeEntries_48 : decode cX12_writeEntries 48 = .ok (.ifCond .le 9, 3) := by decide +kernel
theorem dX12_writeEntries_51 : decode cX12_writeEntries 51 = .ok (.aload_n 0, 1) := by decide +kernel
theorem dX12_writeEntries_52 : decode cX12_writeEntries 52 = .ok (.bipush 59, 2) := by decide +kernel
theorem dX12_writeEntries_54 : decode cX12_writeEntries 54 = .ok (.invokevirtual 196, 3) := by decide +kernel
theorem dX12_writeEntries_57 : decode cX12_writeEntries 57 = .ok (.aload_n 0, 1) := by decide +kernel
theorem dX12_writeEntries_58 : decode cX12_writeEntries 58 = .ok (.iload_n 1, 1) := by decide +kernel
theorem dX12_writeEntries_59 : decode cX12_writeEntries 59 = .ok (.iload_n 2, 1) := by decide +kernel
theorem dX12_writeEntries_60 : decode cX12_writeEntries 60 = .ok (.invokevirtual 206, 3) := by decide +kernel
theorem dX12_writeEntries_63 : decode cX12_writeEntries 63 = .ok (.iinc 2 1, 3) := by decide +kernel
theorem dX12_writeEntries_66 : decode cX12_writeEntries 66 = .ok (.goto (-29), 3) := by decide +kernel
theorem dX12_writeEntries_69 : decode cX12_writeEntries 69 = .ok (.aload_n 0, 1) := by decide +kernel
theorem dX12_writeEntries_70 : decode cX12_writeEntries 70 = .ok (.getfield 159, 3) := by decide +kernel
theorem dX12_writeEntries_73 : decode cX12_writeEntries 73 = .ok (.ireturn, 1) := by decide +kernel
theorem dX12_codeAt_0 : decode cX12_codeAt 0 = .ok (.aload_n 0, 1) := by decide +kernel
theorem dX12_codeAt_1 : decode cX12_codeAt 1 = .ok (.iconst 0, 1) := by decide +kernel
theorem dX12_codeAt_2 : decode cX12_codeAt 2 = .ok (.putfield 39, 3) := by decide +kernel
theorem dX12_codeAt_5 : decode cX12_codeAt 5 = .ok (.iload_n 1, 1) := by decide +kernel
theorem dX12_codeAt_6 : decode cX12_codeAt 6 = .ok (.iconst 0, 1) := by decide +kernel
theorem dX12_codeAt_7 : decode cX12_codeAt 7 = .ok (.bipush 79, 2) := by decide +kernel
theorem dX12_codeAt_9 : decode cX12_codeAt 9 = .ok (.invokestatic 46, 3) := by decide +kernel
theorem dX12_codeAt_12 : decode cX12_codeAt 12 = .ok (.ifCond .ne 11, 3) := by decide +kernel
theorem dX12_codeAt_15 : decode cX12_codeAt 15 = .ok (.aload_n 0, 1) := by decide +kernel
theorem dX12_codeAt_16 : decode cX12_codeAt 16 = .ok (.iconst 1, 1) := by decide +kernel
theorem dX12_codeAt_17 : decode cX12_codeAt 17 = .ok (.invokevirtual 76, 3) := by decide +kernel
theorem dX12_codeAt_20 : decode cX12_codeAt 20 = .ok (.goto 21, 3) := by decide +kernel
theorem dX12_codeAt_23 : decode cX12_codeAt 23 = .ok (.iload_n 1, 1) := by decide +kernel
theorem dX12_codeAt_24 : decode cX12_codeAt 24 = .ok (.aload_n 0, 1) := by decide +kernel
theorem dX12_codeAt_25 : decode cX12_codeAt 25 = .ok (.getfield 159, 3) := by decide +kernel
theorem dX12_codeAt_28 : decode cX12_codeAt 28 = .ok (.if_icmp .ge 12, 3) := by decide +kernel
theorem dX12_codeAt_31 : decode cX12_codeAt 31 = .ok (.aload_n 0, 1) := by decide +kernel
theorem dX12_codeAt_32 : decode cX12_codeAt 32 = .ok (.getfield 23, 3) := by decide +kernel
theorem dX12_codeAt_35 : decode cX12_codeAt 35 = .ok (.iload_n 1, 1) := by decide +kernel
theorem dX12_codeAt_36 : decode cX12_codeAt 36 = .ok (.iaload, 1) := by decide +kernel
theorem dX12_codeAt_37 : decode cX12_codeAt 37 = .ok (.goto 4, 3) := by decide +kernel
theorem dX12_codeAt_40 : decode cX12_codeAt 40 = .ok (.iconst (-1), 1) := by decide +kernel
theorem dX12_codeAt_41 : decode cX12_codeAt 41 = .ok (.ireturn, 1) := by decide +kernel
theorem dX12_users_0 : decode cX12_users 0 = .ok (.aload_n 0, 1) := by decide +kernel
theorem dX12_users_1 : decode cX12_users 1 = .ok (.iconst 0, 1) := by decide +kernel
theorem dX12_users_2 : decode cX12_users 2 = .ok (.putfield 39, 3) := by decide +kernel
theorem dX12_users_5 : decode cX12_users 5 = .ok (.aload_n 0, 1) := by decide +kernel
theorem dX12_users_6 : decode cX12_users 6 = .ok (.getfield 7, 3) := by decide +kernel
theorem dX12_users_9 : decode cX12_users 9 = .ok (.iconst 0, 1) := by decide +kernel
theorem dX12_users_10 : decode cX12_users 10 = .ok (.iaload, 1) := by decide +kernel
theorem dX12_users_11 : decode cX12_users 11 = .ok (.ireturn, 1) := by decide +kernel
theorem dX12_groups_0 : decode cX12_groups 0 = .ok (.aload_n 0, 1) := by decide +kernel
theorem dX12_groups_1 : decode cX12_groups 1 = .ok (.iconst 0, 1) := by decide +kernel
theorem dX12_groups_2 : decode cX12_groups 2 = .ok (.putfield 39, 3) := by decide +kernel
theorem dX12_groups_5 : decode cX12_groups 5 = .ok (.aload_n 0, 1) := by decide +kernel
theorem dX12_groups_6 : decode cX12_groups 6 = .ok (.getfield 7, 3) := by decide +kernel
theorem dX12_groups_9 : decode cX12_groups 9 = .ok (.iconst 1, 1) := by decide +kernel
theorem dX12_groups_10 : decode cX12_groups 10 = .ok (.iaload, 1) := by decide +kernel
theorem dX12_groups_11 : decode cX12_groups 11 = .ok (.ireturn, 1) := by decide +kernel
theorem dX12_isMember_0 : decode cX12_isMember 0 = .ok (.aload_n 0, 1) := by decide +kernel
theorem dX12_isMember_1 : decode cX12_isMember 1 = .ok (.aload_n 0, 1) := by decide +kernel
theorem dX12_isMember_2 : decode cX12_isMember 2 = .ok (.iload_n 1, 1) := by decide +kernel
theorem dX12_isMember_3 : decode cX12_isMember 3 = .ok (.invokevirtual 82, 3) := by decide +kernel
theorem dX12_isMember_6 : decode cX12_isMember 6 = .ok (.ifCond .eq 15, 3) := by decide +kernel
theorem dX12_isMember_9 : decode cX12_isMember 9 = .ok (.aload_n 0, 1) := by decide +kernel
theorem dX12_isMember_10 : decode cX12_isMember 10 = .ok (.iload_n 2, 1) := by decide +kernel
theorem dX12_isMember_11 : decode cX12_isMember 11 = .ok (.invokevirtual 85, 3) := by decide +kernel
theorem dX12_isMember_14 : decode cX12_isMember 14 = .ok (.ifCond .eq 7, 3) := by decide +kernel
theorem dX12_isMember_17 : decode cX12_isMember 17 = .ok (.iconst 0, 1) := by decide +kernel
theorem dX12_isMember_18 : decode cX12_isMember 18 = .ok (.goto 4, 3) := by decide +kernel
theorem dX12_isMember_21 : decode cX12_isMember 21 = .ok (.iconst 1, 1) := by decide +kernel
theorem dX12_isMember_22 : decode cX12_isMember 22 = .ok (.putfield 39, 3) := by decide +kernel
theorem dX12_isMember_25 : decode cX12_isMember 25 = .ok (.aload_n 0, 1) := by decide +kernel
theorem dX12_isMember_26 : decode cX12_isMember 26 = .ok (.getfield 39, 3) := by decide +kernel
theorem dX12_isMember_29 : decode cX12_isMember 29 = .ok (.ifCond .ne 22, 3) := by decide +kernel
theorem dX12_isMember_32 : decode cX12_isMember 32 = .ok (.aload_n 0, 1) := by decide +kernel
theorem dX12_isMember_33 : decode cX12_isMember 33 = .ok (.getfield 7, 3) := by decide +kernel
theorem dX12_isMember_36 : decode cX12_isMember 36 = .ok (.iconst 2, 1) := by decide +kernel
theorem dX12_isMember_37 : decode cX12_isMember 37 = .ok (.iload_n 2, 1) := by decide +kernel
theorem dX12_isMember_38 : decode cX12_isMember 38 = .ok (.iadd, 1) := by decide +kernel
theorem dX12_isMember_39 : decode cX12_isMember 39 = .ok (.iaload, 1) := by decide +kernel
theorem dX12_isMember_40 : decode cX12_isMember 40 = .ok (.iload_n 1, 1) := by decide +kernel
theorem dX12_isMember_41 : decode cX12_isMember 41 = .ok (.invokestatic 65, 3) := by decide +kernel
theorem dX12_isMember_44 : decode cX12_isMember 44 = .ok (.ifCond .eq 7, 3) := by decide +kernel
theorem dX12_isMember_47 : decode cX12_isMember 47 = .ok (.iconst 1, 1) := by decide +kernel
theorem dX12_isMember_48 : decode cX12_isMember 48 = .ok (.goto 4, 3) := by decide +kernel
theorem dX12_isMember_51 : decode cX12_isMember 51 = .ok (.iconst 0, 1) := by decide +kernel
theorem dX12_isMember_52 : decode cX12_isMember 52 = .ok (.ireturn, 1) := by decide +kernel
theorem dX12_isNested_0 : decode cX12_isNested 0 = .ok (.aload_n 0, 1) := by decide +kernel
theorem dX12_isNested_1 : decode cX12_isNested 1 = .ok (.aload_n 0, 1) := by decide +kernel
theorem dX12_isNested_2 : decode cX12_isNested 2 = .ok (.iload_n 1, 1) := by decide +kernel
theorem dX12_isNested_3 : decode cX12_isNested 3 = .ok (.invokevirtual 85, 3) := by decide +kernel
theorem dX12_isNested_6 : decode cX12_isNested 6 = .ok (.ifCond .eq 15, 3) := by decide +kernel
theorem dX12_isNested_9 : decode cX12_isNested 9 = .ok (.aload_n 0, 1) := by decide +kernel
theorem dX12_isNested_10 : decode cX12_isNested 10 = .ok (.iload_n 2, 1) := by decide +kernel
theorem dX12_isNested_11 : decode cX12_isNested 11 = .ok (.invokevirtual 85, 3) := by decide +kernel
theorem dX12_isNested_14 : decode cX12_isNested 14 = .ok (.ifCond .eq 7, 3) := by decide +kernel
theorem dX12_isNested_17 : decode cX12_isNested 17 = .ok (.iconst 0, 1) := by decide +kernel
theorem dX12_isNested_18 : decode cX12_isNested 18 = .ok (.goto 4, 3) := by decide +kernel
theorem dX12_isNested_21 : decode cX12_isNested 21 = .ok (.iconst 1, 1) := by decide +kernel
theorem dX12_isNested_22 : decode cX12_isNested 22 = .ok (.putfield 39, 3) := by decide +kernel
theorem dX12_isNested_25 : decode cX12_isNested 25 = .ok (.aload_n 0, 1) := by decide +kernel
theorem dX12_isNested_26 : decode cX12_isNested 26 = .ok (.getfield 39, 3) := by decide +kernel
theorem dX12_isNested_29 : decode cX12_isNested 29 = .ok (.ifCond .ne 23, 3) := by decide +kernel
theorem dX12_isNested_32 : decode cX12_isNested 32 = .ok (.aload_n 0, 1) := by decide +kernel
theorem dX12_isNested_33 : decode cX12_isNested 33 = .ok (.getfield 7, 3) := by decide +kernel
theorem dX12_isNested_36 : decode cX12_isNested 36 = .ok (.bipush 10, 2) := by decide +kernel
theorem dX12_isNested_38 : decode cX12_isNested 38 = .ok (.iload_n 1, 1) := by decide +kernel
theorem dX12_isNested_39 : decode cX12_isNested 39 = .ok (.iadd, 1) := by decide +kernel
theorem dX12_isNested_40 : decode cX12_isNested 40 = .ok (.iaload, 1) := by decide +kernel
theorem dX12_isNested_41 : decode cX12_isNested 41 = .ok (.iload_n 2, 1) := by decide +kernel
theorem dX12_isNested_42 : decode cX12_isNested 42 = .ok (.invokestatic 65, 3) := by decide +kernel
theorem dX12_isNested_45 : decode cX12_isNested 45 = .ok (.ifCond .eq 7, 3) := by decide +kernel
theorem dX12_isNested_48 : decode cX12_isNested 48 = .ok (.iconst 1, 1) := by decide +kernel
theorem dX12_isNested_49 : decode cX12_isNested 49 = .ok (.goto 4, 3) := by decide +kernel
theorem dX12_isNested_52 : decode cX12_isNested 52 = .ok (.iconst 0, 1) := by decide +kernel
theorem dX12_isNested_53 : decode cX12_isNested 53 = .ok (.ireturn, 1) := by decide +kernel
theorem dX12_isOfGroup_0 : decode cX12_isOfGroup 0 = .ok (.aload_n 0, 1) := by decide +kernel
theorem dX12_isOfGroup_1 : decode cX12_isOfGroup 1 = .ok (.aload_n 0, 1) := by decide +kernel
theorem dX12_isOfGroup_2 : decode cX12_isOfGroup 2 = .ok (.iload_n 1, 1) := by decide +kernel
theorem dX12_isOfGroup_3 : decode cX12_isOfGroup 3 = .ok (.invokevirtual 82, 3) := by decide +kernel
theorem dX12_isOfGroup_6 : decode cX12_isOfGroup 6 = .ok (.ifCond .eq 15, 3) := by decide +kernel
theorem dX12_isOfGroup_9 : decode cX12_isOfGroup 9 = .ok (.aload_n 0, 1) := by decide +kernel
theorem dX12_isOfGroup_10 : decode cX12_isOfGroup 10 = .ok (.iload_n 2, 1) := by decide +kernel
theorem dX12_isOfGroup_11 : decode cX12_isOfGroup 11 = .ok (.invokevirtual 85, 3) := by decide +kernel
theorem dX12_isOfGroup_14 : decode cX12_isOfGroup 14 = .ok (.ifCond .eq 7, 3) := by decide +kernel
theorem dX12_isOfGroup_17 : decode cX12_isOfGroup 17 = .ok (.iconst 0, 1) := by decide +kernel
theorem dX12_isOfGroup_18 : decode cX12_isOfGroup 18 = .ok (.goto 4, 3) := by decide +kernel
theorem dX12_isOfGroup_21 : decode cX12_isOfGroup 21 = .ok (.iconst 1, 1) := by decide +kernel
theorem dX12_isOfGroup_22 : decode cX12_isOfGroup 22 = .ok (.putfield 39, 3) := by decide +kernel
theorem dX12_isOfGroup_25 : decode cX12_isOfGroup 25 = .ok (.aload_n 0, 1) := by decide +kernel
theorem dX12_isOfGroup_26 : decode cX12_isOfGroup 26 = .ok (.getfield 39, 3) := by decide +kernel
theorem dX12_isOfGroup_29 : decode cX12_isOfGroup 29 = .ok (.ifCond .ne 16, 3) := by decide +kernel
theorem dX12_isOfGroup_32 : decode cX12_isOfGroup 32 = .ok (.aload_n 0, 1) := by decide +kernel
theorem dX12_isOfGroup_33 : decode cX12_isOfGroup 33 = .ok (.iload_n 1, 1) := by decide +kernel
theorem dX12_isOfGroup_34 : decode cX12_isOfGroup 34 = .ok (.iload_n 2, 1) := by decide +kernel
theorem dX12_isOfGroup_35 : decode cX12_isOfGroup 35 = .ok (.invokevirtual 73, 3) := by decide +kernel
theorem dX12_isOfGroup_38 : decode cX12_isOfGroup 38 = .ok (.ifCond .eq 7, 3) := by decide +kernel
theorem dX12_isOfGroup_41 : decode cX12_isOfGroup 41 = .ok (.iconst 1, 1) := by decide +kernel
theorem dX12_isOfGroup_42 : decode cX12_isOfGroup 42 = .ok (.goto 4, 3) := by decide +kernel
theorem dX12_isOfGroup_45 : decode cX12_isOfGroup 45 = .ok (.iconst 0, 1) := by decide +kernel
theorem dX12_isOfGroup_46 : decode cX12_isOfGroup 46 = .ok (.ireturn, 1) := by decide +kernel
theorem dX12_belongs_0 : decode cX12_belongs 0 = .ok (.aload_n 0, 1) := by decide +kernel
theorem dX12_belongs_1 : decode cX12_belongs 1 = .ok (.iload_n 1, 1) := by decide +kernel
theorem dX12_belongs_2 : decode cX12_belongs 2 = .ok (.iload_n 2, 1) := by decide +kernel
theorem dX12_belongs_3 : decode cX12_belongs 3 = .ok (.invokevirtual 209, 3) := by decide +kernel
theorem dX12_belongs_6 : decode cX12_belongs 6 = .ok (.ireturn, 1) := by decide +kernel
theorem dX12_belongsByMembers_0 : decode cX12_belongsByMembers 0 = .ok (.aload_n 0, 1) := by decide +kernel
theorem dX12_belongsByMembers_1 : decode cX12_belongsByMembers 1 = .ok (.iload_n 1, 1) := by decide +kernel
theorem dX12_belongsByMembers_2 : decode cX12_belongsByMembers 2 = .ok (.iload_n 2, 1) := by decide +kernel
theorem dX12_belongsByMembers_3 : decode cX12_belongsByMembers 3 = .ok (.invokevirtual 209, 3) := by decide +kernel
theorem dX12_belongsByMembers_6 : decode cX12_belongsByMembers 6 = .ok (.ireturn, 1) := by decide +kernel
theorem dX12_objects_0 : decode cX12_objects 0 = .ok (.aload_n 0, 1) := by decide +kernel
theorem dX12_objects_1 : decode cX12_objects 1 = .ok (.iconst 0, 1) := by decide +kernel
theorem dX12_objects_2 : decode cX12_objects 2 = .ok (.putfield 39, 3) := by decide +kernel
theorem dX12_objects_5 : decode cX12_objects 5 = .ok (.aload_n 0, 1) := by decide +kernel
theorem dX12_objects_6 : decode cX12_objects 6 = .ok (.invokevirtual 94, 3) := by decide +kernel
theorem dX12_objects_9 : decode cX12_objects 9 = .ok (.ireturn, 1) := by decide +kernel
theorem dX12_isThere_0 : decode cX12_isThere 0 = .ok (.aload_n 0, 1) := by decide +kernel
theorem dX12_isThere_1 : decode cX12_isThere 1 = .ok (.iconst 0, 1) := by decide +kernel
theorem dX12_isThere_2 : decode cX12_isThere 2 = .ok (.putfield 39, 3) := by decide +kernel
theorem dX12_isThere_5 : decode cX12_isThere 5 = .ok (.aload_n 0, 1) := by decide +kernel
theorem dX12_isThere_6 : decode cX12_isThere 6 = .ok (.iload_n 1, 1) := by decide +kernel
theorem dX12_isThere_7 : decode cX12_isThere 7 = .ok (.invokevirtual 57, 3) := by decide +kernel
theorem dX12_isThere_10 : decode cX12_isThere 10 = .ok (.ireturn, 1) := by decide +kernel
theorem dX12_ofObject_0 : decode cX12_ofObject 0 = .ok (.aload_n 0, 1) := by decide +kernel
theorem dX12_ofObject_1 : decode cX12_ofObject 1 = .ok (.aload_n 0, 1) := by decide +kernel
theorem dX12_ofObject_2 : decode cX12_ofObject 2 = .ok (.iload_n 1, 1) := by decide +kernel
theorem dX12_ofObject_3 : decode cX12_ofObject 3 = .ok (.invokevirtual 57, 3) := by decide +kernel
theorem dX12_ofObject_6 : decode cX12_ofObject 6 = .ok (.ifCond .eq 7, 3) := by decide +kernel
theorem dX12_ofObject_9 : decode cX12_ofObject 9 = .ok (.iconst 0, 1) := by decide +kernel
theorem dX12_ofObject_10 : decode cX12_ofObject 10 = .ok (.goto 4, 3) := by decide +kernel
theorem dX12_ofObject_13 : decode cX12_ofObject 13 = .ok (.iconst 1, 1) := by decide +kernel
theorem dX12_ofObject_14 : decode cX12_ofObject 14 = .ok (.putfield 39, 3) := by decide +kernel
theorem dX12_ofObject_17 : decode cX12_ofObject 17 = .ok (.aload_n 0, 1) := by decide +kernel
theorem dX12_ofObject_18 : decode cX12_ofObject 18 = .ok (.getfield 39, 3) := by decide +kernel
theorem dX12_ofObject_21 : decode cX12_ofObject 21 = .ok (.ifCond .ne 12, 3) := by decide +kernel
theorem dX12_ofObject_24 : decode cX12_ofObject 24 = .ok (.aload_n 0, 1) := by decide +kernel
theorem dX12_ofObject_25 : decode cX12_ofObject 25 = .ok (.iload_n 1, 1) := by decide +kernel
theorem dX12_ofObject_26 : decode cX12_ofObject 26 = .ok (.iload_n 2, 1) := by decide +kernel
theorem dX12_ofObject_27 : decode cX12_ofObject 27 = .ok (.invokevirtual 54, 3) := by decide +kernel
theorem dX12_ofObject_30 : decode cX12_ofObject 30 = .ok (.goto 4, 3) := by decide +kernel
theorem dX12_ofObject_33 : decode cX12_ofObject 33 = .ok (.iconst 0, 1) := by decide +kernel
theorem dX12_ofObject_34 : decode cX12_ofObject 34 = .ok (.ireturn, 1) := by decide +kernel
theorem dX12_parentOf_0 : decode cX12_parentOf 0 = .ok (.aload_n 0, 1) := by decide +kernel
theorem dX12_parentOf_1 : decode cX12_parentOf 1 = .ok (.iload_n 1, 1) := by decide +kernel
theorem dX12_parentOf_2 : decode cX12_parentOf 2 = .ok (.iconst 1, 1) := by decide +kernel
theorem dX12_parentOf_3 : decode cX12_parentOf 3 = .ok (.invokevirtual 212, 3) := by decide +kernel
theorem dX12_parentOf_6 : decode cX12_parentOf 6 = .ok (.ireturn, 1) := by decide +kernel
theorem dX12_ownerOf_0 : decode cX12_ownerOf 0 = .ok (.aload_n 0, 1) := by decide +kernel
theorem dX12_ownerOf_1 : decode cX12_ownerOf 1 = .ok (.iload_n 1, 1) := by decide +kernel
theorem dX12_ownerOf_2 : decode cX12_ownerOf 2 = .ok (.iconst 2, 1) := by decide +kernel
theorem dX12_ownerOf_3 : decode cX12_ownerOf 3 = .ok (.invokevirtual 212, 3) := by decide +kernel
theorem dX12_ownerOf_6 : decode cX12_ownerOf 6 = .ok (.ireturn, 1) := by decide +kernel
theorem dX12_maskOf_0 : decode cX12_maskOf 0 = .ok (.aload_n 0, 1) := by decide +kernel
theorem dX12_maskOf_1 : decode cX12_maskOf 1 = .ok (.iload_n 1, 1) := by decide +kernel
theorem dX12_maskOf_2 : decode cX12_maskOf 2 = .ok (.iconst 3, 1) := by decide +kernel
theorem dX12_maskOf_3 : decode cX12_maskOf 3 = .ok (.invokevirtual 212, 3) := by decide +kernel
theorem dX12_maskOf_6 : decode cX12_maskOf 6 = .ok (.ireturn, 1) := by decide +kernel
theorem dX12_isInheriting_0 : decode cX12_isInheriting 0 = .ok (.aload_n 0, 1) := by decide +kernel
theorem dX12_isInheriting_1 : decode cX12_isInheriting 1 = .ok (.iload_n 1, 1) := by decide +kernel
theorem dX12_isInheriting_2 : decode cX12_isInheriting 2 = .ok (.iconst 4, 1) := by decide +kernel
theorem dX12_isInheriting_3 : decode cX12_isInheriting 3 = .ok (.invokevirtual 212, 3) := by decide +kernel
theorem dX12_isInheriting_6 : decode cX12_isInheriting 6 = .ok (.iconst 1, 1) := by decide +kernel
theorem dX12_isInheriting_7 : decode cX12_isInheriting 7 = .ok (.if_icmp .ne 7, 3) := by decide +kernel
theorem dX12_isInheriting_10 : decode cX12_isInheriting 10 = .ok (.iconst 1, 1) := by decide +kernel
theorem dX12_isInheriting_11 : decode cX12_isInheriting 11 = .ok (.goto 4, 3) := by decide +kernel
theorem dX12_isInheriting_14 : decode cX12_isInheriting 14 = .ok (.iconst 0, 1) := by decide +kernel
theorem dX12_isInheriting_15 : decode cX12_isInheriting 15 = .ok (.ireturn, 1) := by decide +kernel
theorem dX12_below_0 : decode cX12_below 0 = .ok (.aload_n 0, 1) := by decide +kernel
theorem dX12_below_1 : decode cX12_below 1 = .ok (.aload_n 0, 1) := by decide +kernel
theorem dX12_below_2 : decode cX12_below 2 = .ok (.iload_n 1, 1) := by decide +kernel
theorem dX12_below_3 : decode cX12_below 3 = .ok (.invokevirtual 57, 3) := by decide +kernel
theorem dX12_below_6 : decode cX12_below 6 = .ok (.ifCond .eq 7, 3) := by decide +kernel
theorem dX12_below_9 : decode cX12_below 9 = .ok (.iconst 0, 1) := by decide +kernel
theorem dX12_below_10 : decode cX12_below 10 = .ok (.goto 4, 3) := by decide +kernel
theorem dX12_below_13 : decode cX12_below 13 = .ok (.iconst 1, 1) := by decide +kernel
theorem dX12_below_14 : decode cX12_below 14 = .ok (.putfield 39, 3) := by decide +kernel
theorem dX12_below_17 : decode cX12_below 17 = .ok (.aload_n 0, 1) := by decide +kernel
theorem dX12_below_18 : decode cX12_below 18 = .ok (.getfield 39, 3) := by decide +kernel
theorem dX12_below_21 : decode cX12_below 21 = .ok (.ifCond .ne 11, 3) := by decide +kernel
theorem dX12_below_24 : decode cX12_below 24 = .ok (.aload_n 0, 1) := by decide +kernel
theorem dX12_below_25 : decode cX12_below 25 = .ok (.iload_n 1, 1) := by decide +kernel
theorem dX12_below_26 : decode cX12_below 26 = .ok (.invokevirtual 98, 3) := by decide +kernel
theorem dX12_below_29 : decode cX12_below 29 = .ok (.goto 4, 3) := by decide +kernel
theorem dX12_below_32 : decode cX12_below 32 = .ok (.iconst 0, 1) := by decide +kernel
theorem dX12_below_33 : decode cX12_below 33 = .ok (.ireturn, 1) := by decide +kernel
theorem dX12_entriesOf_0 : decode cX12_entriesOf 0 = .ok (.aload_n 0, 1) := by decide +kernel
theorem dX12_entriesOf_1 : decode cX12_entriesOf 1 = .ok (.iload_n 1, 1) := by decide +kernel
theorem dX12_entriesOf_2 : decode cX12_entriesOf 2 = .ok (.iconst 5, 1) := by decide +kernel
theorem dX12_entriesOf_3 : decode cX12_entriesOf 3 = .ok (.invokevirtual 212, 3) := by decide +kernel
theorem dX12_entriesOf_6 : decode cX12_entriesOf 6 = .ok (.ireturn, 1) := by decide +kernel
theorem dX12_ofTheEntry_0 : decode cX12_ofTheEntry 0 = .ok (.aload_n 0, 1) := by decide +kernel
theorem dX12_ofTheEntry_1 : decode cX12_ofTheEntry 1 = .ok (.aload_n 0, 1) := by decide +kernel
theorem dX12_ofTheEntry_2 : decode cX12_ofTheEntry 2 = .ok (.iload_n 1, 1) := by decide +kernel
theorem dX12_ofTheEntry_3 : decode cX12_ofTheEntry 3 = .ok (.iload_n 2, 1) := by decide +kernel
theorem dX12_ofTheEntry_4 : decode cX12_ofTheEntry 4 = .ok (.invokevirtual 112, 3) := by decide +kernel
theorem dX12_ofTheEntry_7 : decode cX12_ofTheEntry 7 = .ok (.ifCond .eq 7, 3) := by decide +kernel
theorem dX12_ofTheEntry_10 : decode cX12_ofTheEntry 10 = .ok (.iconst 0, 1) := by decide +kernel
theorem dX12_ofTheEntry_11 : decode cX12_ofTheEntry 11 = .ok (.goto 4, 3) := by decide +kernel
theorem dX12_ofTheEntry_14 : decode cX12_ofTheEntry 14 = .ok (.iconst 1, 1) := by decide +kernel
theorem dX12_ofTheEntry_15 : decode cX12_ofTheEntry 15 = .ok (.putfield 39, 3) := by decide +kernel
theorem dX12_ofTheEntry_18 : decode cX12_ofTheEntry 18 = .ok (.aload_n 0, 1) := by decide +kernel
theorem dX12_ofTheEntry_19 : decode cX12_ofTheEntry 19 = .ok (.getfield 39, 3) := by decide +kernel
theorem dX12_ofTheEntry_22 : decode cX12_ofTheEntry 22 = .ok (.ifCond .ne 13, 3) := by decide +kernel
theorem dX12_ofTheEntry_25 : decode cX12_ofTheEntry 25 = .ok (.aload_n 0, 1) := by decide +kernel
theorem dX12_ofTheEntry_26 : decode cX12_ofTheEntry 26 = .ok (.iload_n 1, 1) := by decide +kernel
theorem dX12_ofTheEntry_27 : decode cX12_ofTheEntry 27 = .ok (.iload_n 2, 1) := by decide +kernel
theorem dX12_ofTheEntry_28 : decode cX12_ofTheEntry 28 = .ok (.iload_n 3, 1) := by decide +kernel
theorem dX12_ofTheEntry_29 : decode cX12_ofTheEntry 29 = .ok (.invokevirtual 122, 3) := by decide +kernel
theorem dX12_ofTheEntry_32 : decode cX12_ofTheEntry 32 = .ok (.goto 4, 3) := by decide +kernel
theorem dX12_ofTheEntry_35 : decode cX12_ofTheEntry 35 = .ok (.iconst 0, 1) := by decide +kernel
theorem dX12_ofTheEntry_36 : decode cX12_ofTheEntry 36 = .ok (.ireturn, 1) := by decide +kernel
theorem dX12_isAllowing_0 : decode cX12_isAllowing 0 = .ok (.aload_n 0, 1) := by decide +kernel
theorem dX12_isAllowing_1 : decode cX12_isAllowing 1 = .ok (.iload_n 1, 1) := by decide +kernel
theorem dX12_isAllowing_2 : decode cX12_isAllowing 2 = .ok (.iload_n 2, 1) := by decide +kernel
theorem dX12_isAllowing_3 : decode cX12_isAllowing 3 = .ok (.iconst 3, 1) := by decide +kernel
theorem dX12_isAllowing_4 : decode cX12_isAllowing 4 = .ok (.invokevirtual 215, 3) := by decide +kernel
theorem dX12_isAllowing_7 : decode cX12_isAllowing 7 = .ok (.iconst 1, 1) := by decide +kernel
theorem dX12_isAllowing_8 : decode cX12_isAllowing 8 = .ok (.if_icmp .ne 7, 3) := by decide +kernel
theorem dX12_isAllowing_11 : decode cX12_isAllowing 11 = .ok (.iconst 1, 1) := by decide +kernel
theorem dX12_isAllowing_12 : decode cX12_isAllowing 12 = .ok (.goto 4, 3) := by decide +kernel
theorem dX12_isAllowing_15 : decode cX12_isAllowing 15 = .ok (.iconst 0, 1) := by decide +kernel
theorem dX12_isAllowing_16 : decode cX12_isAllowing 16 = .ok (.ireturn, 1) := by decide +kernel
theorem dX12_rightsOfEntry_0 : decode cX12_rightsOfEntry 0 = .ok (.aload_n 0, 1) := by decide +kernel
theorem dX12_rightsOfEntry_1 : decode cX12_rightsOfEntry 1 = .ok (.iload_n 1, 1) := by decide +kernel
theorem dX12_rightsOfEntry_2 : decode cX12_rightsOfEntry 2 = .ok (.iload_n 2, 1) := by decide +kernel
theorem dX12_rightsOfEntry_3 : decode cX12_rightsOfEntry 3 = .ok (.iconst 2, 1) := by decide +kernel
theorem dX12_rightsOfEntry_4 : decode cX12_rightsOfEntry 4 = .ok (.invokevirtual 215, 3) := by decide +kernel
theorem dX12_rightsOfEntry_7 : decode cX12_rightsOfEntry 7 = .ok (.ireturn, 1) := by decide +kernel
theorem dX12_whomOf_0 : decode cX12_whomOf 0 = .ok (.aload_n 0, 1) := by decide +kernel
theorem dX12_whomOf_1 : decode cX12_whomOf 1 = .ok (.iload_n 1, 1) := by decide +kernel
theorem dX12_whomOf_2 : decode cX12_whomOf 2 = .ok (.iload_n 2, 1) := by decide +kernel
theorem dX12_whomOf_3 : decode cX12_whomOf 3 = .ok (.iconst 0, 1) := by decide +kernel
theorem dX12_whomOf_4 : decode cX12_whomOf 4 = .ok (.invokevirtual 215, 3) := by decide +kernel
theorem dX12_whomOf_7 : decode cX12_whomOf 7 = .ok (.istore 4, 2) := by decide +kernel
theorem dX12_whomOf_9 : decode cX12_whomOf 9 = .ok (.aload_n 0, 1) := by decide +kernel
theorem dX12_whomOf_10 : decode cX12_whomOf 10 = .ok (.getfield 39, 3) := by decide +kernel
theorem dX12_whomOf_13 : decode cX12_whomOf 13 = .ok (.iconst 1, 1) := by decide +kernel
theorem dX12_whomOf_14 : decode cX12_whomOf 14 = .ok (.if_icmp .ne 7, 3) := by decide +kernel
theorem dX12_whomOf_17 : decode cX12_whomOf 17 = .ok (.iconst 0, 1) := by decide +kernel
theorem dX12_whomOf_18 : decode cX12_whomOf 18 = .ok (.goto 20, 3) := by decide +kernel
theorem dX12_whomOf_21 : decode cX12_whomOf 21 = .ok (.iload 4, 2) := by decide +kernel
theorem dX12_whomOf_23 : decode cX12_whomOf 23 = .ok (.iload_n 3, 1) := by decide +kernel
theorem dX12_whomOf_24 : decode cX12_whomOf 24 = .ok (.if_icmp .ne 13, 3) := by decide +kernel
theorem dX12_whomOf_27 : decode cX12_whomOf 27 = .ok (.aload_n 0, 1) := by decide +kernel
theorem dX12_whomOf_28 : decode cX12_whomOf 28 = .ok (.iload_n 1, 1) := by decide +kernel
theorem dX12_whomOf_29 : decode cX12_whomOf 29 = .ok (.iload_n 2, 1) := by decide +kernel
theorem dX12_whomOf_30 : decode cX12_whomOf 30 = .ok (.iconst 1, 1) := by decide +kernel
theorem dX12_whomOf_31 : decode cX12_whomOf 31 = .ok (.invokevirtual 122, 3) := by decide +kernel
theorem dX12_whomOf_34 : decode cX12_whomOf 34 = .ok (.goto 4, 3) := by decide +kernel
theorem dX12_whomOf_37 : decode cX12_whomOf 37 = .ok (.iconst (-1), 1) := by decide +kernel
theorem dX12_whomOf_38 : decode cX12_whomOf 38 = .ok (.ireturn, 1) := by decide +kernel
theorem dX12_userOfEntry_0 : decode cX12_userOfEntry 0 = .ok (.aload_n 0, 1) := by decide +kernel
theorem dX12_userOfEntry_1 : decode cX12_userOfEntry 1 = .ok (.iload_n 1, 1) := by decide +kernel
theorem dX12_userOfEntry_2 : decode cX12_userOfEntry 2 = .ok (.iload_n 2, 1) := by decide +kernel
theorem dX12_userOfEntry_3 : decode cX12_userOfEntry 3 = .ok (.iconst 0, 1) := by decide +kernel
theorem dX12_userOfEntry_4 : decode cX12_userOfEntry 4 = .ok (.invokevirtual 218, 3) := by decide +kernel
theorem dX12_userOfEntry_7 : decode cX12_userOfEntry 7 = .ok (.ireturn, 1) := by decide +kernel
theorem dX12_groupOfEntry_0 : decode cX12_groupOfEntry 0 = .ok (.aload_n 0, 1) := by decide +kernel
theorem dX12_groupOfEntry_1 : decode cX12_groupOfEntry 1 = .ok (.iload_n 1, 1) := by decide +kernel
theorem dX12_groupOfEntry_2 : decode cX12_groupOfEntry 2 = .ok (.iload_n 2, 1) := by decide +kernel
theorem dX12_groupOfEntry_3 : decode cX12_groupOfEntry 3 = .ok (.iconst 1, 1) := by decide +kernel
theorem dX12_groupOfEntry_4 : decode cX12_groupOfEntry 4 = .ok (.invokevirtual 218, 3) := by decide +kernel
theorem dX12_groupOfEntry_7 : decode cX12_groupOfEntry 7 = .ok (.ireturn, 1) := by decide +kernel
theorem dX12_isForOwner_0 : decode cX12_isForOwner 0 = .ok (.aload_n 0, 1) := by decide +kernel
theorem dX12_isForOwner_1 : decode cX12_isForOwner 1 = .ok (.iload_n 1, 1) := by decide +kernel
theorem dX12_isForOwner_2 : decode cX12_isForOwner 2 = .ok (.iload_n 2, 1) := by decide +kernel
theorem dX12_isForOwner_3 : decode cX12_isForOwner 3 = .ok (.iconst 0, 1) := by decide +kernel
theorem dX12_isForOwner_4 : decode cX12_isForOwner 4 = .ok (.invokevirtual 215, 3) := by decide +kernel
theorem dX12_isForOwner_7 : decode cX12_isForOwner 7 = .ok (.iconst 2, 1) := by decide +kernel
theorem dX12_isForOwner_8 : decode cX12_isForOwner 8 = .ok (.if_icmp .ne 7, 3) := by decide +kernel
theorem dX12_isForOwner_11 : decode cX12_isForOwner 11 = .ok (.iconst 1, 1) := by decide +kernel
theorem dX12_isForOwner_12 : decode cX12_isForOwner 12 = .ok (.goto 4, 3) := by decide +kernel
theorem dX12_isForOwner_15 : decode cX12_isForOwner 15 = .ok (.iconst 0, 1) := by decide +kernel
theorem dX12_isForOwner_16 : decode cX12_isForOwner 16 = .ok (.ireturn, 1) := by decide +kernel
theorem dX12_isForBelow_0 : decode cX12_isForBelow 0 = .ok (.aload_n 0, 1) := by decide +kernel
theorem dX12_isForBelow_1 : decode cX12_isForBelow 1 = .ok (.iload_n 1, 1) := by decide +kernel
theorem dX12_isForBelow_2 : decode cX12_isForBelow 2 = .ok (.iload_n 2, 1) := by decide +kernel
theorem dX12_isForBelow_3 : decode cX12_isForBelow 3 = .ok (.iconst 4, 1) := by decide +kernel
theorem dX12_isForBelow_4 : decode cX12_isForBelow 4 = .ok (.invokevirtual 215, 3) := by decide +kernel
theorem dX12_isForBelow_7 : decode cX12_isForBelow 7 = .ok (.iconst 1, 1) := by decide +kernel
theorem dX12_isForBelow_8 : decode cX12_isForBelow 8 = .ok (.if_icmp .ne 7, 3) := by decide +kernel
theorem dX12_isForBelow_11 : decode cX12_isForBelow 11 = .ok (.iconst 1, 1) := by decide +kernel
theorem dX12_isForBelow_12 : decode cX12_isForBelow 12 = .ok (.goto 4, 3) := by decide +kernel
theorem dX12_isForBelow_15 : decode cX12_isForBelow 15 = .ok (.iconst 0, 1) := by decide +kernel
theorem dX12_isForBelow_16 : decode cX12_isForBelow 16 = .ok (.ireturn, 1) := by decide +kernel
theorem dX12_isQuestion_0 : decode cX12_isQuestion 0 = .ok (.aload_n 0, 1) := by decide +kernel
theorem dX12_isQuestion_1 : decode cX12_isQuestion 1 = .ok (.aload_n 0, 1) := by decide +kernel
theorem dX12_isQuestion_2 : decode cX12_isQuestion 2 = .ok (.iload_n 1, 1) := by decide +kernel
theorem dX12_isQuestion_3 : decode cX12_isQuestion 3 = .ok (.invokevirtual 82, 3) := by decide +kernel
theorem dX12_isQuestion_6 : decode cX12_isQuestion 6 = .ok (.ifCond .eq 11, 3) := by decide +kernel
theorem dX12_isQuestion_9 : decode cX12_isQuestion 9 = .ok (.aload_n 0, 1) := by decide +kernel
theorem dX12_isQuestion_10 : decode cX12_isQuestion 10 = .ok (.iload_n 2, 1) := by decide +kernel
theorem dX12_isQuestion_11 : decode cX12_isQuestion 11 = .ok (.invokevirtual 57, 3) := by decide +kernel
theorem dX12_isQuestion_14 : decode cX12_isQuestion 14 = .ok (.ifCond .ne 7, 3) := by decide +kernel
theorem dX12_isQuestion_17 : decode cX12_isQuestion 17 = .ok (.iconst 1, 1) := by decide +kernel
theorem dX12_isQuestion_18 : decode cX12_isQuestion 18 = .ok (.goto 15, 3) := by decide +kernel
theorem dX12_isQuestion_21 : decode cX12_isQuestion 21 = .ok (.iload_n 3, 1) := by decide +kernel
theorem dX12_isQuestion_22 : decode cX12_isQuestion 22 = .ok (.invokestatic 156, 3) := by decide +kernel
theorem dX12_isQuestion_25 : decode cX12_isQuestion 25 = .ok (.ifCond .eq 7, 3) := by decide +kernel
theorem dX12_isQuestion_28 : decode cX12_isQuestion 28 = .ok (.iconst 0, 1) := by decide +kernel
theorem dX12_isQuestion_29 : decode cX12_isQuestion 29 = .ok (.goto 4, 3) := by decide +kernel
theorem dX12_isQuestion_32 : decode cX12_isQuestion 32 = .ok (.iconst 2, 1) := by decide +kernel
theorem dX12_isQuestion_33 : decode cX12_isQuestion 33 = .ok (.putfield 39, 3) := by decide +kernel
theorem dX12_isQuestion_36 : decode cX12_isQuestion 36 = .ok (.aload_n 0, 1) := by decide +kernel
theorem dX12_isQuestion_37 : decode cX12_isQuestion 37 = .ok (.getfield 39, 3) := by decide +kernel
theorem dX12_isQuestion_40 : decode cX12_isQuestion 40 = .ok (.ifCond .ne 7, 3) := by decide +kernel
theorem dX12_isQuestion_43 : decode cX12_isQuestion 43 = .ok (.iconst 1, 1) := by decide +kernel
theorem dX12_isQuestion_44 : decode cX12_isQuestion 44 = .ok (.goto 4, 3) := by decide +kernel
theorem dX12_isQuestion_47 : decode cX12_isQuestion 47 = .ok (.iconst 0, 1) := by decide +kernel
theorem dX12_isQuestion_48 : decode cX12_isQuestion 48 = .ok (.ireturn, 1) := by decide +kernel
theorem dX12_isAllowed_0 : decode cX12_isAllowed 0 = .ok (.aload_n 0, 1) := by decide +kernel
theorem dX12_isAllowed_1 : decode cX12_isAllowed 1 = .ok (.iload_n 1, 1) := by decide +kernel
theorem dX12_isAllowed_2 : decode cX12_isAllowed 2 = .ok (.iload_n 2, 1) := by decide +kernel
theorem dX12_isAllowed_3 : decode cX12_isAllowed 3 = .ok (.iload_n 3, 1) := by decide +kernel
theorem dX12_isAllowed_4 : decode cX12_isAllowed 4 = .ok (.invokevirtual 221, 3) := by decide +kernel
theorem dX12_isAllowed_7 : decode cX12_isAllowed 7 = .ok (.ifCond .eq 17, 3) := by decide +kernel
theorem dX12_isAllowed_10 : decode cX12_isAllowed 10 = .ok (.aload_n 0, 1) := by decide +kernel
theorem dX12_isAllowed_11 : decode cX12_isAllowed 11 = .ok (.iload_n 1, 1) := by decide +kernel
theorem dX12_isAllowed_12 : decode cX12_isAllowed 12 = .ok (.iload_n 2, 1) := by decide +kernel
theorem dX12_isAllowed_13 : decode cX12_isAllowed 13 = .ok (.iload_n 3, 1) := by decide +kernel
theorem dX12_isAllowed_14 : decode cX12_isAllowed 14 = .ok (.invokevirtual 150, 3) := by decide +kernel
theorem dX12_isAllowed_17 : decode cX12_isAllowed 17 = .ok (.ifCond .eq 7, 3) := by decide +kernel
theorem dX12_isAllowed_20 : decode cX12_isAllowed 20 = .ok (.iconst 1, 1) := by decide +kernel
theorem dX12_isAllowed_21 : decode cX12_isAllowed 21 = .ok (.goto 4, 3) := by decide +kernel
theorem dX12_isAllowed_24 : decode cX12_isAllowed 24 = .ok (.iconst 0, 1) := by decide +kernel
theorem dX12_isAllowed_25 : decode cX12_isAllowed 25 = .ok (.ireturn, 1) := by decide +kernel
theorem dX12_isAllowedByHandingDown_0 : decode cX12_isAllowedByHandingDown 0 = .ok (.aload_n 0, 1) := by decide +kernel
theorem dX12_isAllowedByHandingDown_1 : decode cX12_isAllowedByHandingDown 1 = .ok (.iload_n 1, 1) := by decide +kernel
theorem dX12_isAllowedByHandingDown_2 : decode cX12_isAllowedByHandingDown 2 = .ok (.iload_n 2, 1) := by decide +kernel
theorem dX12_isAllowedByHandingDown_3 : decode cX12_isAllowedByHandingDown 3 = .ok (.iload_n 3, 1) := by decide +kernel
theorem dX12_isAllowedByHandingDown_4 : decode cX12_isAllowedByHandingDown 4 = .ok (.invokevirtual 221, 3) := by decide +kernel
theorem dX12_isAllowedByHandingDown_7 : decode cX12_isAllowedByHandingDown 7 = .ok (.ifCond .eq 17, 3) := by decide +kernel
theorem dX12_isAllowedByHandingDown_10 : decode cX12_isAllowedByHandingDown 10 = .ok (.aload_n 0, 1) := by decide +kernel
theorem dX12_isAllowedByHandingDown_11 : decode cX12_isAllowedByHandingDown 11 = .ok (.iload_n 1, 1) := by decide +kernel
theorem dX12_isAllowedByHandingDown_12 : decode cX12_isAllowedByHandingDown 12 = .ok (.iload_n 2, 1) := by decide +kernel
theorem dX12_isAllowedByHandingDown_13 : decode cX12_isAllowedByHandingDown 13 = .ok (.iload_n 3, 1) := by decide +kernel
theorem dX12_isAllowedByHandingDown_14 : decode cX12_isAllowedByHandingDown 14 = .ok (.invokevirtual 150, 3) := by decide +kernel
theorem dX12_isAllowedByHandingDown_17 : decode cX12_isAllowedByHandingDown 17 = .ok (.ifCond .eq 7, 3) := by decide +kernel
theorem dX12_isAllowedByHandingDown_20 : decode cX12_isAllowedByHandingDown 20 = .ok (.iconst 1, 1) := by decide +kernel
theorem dX12_isAllowedByHandingDown_21 : decode cX12_isAllowedByHandingDown 21 = .ok (.goto 4, 3) := by decide +kernel
theorem dX12_isAllowedByHandingDown_24 : decode cX12_isAllowedByHandingDown 24 = .ok (.iconst 0, 1) := by decide +kernel
theorem dX12_isAllowedByHandingDown_25 : decode cX12_isAllowedByHandingDown 25 = .ok (.ireturn, 1) := by decide +kernel
theorem dX12_rightsOf_0 : decode cX12_rightsOf 0 = .ok (.aload_n 0, 1) := by decide +kernel
theorem dX12_rightsOf_1 : decode cX12_rightsOf 1 = .ok (.aload_n 0, 1) := by decide +kernel
theorem dX12_rightsOf_2 : decode cX12_rightsOf 2 = .ok (.iload_n 1, 1) := by decide +kernel
theorem dX12_rightsOf_3 : decode cX12_rightsOf 3 = .ok (.invokevirtual 82, 3) := by decide +kernel
theorem dX12_rightsOf_6 : decode cX12_rightsOf 6 = .ok (.ifCond .eq 15, 3) := by decide +kernel
theorem dX12_rightsOf_9 : decode cX12_rightsOf 9 = .ok (.aload_n 0, 1) := by decide +kernel
theorem dX12_rightsOf_10 : decode cX12_rightsOf 10 = .ok (.iload_n 2, 1) := by decide +kernel
theorem dX12_rightsOf_11 : decode cX12_rightsOf 11 = .ok (.invokevirtual 57, 3) := by decide +kernel
theorem dX12_rightsOf_14 : decode cX12_rightsOf 14 = .ok (.ifCond .eq 7, 3) := by decide +kernel
theorem dX12_rightsOf_17 : decode cX12_rightsOf 17 = .ok (.iconst 0, 1) := by decide +kernel
theorem dX12_rightsOf_18 : decode cX12_rightsOf 18 = .ok (.goto 4, 3) := by decide +kernel
theorem dX12_rightsOf_21 : decode cX12_rightsOf 21 = .ok (.iconst 1, 1) := by decide +kernel
theorem dX12_rightsOf_22 : decode cX12_rightsOf 22 = .ok (.putfield 39, 3) := by decide +kernel
theorem dX12_rightsOf_25 : decode cX12_rightsOf 25 = .ok (.aload_n 0, 1) := by decide +kernel
theorem dX12_rightsOf_26 : decode cX12_rightsOf 26 = .ok (.getfield 39, 3) := by decide +kernel
theorem dX12_rightsOf_29 : decode cX12_rightsOf 29 = .ok (.ifCond .ne 12, 3) := by decide +kernel
theorem dX12_rightsOf_32 : decode cX12_rightsOf 32 = .ok (.aload_n 0, 1) := by decide +kernel
theorem dX12_rightsOf_33 : decode cX12_rightsOf 33 = .ok (.iload_n 1, 1) := by decide +kernel
theorem dX12_rightsOf_34 : decode cX12_rightsOf 34 = .ok (.iload_n 2, 1) := by decide +kernel
theorem dX12_rightsOf_35 : decode cX12_rightsOf 35 = .ok (.invokevirtual 119, 3) := by decide +kernel
theorem dX12_rightsOf_38 : decode cX12_rightsOf 38 = .ok (.goto 4, 3) := by decide +kernel
theorem dX12_rightsOf_41 : decode cX12_rightsOf 41 = .ok (.iconst 0, 1) := by decide +kernel
theorem dX12_rightsOf_42 : decode cX12_rightsOf 42 = .ok (.ireturn, 1) := by decide +kernel
theorem dX12_decidingObject_0 : decode cX12_decidingObject 0 = .ok (.aload_n 0, 1) := by decide +kernel
theorem dX12_decidingObject_1 : decode cX12_decidingObject 1 = .ok (.iload_n 1, 1) := by decide +kernel
theorem dX12_decidingObject_2 : decode cX12_decidingObject 2 = .ok (.iload_n 2, 1) := by decide +kernel
theorem dX12_decidingObject_3 : decode cX12_decidingObject 3 = .ok (.iload_n 3, 1) := by decide +kernel
theorem dX12_decidingObject_4 : decode cX12_decidingObject 4 = .ok (.invokevirtual 221, 3) := by decide +kernel
theorem dX12_decidingObject_7 : decode cX12_decidingObject 7 = .ok (.ifCond .eq 13, 3) := by decide +kernel
theorem dX12_decidingObject_10 : decode cX12_decidingObject 10 = .ok (.aload_n 0, 1) := by decide +kernel
theorem dX12_decidingObject_11 : decode cX12_decidingObject 11 = .ok (.iload_n 1, 1) := by decide +kernel
theorem dX12_decidingObject_12 : decode cX12_decidingObject 12 = .ok (.iload_n 2, 1) := by decide +kernel
theorem dX12_decidingObject_13 : decode cX12_decidingObject 13 = .ok (.iload_n 3, 1) := by decide +kernel
theorem dX12_decidingObject_14 : decode cX12_decidingObject 14 = .ok (.invokevirtual 144, 3) := by decide +kernel
theorem dX12_decidingObject_17 : decode cX12_decidingObject 17 = .ok (.goto 4, 3) := by decide +kernel
theorem dX12_decidingObject_20 : decode cX12_decidingObject 20 = .ok (.iconst 0, 1) := by decide +kernel
theorem dX12_decidingObject_21 : decode cX12_decidingObject 21 = .ok (.istore 4, 2) := by decide +kernel
theorem dX12_decidingObject_23 : decode cX12_decidingObject 23 = .ok (.aload_n 0, 1) := by decide +kernel
theorem dX12_decidingObject_24 : decode cX12_decidingObject 24 = .ok (.getfield 39, 3) := by decide +kernel
theorem dX12_decidingObject_27 : decode cX12_decidingObject 27 = .ok (.ifCond .le 7, 3) := by decide +kernel
theorem dX12_decidingObject_30 : decode cX12_decidingObject 30 = .ok (.iconst 0, 1) := by decide +kernel
theorem dX12_decidingObject_31 : decode cX12_decidingObject 31 = .ok (.goto 17, 3) := by decide +kernel
theorem dX12_decidingObject_34 : decode cX12_decidingObject 34 = .ok (.iload 4, 2) := by decide +kernel
theorem dX12_decidingObject_36 : decode cX12_decidingObject 36 = .ok (.ifCond .ge 7, 3) := by decide +kernel
theorem dX12_decidingObject_39 : decode cX12_decidingObject 39 = .ok (.iconst (-1), 1) := by decide +kernel
theorem dX12_decidingObject_40 : decode cX12_decidingObject 40 = .ok (.goto 8, 3) := by decide +kernel
theorem dX12_decidingObject_43 : decode cX12_decidingObject 43 = .ok (.iload 4, 2) := by decide +kernel
theorem dX12_decidingObject_45 : decode cX12_decidingObject 45 = .ok (.bipush 6, 2) := by decide +kernel
theorem dX12_decidingObject_47 : decode cX12_decidingObject 47 = .ok (.idiv, 1) := by decide +kernel
theorem dX12_decidingObject_48 : decode cX12_decidingObject 48 = .ok (.ireturn, 1) := by decide +kernel
theorem dX12_decidingEntry_0 : decode cX12_decidingEntry 0 = .ok (.aload_n 0, 1) := by decide +kernel
theorem dX12_decidingEntry_1 : decode cX12_decidingEntry 1 = .ok (.iload_n 1, 1) := by decide +kernel
theorem dX12_decidingEntry_2 : decode cX12_decidingEntry 2 = .ok (.iload_n 2, 1) := by decide +kernel
theorem dX12_decidingEntry_3 : decode cX12_decidingEntry 3 = .ok (.iload_n 3, 1) := by decide +kernel
theorem dX12_decidingEntry_4 : decode cX12_decidingEntry 4 = .ok (.invokevirtual 221, 3) := by decide +kernel
theorem dX12_decidingEntry_7 : decode cX12_decidingEntry 7 = .ok (.ifCond .eq 13, 3) := by decide +kernel
theorem dX12_decidingEntry_10 : decode cX12_decidingEntry 10 = .ok (.aload_n 0, 1) := by decide +kernel
theorem dX12_decidingEntry_11 : decode cX12_decidingEntry 11 = .ok (.iload_n 1, 1) := by decide +kernel
theorem dX12_decidingEntry_12 : decode cX12_decidingEntry 12 = .ok (.iload_n 2, 1) := by decide +kernel
theorem dX12_decidingEntry_13 : decode cX12_decidingEntry 13 = .ok (.iload_n 3, 1) := by decide +kernel
theorem dX12_decidingEntry_14 : decode cX12_decidingEntry 14 = .ok (.invokevirtual 144, 3) := by decide +kernel
theorem dX12_decidingEntry_17 : decode cX12_decidingEntry 17 = .ok (.goto 4, 3) := by decide +kernel
theorem dX12_decidingEntry_20 : decode cX12_decidingEntry 20 = .ok (.iconst 0, 1) := by decide +kernel
theorem dX12_decidingEntry_21 : decode cX12_decidingEntry 21 = .ok (.istore 4, 2) := by decide +kernel
theorem dX12_decidingEntry_23 : decode cX12_decidingEntry 23 = .ok (.aload_n 0, 1) := by decide +kernel
theorem dX12_decidingEntry_24 : decode cX12_decidingEntry 24 = .ok (.getfield 39, 3) := by decide +kernel
theorem dX12_decidingEntry_27 : decode cX12_decidingEntry 27 = .ok (.ifCond .le 7, 3) := by decide +kernel
theorem dX12_decidingEntry_30 : decode cX12_decidingEntry 30 = .ok (.iconst 0, 1) := by decide +kernel
theorem dX12_decidingEntry_31 : decode cX12_decidingEntry 31 = .ok (.goto 17, 3) := by decide +kernel
theorem dX12_decidingEntry_34 : decode cX12_decidingEntry 34 = .ok (.iload 4, 2) := by decide +kernel
theorem dX12_decidingEntry_36 : decode cX12_decidingEntry 36 = .ok (.ifCond .ge 7, 3) := by decide +kernel
theorem dX12_decidingEntry_39 : decode cX12_decidingEntry 39 = .ok (.iconst (-1), 1) := by decide +kernel
theorem dX12_decidingEntry_40 : decode cX12_decidingEntry 40 = .ok (.goto 8, 3) := by decide +kernel
theorem dX12_decidingEntry_43 : decode cX12_decidingEntry 43 = .ok (.iload 4, 2) := by decide +kernel
theorem dX12_decidingEntry_45 : decode cX12_decidingEntry 45 = .ok (.bipush 6, 2) := by decide +kernel
theorem dX12_decidingEntry_47 : decode cX12_decidingEntry 47 = .ok (.irem, 1) := by decide +kernel
theorem dX12_decidingEntry_48 : decode cX12_decidingEntry 48 = .ok (.ireturn, 1) := by decide +kernel
theorem dX12_isStoppedByMask_0 : decode cX12_isStoppedByMask 0 = .ok (.aload_n 0, 1) := by decide +kernel
theorem dX12_isStoppedByMask_1 : decode cX12_isStoppedByMask 1 = .ok (.iload_n 1, 1) := by decide +kernel
theorem dX12_isStoppedByMask_2 : decode cX12_isStoppedByMask 2 = .ok (.iload_n 2, 1) := by decide +kernel
theorem dX12_isStoppedByMask_3 : decode cX12_isStoppedByMask 3 = .ok (.iload_n 3, 1) := by decide +kernel
theorem dX12_isStoppedByMask_4 : decode cX12_isStoppedByMask 4 = .ok (.invokevirtual 221, 3) := by decide +kernel
theorem dX12_isStoppedByMask_7 : decode cX12_isStoppedByMask 7 = .ok (.ifCond .eq 27, 3) := by decide +kernel
theorem dX12_isStoppedByMask_10 : decode cX12_isStoppedByMask 10 = .ok (.aload_n 0, 1) := by decide +kernel
theorem dX12_isStoppedByMask_11 : decode cX12_isStoppedByMask 11 = .ok (.iload_n 1, 1) := by decide +kernel
theorem dX12_isStoppedByMask_12 : decode cX12_isStoppedByMask 12 = .ok (.iload_n 2, 1) := by decide +kernel
theorem dX12_isStoppedByMask_13 : decode cX12_isStoppedByMask 13 = .ok (.iload_n 3, 1) := by decide +kernel
theorem dX12_isStoppedByMask_14 : decode cX12_isStoppedByMask 14 = .ok (.invokevirtual 150, 3) := by decide +kernel
theorem dX12_isStoppedByMask_17 : decode cX12_isStoppedByMask 17 = .ok (.ifCond .ne 17, 3) := by decide +kernel
theorem dX12_isStoppedByMask_20 : decode cX12_isStoppedByMask 20 = .ok (.aload_n 0, 1) := by decide +kernel
theorem dX12_isStoppedByMask_21 : decode cX12_isStoppedByMask 21 = .ok (.iload_n 1, 1) := by decide +kernel
theorem dX12_isStoppedByMask_22 : decode cX12_isStoppedByMask 22 = .ok (.iload_n 2, 1) := by decide +kernel
theorem dX12_isStoppedByMask_23 : decode cX12_isStoppedByMask 23 = .ok (.iload_n 3, 1) := by decide +kernel
theorem dX12_isStoppedByMask_24 : decode cX12_isStoppedByMask 24 = .ok (.invokevirtual 147, 3) := by decide +kernel
theorem dX12_isStoppedByMask_27 : decode cX12_isStoppedByMask 27 = .ok (.ifCond .eq 7, 3) := by decide +kernel
theorem dX12_isStoppedByMask_30 : decode cX12_isStoppedByMask 30 = .ok (.iconst 1, 1) := by decide +kernel
theorem dX12_isStoppedByMask_31 : decode cX12_isStoppedByMask 31 = .ok (.goto 4, 3) := by decide +kernel
theorem dX12_isStoppedByMask_34 : decode cX12_isStoppedByMask 34 = .ok (.iconst 0, 1) := by decide +kernel
theorem dX12_isStoppedByMask_35 : decode cX12_isStoppedByMask 35 = .ok (.ireturn, 1) := by decide +kernel
theorem dX12_usersWith_0 : decode cX12_usersWith 0 = .ok (.aload_n 0, 1) := by decide +kernel
theorem dX12_usersWith_1 : decode cX12_usersWith 1 = .ok (.aload_n 0, 1) := by decide +kernel
theorem dX12_usersWith_2 : decode cX12_usersWith 2 = .ok (.iload_n 1, 1) := by decide +kernel
theorem dX12_usersWith_3 : decode cX12_usersWith 3 = .ok (.invokevirtual 57, 3) := by decide +kernel
theorem dX12_usersWith_6 : decode cX12_usersWith 6 = .ok (.ifCond .ne 7, 3) := by decide +kernel
theorem dX12_usersWith_9 : decode cX12_usersWith 9 = .ok (.iconst 1, 1) := by decide +kernel
theorem dX12_usersWith_10 : decode cX12_usersWith 10 = .ok (.goto 15, 3) := by decide +kernel
theorem dX12_usersWith_13 : decode cX12_usersWith 13 = .ok (.iload_n 2, 1) := by decide +kernel
theorem dX12_usersWith_14 : decode cX12_usersWith 14 = .ok (.invokestatic 156, 3) := by decide +kernel
theorem dX12_usersWith_17 : decode cX12_usersWith 17 = .ok (.ifCond .eq 7, 3) := by decide +kernel
theorem dX12_usersWith_20 : decode cX12_usersWith 20 = .ok (.iconst 0, 1) := by decide +kernel
theorem dX12_usersWith_21 : decode cX12_usersWith 21 = .ok (.goto 4, 3) := by decide +kernel
theorem dX12_usersWith_24 : decode cX12_usersWith 24 = .ok (.iconst 2, 1) := by decide +kernel
theorem dX12_usersWith_25 : decode cX12_usersWith 25 = .ok (.putfield 39, 3) := by decide +kernel
theorem dX12_usersWith_28 : decode cX12_usersWith 28 = .ok (.iconst 0, 1) := by decide +kernel
theorem dX12_usersWith_29 : decode cX12_usersWith 29 = .ok (.istore_n 3, 1) := by decide +kernel
theorem dX12_usersWith_30 : decode cX12_usersWith 30 = .ok (.iconst 0, 1) := by decide +kernel
theorem dX12_usersWith_31 : decode cX12_usersWith 31 = .ok (.istore 4, 2) := by decide +kernel
theorem dX12_usersWith_33 : decode cX12_usersWith 33 = .ok (.iload 4, 2) := by decide +kernel
theorem dX12_usersWith_35 : decode cX12_usersWith 35 = .ok (.aload_n 0, 1) := by decide +kernel
theorem dX12_usersWith_36 : decode cX12_usersWith 36 = .ok (.getfield 7, 3) := by decide +kernel
theorem dX12_usersWith_39 : decode cX12_usersWith 39 = .ok (.iconst 0, 1) := by decide +kernel
theorem dX12_usersWith_40 : decode cX12_usersWith 40 = .ok (.iaload, 1) := by decide +kernel
theorem dX12_usersWith_41 : decode cX12_usersWith 41 = .ok (.if_icmp .ge 35, 3) := by decide +kernel
theorem dX12_usersWith_44 : decode cX12_usersWith 44 = .ok (.aload_n 0, 1) := by decide +kernel
theorem dX12_usersWith_45 : decode cX12_usersWith 45 = .ok (.getfield 39, 3) := by decide +kernel
theorem dX12_usersWith_48 : decode cX12_usersWith 48 = .ok (.ifCond .ne 28, 3) := by decide +kernel
theorem dX12_usersWith_51 : decode cX12_usersWith 51 = .ok (.iload_n 3, 1) := by decide +kernel
theorem dX12_usersWith_52 : decode cX12_usersWith 52 = .ok (.aload_n 0, 1) := by decide +kernel
theorem dX12_usersWith_53 : decode cX12_usersWith 53 = .ok (.iload 4, 2) := by decide +kernel
theorem dX12_usersWith_55 : decode cX12_usersWith 55 = .ok (.iload_n 1, 1) := by decide +kernel
theorem dX12_usersWith_56 : decode cX12_usersWith 56 = .ok (.iload_n 2, 1) := by decide +kernel
theorem dX12_usersWith_57 : decode cX12_usersWith 57 = .ok (.invokevirtual 150, 3) := by decide +kernel
theorem dX12_usersWith_60 : decode cX12_usersWith 60 = .ok (.ifCond .eq 7, 3) := by decide +kernel
theorem dX12_usersWith_63 : decode cX12_usersWith 63 = .ok (.iconst 1, 1) := by decide +kernel
theorem dX12_usersWith_64 : decode cX12_usersWith 64 = .ok (.goto 4, 3) := by decide +kernel
theorem dX12_usersWith_67 : decode cX12_usersWith 67 = .ok (.iconst 0, 1) := by decide +kernel
theorem dX12_usersWith_68 : decode cX12_usersWith 68 = .ok (.iadd, 1) := by decide +kernel
theorem dX12_usersWith_69 : decode cX12_usersWith 69 = .ok (.istore_n 3, 1) := by decide +kernel
theorem dX12_usersWith_70 : decode cX12_usersWith 70 = .ok (.iinc 4 1, 3) := by decide +kernel
theorem dX12_usersWith_73 : decode cX12_usersWith 73 = .ok (.goto (-40), 3) := by decide +kernel
theorem dX12_usersWith_76 : decode cX12_usersWith 76 = .ok (.iload_n 3, 1) := by decide +kernel
theorem dX12_usersWith_77 : decode cX12_usersWith 77 = .ok (.ireturn, 1) := by decide +kernel
theorem dX12_isThrough_0 : decode cX12_isThrough 0 = .ok (.aload_n 0, 1) := by decide +kernel
theorem dX12_isThrough_1 : decode cX12_isThrough 1 = .ok (.iload_n 1, 1) := by decide +kernel
theorem dX12_isThrough_2 : decode cX12_isThrough 2 = .ok (.iload_n 2, 1) := by decide +kernel
theorem dX12_isThrough_3 : decode cX12_isThrough 3 = .ok (.iload_n 3, 1) := by decide +kernel
theorem dX12_isThrough_4 : decode cX12_isThrough 4 = .ok (.invokevirtual 150, 3) := by decide +kernel
theorem dX12_isThrough_7 : decode cX12_isThrough 7 = .ok (.ifCond .eq 13, 3) := by decide +kernel
theorem dX12_isThrough_10 : decode cX12_isThrough 10 = .ok (.aload_n 0, 1) := by decide +kernel
theorem dX12_isThrough_11 : decode cX12_isThrough 11 = .ok (.iload_n 1, 1) := by decide +kernel
theorem dX12_isThrough_12 : decode cX12_isThrough 12 = .ok (.iload_n 2, 1) := by decide +kernel
theorem dX12_isThrough_13 : decode cX12_isThrough 13 = .ok (.iload_n 3, 1) := by decide +kernel
theorem dX12_isThrough_14 : decode cX12_isThrough 14 = .ok (.invokevirtual 144, 3) := by decide +kernel
theorem dX12_isThrough_17 : decode cX12_isThrough 17 = .ok (.goto 4, 3) := by decide +kernel
theorem dX12_isThrough_20 : decode cX12_isThrough 20 = .ok (.iconst (-1), 1) := by decide +kernel
theorem dX12_isThrough_21 : decode cX12_isThrough 21 = .ok (.istore 5, 2) := by decide +kernel
theorem dX12_isThrough_23 : decode cX12_isThrough 23 = .ok (.iload 5, 2) := by decide +kernel
theorem dX12_isThrough_25 : decode cX12_isThrough 25 = .ok (.ifCond .ge 5, 3) := by decide +kernel
theorem dX12_isThrough_28 : decode cX12_isThrough 28 = .ok (.iconst 0, 1) := by decide +kernel
theorem dX12_isThrough_29 : decode cX12_isThrough 29 = .ok (.ireturn, 1) := by decide +kernel
theorem dX12_isThrough_30 : decode cX12_isThrough 30 = .ok (.iload 5, 2) := by decide +kernel
theorem dX12_isThrough_32 : decode cX12_isThrough 32 = .ok (.bipush 6, 2) := by decide +kernel
theorem dX12_isThrough_34 : decode cX12_isThrough 34 = .ok (.idiv, 1) := by decide +kernel
theorem dX12_isThrough_35 : decode cX12_isThrough 35 = .ok (.istore 6, 2) := by decide +kernel
theorem dX12_isThrough_37 : decode cX12_isThrough 37 = .ok (.iload 5, 2) := by decide +kernel
theorem dX12_isThrough_39 : decode cX12_isThrough 39 = .ok (.bipush 6, 2) := by decide +kernel
theorem dX12_isThrough_41 : decode cX12_isThrough 41 = .ok (.irem, 1) := by decide +kernel
theorem dX12_isThrough_42 : decode cX12_isThrough 42 = .ok (.istore 7, 2) := by decide +kernel
theorem dX12_isThrough_44 : decode cX12_isThrough 44 = .ok (.aload_n 0, 1) := by decide +kernel
theorem dX12_isThrough_45 : decode cX12_isThrough 45 = .ok (.iload 6, 2) := by decide +kernel
theorem dX12_isThrough_47 : decode cX12_isThrough 47 = .ok (.iload 7, 2) := by decide +kernel
theorem dX12_isThrough_49 : decode cX12_isThrough 49 = .ok (.iconst 3, 1) := by decide +kernel
theorem dX12_isThrough_50 : decode cX12_isThrough 50 = .ok (.invokevirtual 122, 3) := by decide +kernel
theorem dX12_isThrough_53 : decode cX12_isThrough 53 = .ok (.iconst 1, 1) := by decide +kernel
theorem dX12_isThrough_54 : decode cX12_isThrough 54 = .ok (.if_icmp .ne 34, 3) := by decide +kernel
theorem dX12_isThrough_57 : decode cX12_isThrough 57 = .ok (.aload_n 0, 1) := by decide +kernel
theorem dX12_isThrough_58 : decode cX12_isThrough 58 = .ok (.iload 6, 2) := by decide +kernel
theorem dX12_isThrough_60 : decode cX12_isThrough 60 = .ok (.iload 7, 2) := by decide +kernel
theorem dX12_isThrough_62 : decode cX12_isThrough 62 = .ok (.iconst 0, 1) := by decide +kernel
theorem dX12_isThrough_63 : decode cX12_isThrough 63 = .ok (.invokevirtual 122, 3) := by decide +kernel
theorem dX12_isThrough_66 : decode cX12_isThrough 66 = .ok (.iconst 1, 1) := by decide +kernel
theorem dX12_isThrough_67 : decode cX12_isThrough 67 = .ok (.if_icmp .ne 21, 3) := by decide +kernel
theorem dX12_isThrough_70 : decode cX12_isThrough 70 = .ok (.aload_n 0, 1) := by decide +kernel
theorem dX12_isThrough_71 : decode cX12_isThrough 71 = .ok (.iload 6, 2) := by decide +kernel
theorem dX12_isThrough_73 : decode cX12_isThrough 73 = .ok (.iload 7, 2) := by decide +kernel
theorem dX12_isThrough_75 : decode cX12_isThrough 75 = .ok (.iconst 1, 1) := by decide +kernel
theorem dX12_isThrough_76 : decode cX12_isThrough 76 = .ok (.invokevirtual 122, 3) := by decide +kernel
theorem dX12_isThrough_79 : decode cX12_isThrough 79 = .ok (.iload 4, 2) := by decide +kernel
theorem dX12_isThrough_81 : decode cX12_isThrough 81 = .ok (.if_icmp .ne 7, 3) := by decide +kernel
theorem dX12_isThrough_84 : decode cX12_isThrough 84 = .ok (.iconst 1, 1) := by decide +kernel
theorem dX12_isThrough_85 : decode cX12_isThrough 85 = .ok (.goto 4, 3) := by decide +kernel
theorem dX12_isThrough_88 : decode cX12_isThrough 88 = .ok (.iconst 0, 1) := by decide +kernel
theorem dX12_isThrough_89 : decode cX12_isThrough 89 = .ok (.ireturn, 1) := by decide +kernel
theorem dX12_rightsThrough_0 : decode cX12_rightsThrough 0 = .ok (.aload_n 0, 1) := by decide +kernel
theorem dX12_rightsThrough_1 : decode cX12_rightsThrough 1 = .ok (.aload_n 0, 1) := by decide +kernel
theorem dX12_rightsThrough_2 : decode cX12_rightsThrough 2 = .ok (.iload_n 1, 1) := by decide +kernel
theorem dX12_rightsThrough_3 : decode cX12_rightsThrough 3 = .ok (.invokevirtual 82, 3) := by decide +kernel
theorem dX12_rightsThrough_6 : decode cX12_rightsThrough 6 = .ok (.ifCond .eq 15, 3) := by decide +kernel
theorem dX12_rightsThrough_9 : decode cX12_rightsThrough 9 = .ok (.aload_n 0, 1) := by decide +kernel
theorem dX12_rightsThrough_10 : decode cX12_rightsThrough 10 = .ok (.iload_n 2, 1) := by decide +kernel
theorem dX12_rightsThrough_11 : decode cX12_rightsThrough 11 = .ok (.invokevirtual 85, 3) := by decide +kernel
theorem dX12_rightsThrough_14 : decode cX12_rightsThrough 14 = .ok (.ifCond .eq 7, 3) := by decide +kernel
theorem dX12_rightsThrough_17 : decode cX12_rightsThrough 17 = .ok (.iconst 0, 1) := by decide +kernel
theorem dX12_rightsThrough_18 : decode cX12_rightsThrough 18 = .ok (.goto 4, 3) := by decide +kernel
theorem dX12_rightsThrough_21 : decode cX12_rightsThrough 21 = .ok (.iconst 1, 1) := by decide +kernel
theorem dX12_rightsThrough_22 : decode cX12_rightsThrough 22 = .ok (.putfield 39, 3) := by decide +kernel
theorem dX12_rightsThrough_25 : decode cX12_rightsThrough 25 = .ok (.iconst 0, 1) := by decide +kernel
theorem dX12_rightsThrough_26 : decode cX12_rightsThrough 26 = .ok (.istore_n 3, 1) := by decide +kernel
theorem dX12_rightsThrough_27 : decode cX12_rightsThrough 27 = .ok (.iconst 0, 1) := by decide +kernel
theorem dX12_rightsThrough_28 : decode cX12_rightsThrough 28 = .ok (.istore 4, 2) := by decide +kernel
theorem dX12_rightsThrough_30 : decode cX12_rightsThrough 30 = .ok (.iload 4, 2) := by decide +kernel
theorem dX12_rightsThrough_32 : decode cX12_rightsThrough 32 = .ok (.bipush 80, 2) := by decide +kernel
theorem dX12_rightsThrough_34 : decode cX12_rightsThrough 34 = .ok (.if_icmp .ge 52, 3) := by decide +kernel
theorem dX12_rightsThrough_37 : decode cX12_rightsThrough 37 = .ok (.aload_n 0, 1) := by decide +kernel
theorem dX12_rightsThrough_38 : decode cX12_rightsThrough 38 = .ok (.getfield 39, 3) := by decide +kernel
theorem dX12_rightsThrough_41 : decode cX12_rightsThrough 41 = .ok (.ifCond .ne 45, 3) := by decide +kernel
theorem dX12_rightsThrough_44 : decode cX12_rightsThrough 44 = .ok (.iload_n 3, 1) := by decide +kernel
theorem dX12_rightsThrough_45 : decode cX12_rightsThrough 45 = .ok (.aload_n 0, 1) := by decide +kernel
theorem dX12_rightsThrough_46 : decode cX12_rightsThrough 46 = .ok (.iload 4, 2) := by decide +kernel
theorem dX12_rightsThrough_48 : decode cX12_rightsThrough 48 = .ok (.iconst 4, 1) := by decide +kernel
theorem dX12_rightsThrough_49 : decode cX12_rightsThrough 49 = .ok (.idiv, 1) := by decide +kernel
theorem dX12_rightsThrough_50 : decode cX12_rightsThrough 50 = .ok (.invokevirtual 57, 3) := by decide +kernel
theorem dX12_rightsThrough_53 : decode cX12_rightsThrough 53 = .ok (.ifCond .eq 24, 3) := by decide +kernel
theorem dX12_rightsThrough_56 : decode cX12_rightsThrough 56 = .ok (.aload_n 0, 1) := by decide +kernel
theorem dX12_rightsThrough_57 : decode cX12_rightsThrough 57 = .ok (.iload_n 1, 1) := by decide +kernel
theorem dX12_rightsThrough_58 : decode cX12_rightsThrough 58 = .ok (.iload 4, 2) := by decide +kernel
theorem dX12_rightsThrough_60 : decode cX12_rightsThrough 60 = .ok (.iconst 4, 1) := by decide +kernel
theorem dX12_rightsThrough_61 : decode cX12_rightsThrough 61 = .ok (.idiv, 1) := by decide +kernel
theorem dX12_rightsThrough_62 : decode cX12_rightsThrough 62 = .ok (.iload 4, 2) := by decide +kernel
theorem dX12_rightsThrough_64 : decode cX12_rightsThrough 64 = .ok (.iconst 4, 1) := by decide +kernel
theorem dX12_rightsThrough_65 : decode cX12_rightsThrough 65 = .ok (.irem, 1) := by decide +kernel
theorem dX12_rightsThrough_66 : decode cX12_rightsThrough 66 = .ok (.iload_n 2, 1) := by decide +kernel
theorem dX12_rightsThrough_67 : decode cX12_rightsThrough 67 = .ok (.invokevirtual 224, 3) := by decide +kernel
theorem dX12_rightsThrough_70 : decode cX12_rightsThrough 70 = .ok (.ifCond .eq 7, 3) := by decide +kernel
theorem dX12_rightsThrough_73 : decode cX12_rightsThrough 73 = .ok (.iconst 1, 1) := by decide +kernel
theorem dX12_rightsThrough_74 : decode cX12_rightsThrough 74 = .ok (.goto 4, 3) := by decide +kernel
theorem dX12_rightsThrough_77 : decode cX12_rightsThrough 77 = .ok (.iconst 0, 1) := by decide +kernel
theorem dX12_rightsThrough_78 : decode cX12_rightsThrough 78 = .ok (.iadd, 1) := by decide +kernel
theorem dX12_rightsThrough_79 : decode cX12_rightsThrough 79 = .ok (.istore_n 3, 1) := by decide +kernel
theorem dX12_rightsThrough_80 : decode cX12_rightsThrough 80 = .ok (.iinc 4 1, 3) := by decide +kernel
theorem dX12_rightsThrough_83 : decode cX12_rightsThrough 83 = .ok (.goto (-53), 3) := by decide +kernel
theorem dX12_rightsThrough_86 : decode cX12_rightsThrough 86 = .ok (.iload_n 3, 1) := by decide +kernel
theorem dX12_rightsThrough_87 : decode cX12_rightsThrough 87 = .ok (.ireturn, 1) := by decide +kernel
theorem dX12_isNeedless_0 : decode cX12_isNeedless 0 = .ok (.aload_n 0, 1) := by decide +kernel
theorem dX12_isNeedless_1 : decode cX12_isNeedless 1 = .ok (.aload_n 0, 1) := by decide +kernel
theorem dX12_isNeedless_2 : decode cX12_isNeedless 2 = .ok (.iload_n 1, 1) := by decide +kernel
theorem dX12_isNeedless_3 : decode cX12_isNeedless 3 = .ok (.iload_n 2, 1) := by decide +kernel
theorem dX12_isNeedless_4 : decode cX12_isNeedless 4 = .ok (.invokevirtual 112, 3) := by decide +kernel
theorem dX12_isNeedless_7 : decode cX12_isNeedless 7 = .ok (.ifCond .eq 7, 3) := by decide +kernel
theorem dX12_isNeedless_10 : decode cX12_isNeedless 10 = .ok (.iconst 0, 1) := by decide +kernel
theorem dX12_isNeedless_11 : decode cX12_isNeedless 11 = .ok (.goto 4, 3) := by decide +kernel
theorem dX12_isNeedless_14 : decode cX12_isNeedless 14 = .ok (.iconst 1, 1) := by decide +kernel
theorem dX12_isNeedless_15 : decode cX12_isNeedless 15 = .ok (.putfield 39, 3) := by decide +kernel
theorem dX12_isNeedless_18 : decode cX12_isNeedless 18 = .ok (.aload_n 0, 1) := by decide +kernel
theorem dX12_isNeedless_19 : decode cX12_isNeedless 19 = .ok (.getfield 39, 3) := by decide +kernel
theorem dX12_isNeedless_22 : decode cX12_isNeedless 22 = .ok (.iconst 1, 1) := by decide +kernel
theorem dX12_isNeedless_23 : decode cX12_isNeedless 23 = .ok (.if_icmp .ne 5, 3) := by decide +kernel
theorem dX12_isNeedless_26 : decode cX12_isNeedless 26 = .ok (.iconst 0, 1) := by decide +kernel
theorem dX12_isNeedless_27 : decode cX12_isNeedless 27 = .ok (.ireturn, 1) := by decide +kernel
theorem dX12_isNeedless_28 : decode cX12_isNeedless 28 = .ok (.aload_n 0, 1) := by decide +kernel
theorem dX12_isNeedless_29 : decode cX12_isNeedless 29 = .ok (.invokevirtual 128, 3) := by decide +kernel
theorem dX12_isNeedless_32 : decode cX12_isNeedless 32 = .ok (.aload_n 0, 1) := by decide +kernel
theorem dX12_isNeedless_33 : decode cX12_isNeedless 33 = .ok (.iload_n 1, 1) := by decide +kernel
theorem dX12_isNeedless_34 : decode cX12_isNeedless 34 = .ok (.iload_n 2, 1) := by decide +kernel
theorem dX12_isNeedless_35 : decode cX12_isNeedless 35 = .ok (.invokevirtual 131, 3) := by decide +kernel
theorem dX12_isNeedless_38 : decode cX12_isNeedless 38 = .ok (.aload_n 0, 1) := by decide +kernel
theorem dX12_isNeedless_39 : decode cX12_isNeedless 39 = .ok (.iload_n 1, 1) := by decide +kernel
theorem dX12_isNeedless_40 : decode cX12_isNeedless 40 = .ok (.iload_n 2, 1) := by decide +kernel
theorem dX12_isNeedless_41 : decode cX12_isNeedless 41 = .ok (.invokevirtual 115, 3) := by decide +kernel
theorem dX12_isNeedless_44 : decode cX12_isNeedless 44 = .ok (.aload_n 0, 1) := by decide +kernel
theorem dX12_isNeedless_45 : decode cX12_isNeedless 45 = .ok (.invokevirtual 137, 3) := by decide +kernel
theorem dX12_isNeedless_48 : decode cX12_isNeedless 48 = .ok (.ifCond .ne 7, 3) := by decide +kernel
theorem dX12_isNeedless_51 : decode cX12_isNeedless 51 = .ok (.iconst 1, 1) := by decide +kernel
theorem dX12_isNeedless_52 : decode cX12_isNeedless 52 = .ok (.goto 4, 3) := by decide +kernel
theorem dX12_isNeedless_55 : decode cX12_isNeedless 55 = .ok (.iconst 0, 1) := by decide +kernel
theorem dX12_isNeedless_56 : decode cX12_isNeedless 56 = .ok (.istore_n 3, 1) := by decide +kernel
theorem dX12_isNeedless_57 : decode cX12_isNeedless 57 = .ok (.aload_n 0, 1) := by decide +kernel
theorem dX12_isNeedless_58 : decode cX12_isNeedless 58 = .ok (.iload_n 1, 1) := by decide +kernel
theorem dX12_isNeedless_59 : decode cX12_isNeedless 59 = .ok (.iload_n 2, 1) := by decide +kernel
theorem dX12_isNeedless_60 : decode cX12_isNeedless 60 = .ok (.invokevirtual 134, 3) := by decide +kernel
theorem dX12_isNeedless_63 : decode cX12_isNeedless 63 = .ok (.iload_n 3, 1) := by decide +kernel
theorem dX12_isNeedless_64 : decode cX12_isNeedless 64 = .ok (.ireturn, 1) := by decide +kernel
theorem dX12_allRights_0 : decode cX12_allRights 0 = .ok (.aload_n 0, 1) := by decide +kernel
theorem dX12_allRights_1 : decode cX12_allRights 1 = .ok (.iconst 0, 1) := by decide +kernel
theorem dX12_allRights_2 : decode cX12_allRights 2 = .ok (.putfield 39, 3) := by decide +kernel
theorem dX12_allRights_5 : decode cX12_allRights 5 = .ok (.aload_n 0, 1) := by decide +kernel
theorem dX12_allRights_6 : decode cX12_allRights 6 = .ok (.invokevirtual 227, 3) := by decide +kernel
theorem dX12_allRights_9 : decode cX12_allRights 9 = .ok (.ireturn, 1) := by decide +kernel
theorem dX12_openness_0 : decode cX12_openness 0 = .ok (.aload_n 0, 1) := by decide +kernel
theorem dX12_openness_1 : decode cX12_openness 1 = .ok (.iconst 0, 1) := by decide +kernel
theorem dX12_openness_2 : decode cX12_openness 2 = .ok (.putfield 39, 3) := by decide +kernel
theorem dX12_openness_5 : decode cX12_openness 5 = .ok (.aload_n 0, 1) := by decide +kernel
theorem dX12_openness_6 : decode cX12_openness 6 = .ok (.invokevirtual 227, 3) := by decide +kernel
theorem dX12_openness_9 : decode cX12_openness 9 = .ok (.i2d, 1) := by decide +kernel
theorem dX12_openness_10 : decode cX12_openness 10 = .ok (.dstore_n 1, 1) := by decide +kernel
theorem dX12_openness_11 : decode cX12_openness 11 = .ok (.dload_n 1, 1) := by decide +kernel
theorem dX12_openness_12 : decode cX12_openness 12 = .ok (.iconst 4, 1) := by decide +kernel
theorem dX12_openness_13 : decode cX12_openness 13 = .ok (.aload_n 0, 1) := by decide +kernel
theorem dX12_openness_14 : decode cX12_openness 14 = .ok (.getfield 7, 3) := by decide +kernel
theorem dX12_openness_17 : decode cX12_openness 17 = .ok (.iconst 0, 1) := by decide +kernel
theorem dX12_openness_18 : decode cX12_openness 18 = .ok (.iaload, 1) := by decide +kernel
theorem dX12_openness_19 : decode cX12_openness 19 = .ok (.imul, 1) := by decide +kernel
theorem dX12_openness_20 : decode cX12_openness 20 = .ok (.aload_n 0, 1) := by decide +kernel
theorem dX12_openness_21 : decode cX12_openness 21 = .ok (.invokevirtual 94, 3) := by decide +kernel
theorem dX12_openness_24 : decode cX12_openness 24 = .ok (.imul, 1) := by decide +kernel
theorem dX12_openness_25 : decode cX12_openness 25 = .ok (.i2d, 1) := by decide +kernel
theorem dX12_openness_26 : decode cX12_openness 26 = .ok (.ddiv, 1) := by decide +kernel
theorem dX12_openness_27 : decode cX12_openness 27 = .ok (.dreturn, 1) := by decide +kernel
theorem dX12_requests_0 : decode cX12_requests 0 = .ok (.aload_n 0, 1) := by decide +kernel
theorem dX12_requests_1 : decode cX12_requests 1 = .ok (.iconst 0, 1) := by decide +kernel
theorem dX12_requests_2 : decode cX12_requests 2 = .ok (.putfield 39, 3) := by decide +kernel
theorem dX12_requests_5 : decode cX12_requests 5 = .ok (.aload_n 0, 1) := by decide +kernel
theorem dX12_requests_6 : decode cX12_requests 6 = .ok (.getfield 7, 3) := by decide +kernel
theorem dX12_requests_9 : decode cX12_requests 9 = .ok (.sipush 763, 3) := by decide +kernel
theorem dX12_requests_12 : decode cX12_requests 12 = .ok (.iaload, 1) := by decide +kernel
theorem dX12_requests_13 : decode cX12_requests 13 = .ok (.ireturn, 1) := by decide +kernel
theorem dX12_refusals_0 : decode cX12_refusals 0 = .ok (.aload_n 0, 1) := by decide +kernel
theorem dX12_refusals_1 : decode cX12_refusals 1 = .ok (.iconst 0, 1) := by decide +kernel
theorem dX12_refusals_2 : decode cX12_refusals 2 = .ok (.putfield 39, 3) := by decide +kernel
theorem dX12_refusals_5 : decode cX12_refusals 5 = .ok (.aload_n 0, 1) := by decide +kernel
theorem dX12_refusals_6 : decode cX12_refusals 6 = .ok (.getfield 7, 3) := by decide +kernel
theorem dX12_refusals_9 : decode cX12_refusals 9 = .ok (.sipush 764, 3) := by decide +kernel
theorem dX12_refusals_12 : decode cX12_refusals 12 = .ok (.iaload, 1) := by decide +kernel
theorem dX12_refusals_13 : decode cX12_refusals 13 = .ok (.ireturn, 1) := by decide +kernel
theorem dX12_logged_0 : decode cX12_logged 0 = .ok (.aload_n 0, 1) := by decide +kernel
theorem dX12_logged_1 : decode cX12_logged 1 = .ok (.iload_n 1, 1) := by decide +kernel
theorem dX12_logged_2 : decode cX12_logged 2 = .ok (.iconst 0, 1) := by decide +kernel
theorem dX12_logged_3 : decode cX12_logged 3 = .ok (.aload_n 0, 1) := by decide +kernel
theorem dX12_logged_4 : decode cX12_logged 4 = .ok (.getfield 7, 3) := by decide +kernel
theorem dX12_logged_7 : decode cX12_logged 7 = .ok (.sipush 762, 3) := by decide +kernel
theorem dX12_logged_10 : decode cX12_logged 10 = .ok (.iaload, 1) := by decide +kernel
theorem dX12_logged_11 : decode cX12_logged 11 = .ok (.iconst 1, 1) := by decide +kernel
theorem dX12_logged_12 : decode cX12_logged 12 = .ok (.isub, 1) := by decide +kernel
theorem dX12_logged_13 : decode cX12_logged 13 = .ok (.invokestatic 46, 3) := by decide +kernel
theorem dX12_logged_16 : decode cX12_logged 16 = .ok (.ifCond .eq 7, 3) := by decide +kernel
theorem dX12_logged_19 : decode cX12_logged 19 = .ok (.iconst 0, 1) := by decide +kernel
theorem dX12_logged_20 : decode cX12_logged 20 = .ok (.goto 4, 3) := by decide +kernel
theorem dX12_logged_23 : decode cX12_logged 23 = .ok (.iconst 1, 1) := by decide +kernel
theorem dX12_logged_24 : decode cX12_logged 24 = .ok (.putfield 39, 3) := by decide +kernel
theorem dX12_logged_27 : decode cX12_logged 27 = .ok (.aload_n 0, 1) := by decide +kernel
theorem dX12_logged_28 : decode cX12_logged 28 = .ok (.getfield 39, 3) := by decide +kernel
theorem dX12_logged_31 : decode cX12_logged 31 = .ok (.ifCond .ne 20, 3) := by decide +kernel
theorem dX12_logged_34 : decode cX12_logged 34 = .ok (.aload_n 0, 1) := by decide +kernel
theorem dX12_logged_35 : decode cX12_logged 35 = .ok (.getfield 7, 3) := by decide +kernel
theorem dX12_logged_38 : decode cX12_logged 38 = .ok (.sipush 738, 3) := by decide +kernel
theorem dX12_logged_41 : decode cX12_logged 41 = .ok (.iconst 3, 1) := by decide +kernel
theorem dX12_logged_42 : decode cX12_logged 42 = .ok (.iload_n 1, 1) := by decide +kernel
theorem dX12_logged_43 : decode cX12_logged 43 = .ok (.imul, 1) := by decide +kernel
theorem dX12_logged_44 : decode cX12_logged 44 = .ok (.iadd, 1) := by decide +kernel
theorem dX12_logged_45 : decode cX12_logged 45 = .ok (.iload_n 2, 1) := by decide +kernel
theorem dX12_logged_46 : decode cX12_logged 46 = .ok (.iadd, 1) := by decide +kernel
theorem dX12_logged_47 : decode cX12_logged 47 = .ok (.iaload, 1) := by decide +kernel
theorem dX12_logged_48 : decode cX12_logged 48 = .ok (.goto 4, 3) := by decide +kernel
theorem dX12_logged_51 : decode cX12_logged 51 = .ok (.iconst 0, 1) := by decide +kernel
theorem dX12_logged_52 : decode cX12_logged 52 = .ok (.ireturn, 1) := by decide +kernel
theorem dX12_userOfRequest_0 : decode cX12_userOfRequest 0 = .ok (.aload_n 0, 1) := by decide +kernel
theorem dX12_userOfRequest_1 : decode cX12_userOfRequest 1 = .ok (.iload_n 1, 1) := by decide +kernel
theorem dX12_userOfRequest_2 : decode cX12_userOfRequest 2 = .ok (.iconst 0, 1) := by decide +kernel
theorem dX12_userOfRequest_3 : decode cX12_userOfRequest 3 = .ok (.invokevirtual 230, 3) := by decide +kernel
theorem dX12_userOfRequest_6 : decode cX12_userOfRequest 6 = .ok (.ireturn, 1) := by decide +kernel
theorem dX12_objectOfRequest_0 : decode cX12_objectOfRequest 0 = .ok (.aload_n 0, 1) := by decide +kernel
theorem dX12_objectOfRequest_1 : decode cX12_objectOfRequest 1 = .ok (.iload_n 1, 1) := by decide +kernel
theorem dX12_objectOfRequest_2 : decode cX12_objectOfRequest 2 = .ok (.iconst 1, 1) := by decide +kernel
theorem dX12_objectOfRequest_3 : decode cX12_objectOfRequest 3 = .ok (.invokevirtual 230, 3) := by decide +kernel
theorem dX12_objectOfRequest_6 : decode cX12_objectOfRequest 6 = .ok (.ireturn, 1) := by decide +kernel
theorem dX12_wasAllowed_0 : decode cX12_wasAllowed 0 = .ok (.aload_n 0, 1) := by decide +kernel
theorem dX12_wasAllowed_1 : decode cX12_wasAllowed 1 = .ok (.iload_n 1, 1) := by decide +kernel
theorem dX12_wasAllowed_2 : decode cX12_wasAllowed 2 = .ok (.iconst 2, 1) := by decide +kernel
theorem dX12_wasAllowed_3 : decode cX12_wasAllowed 3 = .ok (.invokevirtual 230, 3) := by decide +kernel
theorem dX12_wasAllowed_6 : decode cX12_wasAllowed 6 = .ok (.iconst 1, 1) := by decide +kernel
theorem dX12_wasAllowed_7 : decode cX12_wasAllowed 7 = .ok (.if_icmp .ne 7, 3) := by decide +kernel
theorem dX12_wasAllowed_10 : decode cX12_wasAllowed 10 = .ok (.iconst 1, 1) := by decide +kernel
theorem dX12_wasAllowed_11 : decode cX12_wasAllowed 11 = .ok (.goto 4, 3) := by decide +kernel
theorem dX12_wasAllowed_14 : decode cX12_wasAllowed 14 = .ok (.iconst 0, 1) := by decide +kernel
theorem dX12_wasAllowed_15 : decode cX12_wasAllowed 15 = .ok (.ireturn, 1) := by decide +kernel
theorem dX12_undo_0 : decode cX12_undo 0 = .ok (.aload_n 0, 1) := by decide +kernel
theorem dX12_undo_1 : decode cX12_undo 1 = .ok (.iconst 0, 1) := by decide +kernel
theorem dX12_undo_2 : decode cX12_undo 2 = .ok (.putfield 39, 3) := by decide +kernel
theorem dX12_undo_5 : decode cX12_undo 5 = .ok (.aload_n 0, 1) := by decide +kernel
theorem dX12_undo_6 : decode cX12_undo 6 = .ok (.getfield 43, 3) := by decide +kernel
theorem dX12_undo_9 : decode cX12_undo 9 = .ok (.ifCond .ne 9, 3) := by decide +kernel
theorem dX12_undo_12 : decode cX12_undo 12 = .ok (.aload_n 0, 1) := by decide +kernel
theorem dX12_undo_13 : decode cX12_undo 13 = .ok (.iconst 1, 1) := by decide +kernel
theorem dX12_undo_14 : decode cX12_undo 14 = .ok (.invokevirtual 76, 3) := by decide +kernel
theorem dX12_undo_17 : decode cX12_undo 17 = .ok (.ireturn, 1) := by decide +kernel
theorem dX12_undo_18 : decode cX12_undo 18 = .ok (.aload_n 0, 1) := by decide +kernel
theorem dX12_undo_19 : decode cX12_undo 19 = .ok (.dup, 1) := by decide +kernel
theorem dX12_undo_20 : decode cX12_undo 20 = .ok (.getfield 43, 3) := by decide +kernel
theorem dX12_undo_23 : decode cX12_undo 23 = .ok (.iconst 1, 1) := by decide +kernel
theorem dX12_undo_24 : decode cX12_undo 24 = .ok (.isub, 1) := by decide +kernel
theorem dX12_undo_25 : decode cX12_undo 25 = .ok (.putfield 43, 3) := by decide +kernel
theorem dX12_undo_28 : decode cX12_undo 28 = .ok (.iconst 0, 1) := by decide +kernel
theorem dX12_undo_29 : decode cX12_undo 29 = .ok (.istore_n 1, 1) := by decide +kernel
theorem dX12_undo_30 : decode cX12_undo 30 = .ok (.iload_n 1, 1) := by decide +kernel
theorem dX12_undo_31 : decode cX12_undo 31 = .ok (.sipush 765, 3) := by decide +kernel
theorem dX12_undo_34 : decode cX12_undo 34 = .ok (.if_icmp .ge 30, 3) := by decide +kernel
theorem dX12_undo_37 : decode cX12_undo 37 = .ok (.aload_n 0, 1) := by decide +kernel
theorem dX12_undo_38 : decode cX12_undo 38 = .ok (.getfield 7, 3) := by decide +kernel
theorem dX12_undo_41 : decode cX12_undo 41 = .ok (.iload_n 1, 1) := by decide +kernel
theorem dX12_undo_42 : decode cX12_undo 42 = .ok (.aload_n 0, 1) := by decide +kernel
theorem dX12_undo_43 : decode cX12_undo 43 = .ok (.getfield 13, 3) := by decide +kernel
theorem dX12_undo_46 : decode cX12_undo 46 = .ok (.sipush 765, 3) := by decide +kernel
theorem dX12_undo_49 : decode cX12_undo 49 = .ok (.aload_n 0, 1) := by decide +kernel
theorem dX12_undo_50 : decode cX12_undo 50 = .ok (.getfield 43, 3) := by decide +kernel
theorem dX12_undo_53 : decode cX12_undo 53 = .ok (.imul, 1) := by decide +kernel
theorem dX12_undo_54 : decode cX12_undo 54 = .ok (.iload_n 1, 1) := by decide +kernel
theorem dX12_undo_55 : decode cX12_undo 55 = .ok (.iadd, 1) := by decide +kernel
theorem dX12_undo_56 : decode cX12_undo 56 = .ok (.iaload, 1) := by decide +kernel
theorem dX12_undo_57 : decode cX12_undo 57 = .ok (.iastore, 1) := by decide +kernel
theorem dX12_undo_58 : decode cX12_undo 58 = .ok (.iinc 1 1, 3) := by decide +kernel
theorem dX12_undo_61 : decode cX12_undo 61 = .ok (.goto (-31), 3) := by decide +kernel
theorem dX12_undo_64 : decode cX12_undo 64 = .ok (.aload_n 0, 1) := by decide +kernel
theorem dX12_undo_65 : decode cX12_undo 65 = .ok (.getfield 43, 3) := by decide +kernel
theorem dX12_undo_68 : decode cX12_undo 68 = .ok (.ireturn, 1) := by decide +kernel
theorem dX12_save_0 : decode cX12_save 0 = .ok (.aload_n 0, 1) := by decide +kernel
theorem dX12_save_1 : decode cX12_save 1 = .ok (.iconst 0, 1) := by decide +kernel
theorem dX12_save_2 : decode cX12_save 2 = .ok (.putfield 39, 3) := by decide +kernel
theorem dX12_save_5 : decode cX12_save 5 = .ok (.iload_n 1, 1) := by decide +kernel
theorem dX12_save_6 : decode cX12_save 6 = .ok (.iconst 0, 1) := by decide +kernel
theorem dX12_save_7 : decode cX12_save 7 = .ok (.iconst 1, 1) := by decide +kernel
theorem dX12_save_8 : decode cX12_save 8 = .ok (.invokestatic 46, 3) := by decide +kernel
theorem dX12_save_11 : decode cX12_save 11 = .ok (.ifCond .ne 9, 3) := by decide +kernel
theorem dX12_save_14 : decode cX12_save 14 = .ok (.aload_n 0, 1) := by decide +kernel
theorem dX12_save_15 : decode cX12_save 15 = .ok (.iconst 1, 1) := by decide +kernel
theorem dX12_save_16 : decode cX12_save 16 = .ok (.invokevirtual 76, 3) := by decide +kernel
theorem dX12_save_19 : decode cX12_save 19 = .ok (.ireturn, 1) := by decide +kernel
theorem dX12_save_20 : decode cX12_save 20 = .ok (.aload_n 0, 1) := by decide +kernel
theorem dX12_save_21 : decode cX12_save 21 = .ok (.getfield 19, 3) := by decide +kernel
theorem dX12_save_24 : decode cX12_save 24 = .ok (.iload_n 1, 1) := by decide +kernel
theorem dX12_save_25 : decode cX12_save 25 = .ok (.iconst 1, 1) := by decide +kernel
theorem dX12_save_26 : decode cX12_save 26 = .ok (.bastore, 1) := by decide +kernel
theorem dX12_save_27 : decode cX12_save 27 = .ok (.iconst 0, 1) := by decide +kernel
theorem dX12_save_28 : decode cX12_save 28 = .ok (.istore_n 2, 1) := by decide +kernel
theorem dX12_save_29 : decode cX12_save 29 = .ok (.iload_n 2, 1) := by decide +kernel
theorem dX12_save_30 : decode cX12_save 30 = .ok (.sipush 765, 3) := by decide +kernel
theorem dX12_save_33 : decode cX12_save 33 = .ok (.if_icmp .ge 27, 3) := by decide +kernel
theorem dX12_save_36 : decode cX12_save 36 = .ok (.aload_n 0, 1) := by decide +kernel
theorem dX12_save_37 : decode cX12_save 37 = .ok (.getfield 16, 3) := by decide +kernel
theorem dX12_save_40 : decode cX12_save 40 = .ok (.sipush 765, 3) := by decide +kernel
theorem dX12_save_43 : decode cX12_save 43 = .ok (.iload_n 1, 1) := by decide +kernel
theorem dX12_save_44 : decode cX12_save 44 = .ok (.imul, 1) := by decide +kernel
theorem dX12_save_45 : decode cX12_save 45 = .ok (.iload_n 2, 1) := by decide +kernel
theorem dX12_save_46 : decode cX12_save 46 = .ok (.iadd, 1) := by decide +kernel
theorem dX12_save_47 : decode cX12_save 47 = .ok (.aload_n 0, 1) := by decide +kernel
theorem dX12_save_48 : decode cX12_save 48 = .ok (.getfield 7, 3) := by decide +kernel
theorem dX12_save_51 : decode cX12_save 51 = .ok (.iload_n 2, 1) := by decide +kernel
theorem dX12_save_52 : decode cX12_save 52 = .ok (.iaload, 1) := by decide +kernel
theorem dX12_save_53 : decode cX12_save 53 = .ok (.iastore, 1) := by decide +kernel
theorem dX12_save_54 : decode cX12_save 54 = .ok (.iinc 2 1, 3) := by decide +kernel
theorem dX12_save_57 : decode cX12_save 57 = .ok (.goto (-28), 3) := by decide +kernel
theorem dX12_save_60 : decode cX12_save 60 = .ok (.aload_n 0, 1) := by decide +kernel
theorem dX12_save_61 : decode cX12_save 61 = .ok (.invokevirtual 94, 3) := by decide +kernel
theorem dX12_save_64 : decode cX12_save 64 = .ok (.ireturn, 1) := by decide +kernel
theorem dX12_restore_0 : decode cX12_restore 0 = .ok (.aload_n 0, 1) := by decide +kernel
theorem dX12_restore_1 : decode cX12_restore 1 = .ok (.iconst 0, 1) := by decide +kernel
theorem dX12_restore_2 : decode cX12_restore 2 = .ok (.putfield 39, 3) := by decide +kernel
theorem dX12_restore_5 : decode cX12_restore 5 = .ok (.iload_n 1, 1) := by decide +kernel
theorem dX12_restore_6 : decode cX12_restore 6 = .ok (.iconst 0, 1) := by decide +kernel
theorem dX12_restore_7 : decode cX12_restore 7 = .ok (.iconst 1, 1) := by decide +kernel
theorem dX12_restore_8 : decode cX12_restore 8 = .ok (.invokestatic 46, 3) := by decide +kernel
theorem dX12_restore_11 : decode cX12_restore 11 = .ok (.ifCond .ne 9, 3) := by decide +kernel
theorem dX12_restore_14 : decode cX12_restore 14 = .ok (.aload_n 0, 1) := by decide +kernel
theorem dX12_restore_15 : decode cX12_restore 15 = .ok (.iconst 1, 1) := by decide +kernel
theorem dX12_restore_16 : decode cX12_restore 16 = .ok (.invokevirtual 76, 3) := by decide +kernel
theorem dX12_restore_19 : decode cX12_restore 19 = .ok (.ireturn, 1) := by decide +kernel
theorem dX12_restore_20 : decode cX12_restore 20 = .ok (.aload_n 0, 1) := by decide +kernel
theorem dX12_restore_21 : decode cX12_restore 21 = .ok (.getfield 19, 3) := by decide +kernel
theorem dX12_restore_24 : decode cX12_restore 24 = .ok (.iload_n 1, 1) := by decide +kernel
theorem dX12_restore_25 : decode cX12_restore 25 = .ok (.baload, 1) := by decide +kernel
theorem dX12_restore_26 : decode cX12_restore 26 = .ok (.ifCond .ne 9, 3) := by decide +kernel
theorem dX12_restore_29 : decode cX12_restore 29 = .ok (.aload_n 0, 1) := by decide +kernel
theorem dX12_restore_30 : decode cX12_restore 30 = .ok (.iconst 2, 1) := by decide +kernel
theorem dX12_restore_31 : decode cX12_restore 31 = .ok (.invokevirtual 76, 3) := by decide +kernel
theorem dX12_restore_34 : decode cX12_restore 34 = .ok (.ireturn, 1) := by decide +kernel
theorem dX12_restore_35 : decode cX12_restore 35 = .ok (.aload_n 0, 1) := by decide +kernel
theorem dX12_restore_36 : decode cX12_restore 36 = .ok (.invokevirtual 79, 3) := by decide +kernel
theorem dX12_restore_39 : decode cX12_restore 39 = .ok (.iconst 0, 1) := by decide +kernel
theorem dX12_restore_40 : decode cX12_restore 40 = .ok (.istore_n 2, 1) := by decide +kernel
theorem dX12_restore_41 : decode cX12_restore 41 = .ok (.iload_n 2, 1) := by decide +kernel
theorem dX12_restore_42 : decode cX12_restore 42 = .ok (.sipush 765, 3) := by decide +kernel
theorem dX12_restore_45 : decode cX12_restore 45 = .ok (.if_icmp .ge 27, 3) := by decide +kernel
theorem dX12_restore_48 : decode cX12_restore 48 = .ok (.aload_n 0, 1) := by decide +kernel
theorem dX12_restore_49 : decode cX12_restore 49 = .ok (.getfield 7, 3) := by decide +kernel
theorem dX12_restore_52 : decode cX12_restore 52 = .ok (.iload_n 2, 1) := by decide +kernel
theorem dX12_restore_53 : decode cX12_restore 53 = .ok (.aload_n 0, 1) := by decide +kernel
theorem dX12_restore_54 : decode cX12_restore 54 = .ok (.getfield 16, 3) := by decide +kernel
theorem dX12_restore_57 : decode cX12_restore 57 = .ok (.sipush 765, 3) := by decide +kernel
theorem dX12_restore_60 : decode cX12_restore 60 = .ok (.iload_n 1, 1) := by decide +kernel
theorem dX12_restore_61 : decode cX12_restore 61 = .ok (.imul, 1) := by decide +kernel
theorem dX12_restore_62 : decode cX12_restore 62 = .ok (.iload_n 2, 1) := by decide +kernel
theorem dX12_restore_63 : decode cX12_restore 63 = .ok (.iadd, 1) := by decide +kernel
theorem dX12_restore_64 : decode cX12_restore 64 = .ok (.iaload, 1) := by decide +kernel
theorem dX12_restore_65 : decode cX12_restore 65 = .ok (.iastore, 1) := by decide +kernel
theorem dX12_restore_66 : decode cX12_restore 66 = .ok (.iinc 2 1, 3) := by decide +kernel
theorem dX12_restore_69 : decode cX12_restore 69 = .ok (.goto (-28), 3) := by decide +kernel
theorem dX12_restore_72 : decode cX12_restore 72 = .ok (.aload_n 0, 1) := by decide +kernel
theorem dX12_restore_73 : decode cX12_restore 73 = .ok (.invokevirtual 94, 3) := by decide +kernel
theorem dX12_restore_76 : decode cX12_restore 76 = .ok (.ireturn, 1) := by decide +kernel
