theorem dL_addUser_0 : decode cL_addUser 0 = .ok (.aload_n 1, 1) := by decide +kernel
theorem dL_addUser_1 : decode cL_addUser 1 = .ok (.iconst 0, 1) := by decide +kernel
theorem dL_addUser_2 : decode cL_addUser 2 = .ok (.aload_n 0, 1) := by decide +kernel
theorem dL_addUser_3 : decode cL_addUser 3 = .ok (.invokevirtual 7, 3) := by decide +kernel
theorem dL_addUser_6 : decode cL_addUser 6 = .ok (.i2l, 1) := by decide +kernel
theorem dL_addUser_7 : decode cL_addUser 7 = .ok (.lastore, 1) := by decide +kernel
theorem dL_addUser_8 : decode cL_addUser 8 = .ok (.goto 6, 3) := by decide +kernel
theorem dL_addUser_11 : decode cL_addUser 11 = .ok (.astore_n 2, 1) := by decide +kernel
theorem dL_addUser_12 : decode cL_addUser 12 = .ok (.iconst 1, 1) := by decide +kernel
theorem dL_addUser_13 : decode cL_addUser 13 = .ok (.ireturn, 1) := by decide +kernel
theorem dL_addUser_14 : decode cL_addUser 14 = .ok (.iconst 0, 1) := by decide +kernel
theorem dL_addUser_15 : decode cL_addUser 15 = .ok (.ireturn, 1) := by decide +kernel
theorem dL_addGroup_0 : decode cL_addGroup 0 = .ok (.aload_n 1, 1) := by decide +kernel
theorem dL_addGroup_1 : decode cL_addGroup 1 = .ok (.iconst 0, 1) := by decide +kernel
theorem dL_addGroup_2 : decode cL_addGroup 2 = .ok (.aload_n 0, 1) := by decide +kernel
theorem dL_addGroup_3 : decode cL_addGroup 3 = .ok (.invokevirtual 15, 3) := by decide +kernel
theorem dL_addGroup_6 : decode cL_addGroup 6 = .ok (.i2l, 1) := by decide +kernel
theorem dL_addGroup_7 : decode cL_addGroup 7 = .ok (.lastore, 1) := by decide +kernel
theorem dL_addGroup_8 : decode cL_addGroup 8 = .ok (.goto 6, 3) := by decide +kernel
theorem dL_addGroup_11 : decode cL_addGroup 11 = .ok (.astore_n 2, 1) := by decide +kernel
theorem dL_addGroup_12 : decode cL_addGroup 12 = .ok (.iconst 1, 1) := by decide +kernel
theorem dL_addGroup_13 : decode cL_addGroup 13 = .ok (.ireturn, 1) := by decide +kernel
theorem dL_addGroup_14 : decode cL_addGroup 14 = .ok (.iconst 0, 1) := by decide +kernel
theorem dL_addGroup_15 : decode cL_addGroup 15 = .ok (.ireturn, 1) := by decide +kernel
theorem dL_join_0 : decode cL_join 0 = .ok (.aload_n 3, 1) := by decide +kernel
theorem dL_join_1 : decode cL_join 1 = .ok (.iconst 0, 1) := by decide +kernel
theorem dL_join_2 : decode cL_join 2 = .ok (.aload_n 0, 1) := by decide +kernel
theorem dL_join_3 : decode cL_join 3 = .ok (.iload_n 1, 1) := by decide +kernel
theorem dL_join_4 : decode cL_join 4 = .ok (.iload_n 2, 1) := by decide +kernel
theorem dL_join_5 : decode cL_join 5 = .ok (.invokevirtual 18, 3) := by decide +kernel
theorem dL_join_8 : decode cL_join 8 = .ok (.i2l, 1) := by decide +kernel
theorem dL_join_9 : decode cL_join 9 = .ok (.lastore, 1) := by decide +kernel
theorem dL_join_10 : decode cL_join 10 = .ok (.goto 11, 3) := by decide +kernel
theorem dL_join_13 : decode cL_join 13 = .ok (.astore 4, 2) := by decide +kernel
theorem dL_join_15 : decode cL_join 15 = .ok (.iconst 1, 1) := by decide +kernel
theorem dL_join_16 : decode cL_join 16 = .ok (.ireturn, 1) := by decide +kernel
theorem dL_join_17 : decode cL_join 17 = .ok (.astore 4, 2) := by decide +kernel
theorem dL_join_19 : decode cL_join 19 = .ok (.iconst 2, 1) := by decide +kernel
theorem dL_join_20 : decode cL_join 20 = .ok (.ireturn, 1) := by decide +kernel
theorem dL_join_21 : decode cL_join 21 = .ok (.iconst 0, 1) := by decide +kernel
theorem dL_join_22 : decode cL_join 22 = .ok (.ireturn, 1) := by decide +kernel
theorem dL_leave_0 : decode cL_leave 0 = .ok (.aload_n 3, 1) := by decide +kernel
theorem dL_leave_1 : decode cL_leave 1 = .ok (.iconst 0, 1) := by decide +kernel
theorem dL_leave_2 : decode cL_leave 2 = .ok (.aload_n 0, 1) := by decide +kernel
theorem dL_leave_3 : decode cL_leave 3 = .ok (.iload_n 1, 1) := by decide +kernel
theorem dL_leave_4 : decode cL_leave 4 = .ok (.iload_n 2, 1) := by decide +kernel
theorem dL_leave_5 : decode cL_leave 5 = .ok (.invokevirtual 24, 3) := by decide +kernel
theorem dL_leave_8 : decode cL_leave 8 = .ok (.i2l, 1) := by decide +kernel
theorem dL_leave_9 : decode cL_leave 9 = .ok (.lastore, 1) := by decide +kernel
theorem dL_leave_10 : decode cL_leave 10 = .ok (.goto 11, 3) := by decide +kernel
theorem dL_leave_13 : decode cL_leave 13 = .ok (.astore 4, 2) := by decide +kernel
theorem dL_leave_15 : decode cL_leave 15 = .ok (.iconst 1, 1) := by decide +kernel
theorem dL_leave_16 : decode cL_leave 16 = .ok (.ireturn, 1) := by decide +kernel
theorem dL_leave_17 : decode cL_leave 17 = .ok (.astore 4, 2) := by decide +kernel
theorem dL_leave_19 : decode cL_leave 19 = .ok (.iconst 2, 1) := by decide +kernel
theorem dL_leave_20 : decode cL_leave 20 = .ok (.ireturn, 1) := by decide +kernel
theorem dL_leave_21 : decode cL_leave 21 = .ok (.iconst 0, 1) := by decide +kernel
theorem dL_leave_22 : decode cL_leave 22 = .ok (.ireturn, 1) := by decide +kernel
theorem dL_nest_0 : decode cL_nest 0 = .ok (.aload_n 3, 1) := by decide +kernel
theorem dL_nest_1 : decode cL_nest 1 = .ok (.iconst 0, 1) := by decide +kernel
theorem dL_nest_2 : decode cL_nest 2 = .ok (.aload_n 0, 1) := by decide +kernel
theorem dL_nest_3 : decode cL_nest 3 = .ok (.iload_n 1, 1) := by decide +kernel
theorem dL_nest_4 : decode cL_nest 4 = .ok (.iload_n 2, 1) := by decide +kernel
theorem dL_nest_5 : decode cL_nest 5 = .ok (.invokevirtual 27, 3) := by decide +kernel
theorem dL_nest_8 : decode cL_nest 8 = .ok (.i2l, 1) := by decide +kernel
theorem dL_nest_9 : decode cL_nest 9 = .ok (.lastore, 1) := by decide +kernel
theorem dL_nest_10 : decode cL_nest 10 = .ok (.goto 11, 3) := by decide +kernel
theorem dL_nest_13 : decode cL_nest 13 = .ok (.astore 4, 2) := by decide +kernel
theorem dL_nest_15 : decode cL_nest 15 = .ok (.iconst 1, 1) := by decide +kernel
theorem dL_nest_16 : decode cL_nest 16 = .ok (.ireturn, 1) := by decide +kernel
theorem dL_nest_17 : decode cL_nest 17 = .ok (.astore 4, 2) := by decide +kernel
theorem dL_nest_19 : decode cL_nest 19 = .ok (.iconst 2, 1) := by decide +kernel
theorem dL_nest_20 : decode cL_nest 20 = .ok (.ireturn, 1) := by decide +kernel
theorem dL_nest_21 : decode cL_nest 21 = .ok (.iconst 0, 1) := by decide +kernel
theorem dL_nest_22 : decode cL_nest 22 = .ok (.ireturn, 1) := by decide +kernel
theorem dL_unnest_0 : decode cL_unnest 0 = .ok (.aload_n 3, 1) := by decide +kernel
theorem dL_unnest_1 : decode cL_unnest 1 = .ok (.iconst 0, 1) := by decide +kernel
theorem dL_unnest_2 : decode cL_unnest 2 = .ok (.aload_n 0, 1) := by decide +kernel
theorem dL_unnest_3 : decode cL_unnest 3 = .ok (.iload_n 1, 1) := by decide +kernel
theorem dL_unnest_4 : decode cL_unnest 4 = .ok (.iload_n 2, 1) := by decide +kernel
theorem dL_unnest_5 : decode cL_unnest 5 = .ok (.invokevirtual 30, 3) := by decide +kernel
theorem dL_unnest_8 : decode cL_unnest 8 = .ok (.i2l, 1) := by decide +kernel
theorem dL_unnest_9 : decode cL_unnest 9 = .ok (.lastore, 1) := by decide +kernel
theorem dL_unnest_10 : decode cL_unnest 10 = .ok (.goto 11, 3) := by decide +kernel
theorem dL_unnest_13 : decode cL_unnest 13 = .ok (.astore 4, 2) := by decide +kernel
theorem dL_unnest_15 : decode cL_unnest 15 = .ok (.iconst 1, 1) := by decide +kernel
theorem dL_unnest_16 : decode cL_unnest 16 = .ok (.ireturn, 1) := by decide +kernel
theorem dL_unnest_17 : decode cL_unnest 17 = .ok (.astore 4, 2) := by decide +kernel
theorem dL_unnest_19 : decode cL_unnest 19 = .ok (.iconst 2, 1) := by decide +kernel
theorem dL_unnest_20 : decode cL_unnest 20 = .ok (.ireturn, 1) := by decide +kernel
theorem dL_unnest_21 : decode cL_unnest 21 = .ok (.iconst 0, 1) := by decide +kernel
theorem dL_unnest_22 : decode cL_unnest 22 = .ok (.ireturn, 1) := by decide +kernel
theorem dL_make_0 : decode cL_make 0 = .ok (.aload_n 3, 1) := by decide +kernel
theorem dL_make_1 : decode cL_make 1 = .ok (.iconst 0, 1) := by decide +kernel
theorem dL_make_2 : decode cL_make 2 = .ok (.aload_n 0, 1) := by decide +kernel
theorem dL_make_3 : decode cL_make 3 = .ok (.iload_n 1, 1) := by decide +kernel
theorem dL_make_4 : decode cL_make 4 = .ok (.iload_n 2, 1) := by decide +kernel
theorem dL_make_5 : decode cL_make 5 = .ok (.invokevirtual 33, 3) := by decide +kernel
theorem dL_make_8 : decode cL_make 8 = .ok (.i2l, 1) := by decide +kernel
theorem dL_make_9 : decode cL_make 9 = .ok (.lastore, 1) := by decide +kernel
theorem dL_make_10 : decode cL_make 10 = .ok (.goto 11, 3) := by decide +kernel
theorem dL_make_13 : decode cL_make 13 = .ok (.astore 4, 2) := by decide +kernel
theorem dL_make_15 : decode cL_make 15 = .ok (.iconst 1, 1) := by decide +kernel
theorem dL_make_16 : decode cL_make 16 = .ok (.ireturn, 1) := by decide +kernel
theorem dL_make_17 : decode cL_make 17 = .ok (.astore 4, 2) := by decide +kernel
theorem dL_make_19 : decode cL_make 19 = .ok (.iconst 2, 1) := by decide +kernel
theorem dL_make_20 : decode cL_make 20 = .ok (.ireturn, 1) := by decide +kernel
theorem dL_make_21 : decode cL_make 21 = .ok (.iconst 0, 1) := by decide +kernel
theorem dL_make_22 : decode cL_make 22 = .ok (.ireturn, 1) := by decide +kernel
theorem dL_remove_0 : decode cL_remove 0 = .ok (.aload_n 2, 1) := by decide +kernel
theorem dL_remove_1 : decode cL_remove 1 = .ok (.iconst 0, 1) := by decide +kernel
theorem dL_remove_2 : decode cL_remove 2 = .ok (.aload_n 0, 1) := by decide +kernel
theorem dL_remove_3 : decode cL_remove 3 = .ok (.iload_n 1, 1) := by decide +kernel
theorem dL_remove_4 : decode cL_remove 4 = .ok (.invokevirtual 36, 3) := by decide +kernel
theorem dL_remove_7 : decode cL_remove 7 = .ok (.i2l, 1) := by decide +kernel
theorem dL_remove_8 : decode cL_remove 8 = .ok (.lastore, 1) := by decide +kernel
theorem dL_remove_9 : decode cL_remove 9 = .ok (.goto 9, 3) := by decide +kernel
theorem dL_remove_12 : decode cL_remove 12 = .ok (.astore_n 3, 1) := by decide +kernel
theorem dL_remove_13 : decode cL_remove 13 = .ok (.iconst 1, 1) := by decide +kernel
theorem dL_remove_14 : decode cL_remove 14 = .ok (.ireturn, 1) := by decide +kernel
theorem dL_remove_15 : decode cL_remove 15 = .ok (.astore_n 3, 1) := by decide +kernel
theorem dL_remove_16 : decode cL_remove 16 = .ok (.iconst 2, 1) := by decide +kernel
theorem dL_remove_17 : decode cL_remove 17 = .ok (.ireturn, 1) := by decide +kernel
theorem dL_remove_18 : decode cL_remove 18 = .ok (.iconst 0, 1) := by decide +kernel
theorem dL_remove_19 : decode cL_remove 19 = .ok (.ireturn, 1) := by decide +kernel
theorem dL_move_0 : decode cL_move 0 = .ok (.aload_n 3, 1) := by decide +kernel
theorem dL_move_1 : decode cL_move 1 = .ok (.iconst 0, 1) := by decide +kernel
theorem dL_move_2 : decode cL_move 2 = .ok (.aload_n 0, 1) := by decide +kernel
theorem dL_move_3 : decode cL_move 3 = .ok (.iload_n 1, 1) := by decide +kernel
theorem dL_move_4 : decode cL_move 4 = .ok (.iload_n 2, 1) := by decide +kernel
theorem dL_move_5 : decode cL_move 5 = .ok (.invokevirtual 40, 3) := by decide +kernel
theorem dL_move_8 : decode cL_move 8 = .ok (.i2l, 1) := by decide +kernel
theorem dL_move_9 : decode cL_move 9 = .ok (.lastore, 1) := by decide +kernel
theorem dL_move_10 : decode cL_move 10 = .ok (.goto 11, 3) := by decide +kernel
theorem dL_move_13 : decode cL_move 13 = .ok (.astore 4, 2) := by decide +kernel
theorem dL_move_15 : decode cL_move 15 = .ok (.iconst 1, 1) := by decide +kernel
theorem dL_move_16 : decode cL_move 16 = .ok (.ireturn, 1) := by decide +kernel
theorem dL_move_17 : decode cL_move 17 = .ok (.astore 4, 2) := by decide +kernel
theorem dL_move_19 : decode cL_move 19 = .ok (.iconst 2, 1) := by decide +kernel
theorem dL_move_20 : decode cL_move 20 = .ok (.ireturn, 1) := by decide +kernel
theorem dL_move_21 : decode cL_move 21 = .ok (.iconst 0, 1) := by decide +kernel
theorem dL_move_22 : decode cL_move 22 = .ok (.ireturn, 1) := by decide +kernel
theorem dL_giveTo_0 : decode cL_giveTo 0 = .ok (.aload_n 3, 1) := by decide +kernel
theorem dL_giveTo_1 : decode cL_giveTo 1 = .ok (.iconst 0, 1) := by decide +kernel
theorem dL_giveTo_2 : decode cL_giveTo 2 = .ok (.aload_n 0, 1) := by decide +kernel
theorem dL_giveTo_3 : decode cL_giveTo 3 = .ok (.iload_n 1, 1) := by decide +kernel
theorem dL_giveTo_4 : decode cL_giveTo 4 = .ok (.iload_n 2, 1) := by decide +kernel
theorem dL_giveTo_5 : decode cL_giveTo 5 = .ok (.invokevirtual 43, 3) := by decide +kernel
theorem dL_giveTo_8 : decode cL_giveTo 8 = .ok (.i2l, 1) := by decide +kernel
theorem dL_giveTo_9 : decode cL_giveTo 9 = .ok (.lastore, 1) := by decide +kernel
theorem dL_giveTo_10 : decode cL_giveTo 10 = .ok (.goto 7, 3) := by decide +kernel
theorem dL_giveTo_13 : decode cL_giveTo 13 = .ok (.astore 4, 2) := by decide +kernel
theorem dL_giveTo_15 : decode cL_giveTo 15 = .ok (.iconst 1, 1) := by decide +kernel
theorem dL_giveTo_16 : decode cL_giveTo 16 = .ok (.ireturn, 1) := by decide +kernel
theorem dL_giveTo_17 : decode cL_giveTo 17 = .ok (.iconst 0, 1) := by decide +kernel
theorem dL_giveTo_18 : decode cL_giveTo 18 = .ok (.ireturn, 1) := by decide +kernel
theorem dL_setMask_0 : decode cL_setMask 0 = .ok (.aload_n 3, 1) := by decide +kernel
theorem dL_setMask_1 : decode cL_setMask 1 = .ok (.iconst 0, 1) := by decide +kernel
theorem dL_setMask_2 : decode cL_setMask 2 = .ok (.aload_n 0, 1) := by decide +kernel
theorem dL_setMask_3 : decode cL_setMask 3 = .ok (.iload_n 1, 1) := by decide +kernel
theorem dL_setMask_4 : decode cL_setMask 4 = .ok (.iload_n 2, 1) := by decide +kernel
theorem dL_setMask_5 : decode cL_setMask 5 = .ok (.invokevirtual 46, 3) := by decide +kernel
theorem dL_setMask_8 : decode cL_setMask 8 = .ok (.i2l, 1) := by decide +kernel
theorem dL_setMask_9 : decode cL_setMask 9 = .ok (.lastore, 1) := by decide +kernel
theorem dL_setMask_10 : decode cL_setMask 10 = .ok (.goto 11, 3) := by decide +kernel
theorem dL_setMask_13 : decode cL_setMask 13 = .ok (.astore 4, 2) := by decide +kernel
theorem dL_setMask_15 : decode cL_setMask 15 = .ok (.iconst 1, 1) := by decide +kernel
theorem dL_setMask_16 : decode cL_setMask 16 = .ok (.ireturn, 1) := by decide +kernel
theorem dL_setMask_17 : decode cL_setMask 17 = .ok (.astore 4, 2) := by decide +kernel
theorem dL_setMask_19 : decode cL_setMask 19 = .ok (.iconst 2, 1) := by decide +kernel
theorem dL_setMask_20 : decode cL_setMask 20 = .ok (.ireturn, 1) := by decide +kernel
theorem dL_setMask_21 : decode cL_setMask 21 = .ok (.iconst 0, 1) := by decide +kernel
theorem dL_setMask_22 : decode cL_setMask 22 = .ok (.ireturn, 1) := by decide +kernel
theorem dL_setInheriting_0 : decode cL_setInheriting 0 = .ok (.aload_n 3, 1) := by decide +kernel
theorem dL_setInheriting_1 : decode cL_setInheriting 1 = .ok (.iconst 0, 1) := by decide +kernel
theorem dL_setInheriting_2 : decode cL_setInheriting 2 = .ok (.aload_n 0, 1) := by decide +kernel
theorem dL_setInheriting_3 : decode cL_setInheriting 3 = .ok (.iload_n 1, 1) := by decide +kernel
theorem dL_setInheriting_4 : decode cL_setInheriting 4 = .ok (.iload_n 2, 1) := by decide +kernel
theorem dL_setInheriting_5 : decode cL_setInheriting 5 = .ok (.invokevirtual 51, 3) := by decide +kernel
theorem dL_setInheriting_8 : decode cL_setInheriting 8 = .ok (.ifCond .eq 7, 3) := by decide +kernel
theorem dL_setInheriting_11 : decode cL_setInheriting 11 = .ok (.lconst 1, 1) := by decide +kernel
theorem dL_setInheriting_12 : decode cL_setInheriting 12 = .ok (.goto 4, 3) := by decide +kernel
theorem dL_setInheriting_15 : decode cL_setInheriting 15 = .ok (.lconst 0, 1) := by decide +kernel
theorem dL_setInheriting_16 : decode cL_setInheriting 16 = .ok (.lastore, 1) := by decide +kernel
theorem dL_setInheriting_17 : decode cL_setInheriting 17 = .ok (.goto 7, 3) := by decide +kernel
theorem dL_setInheriting_20 : decode cL_setInheriting 20 = .ok (.astore 4, 2) := by decide +kernel
theorem dL_setInheriting_22 : decode cL_setInheriting 22 = .ok (.iconst 1, 1) := by decide +kernel
theorem dL_setInheriting_23 : decode cL_setInheriting 23 = .ok (.ireturn, 1) := by decide +kernel
theorem dL_setInheriting_24 : decode cL_setInheriting 24 = .ok (.iconst 0, 1) := by decide +kernel
theorem dL_setInheriting_25 : decode cL_setInheriting 25 = .ok (.ireturn, 1) := by decide +kernel
theorem dL_addForUser_0 : decode cL_addForUser 0 = .ok (.aload 6, 2) := by decide +kernel
theorem dL_addForUser_2 : decode cL_addForUser 2 = .ok (.iconst 0, 1) := by decide +kernel
theorem dL_addForUser_3 : decode cL_addForUser 3 = .ok (.aload_n 0, 1) := by decide +kernel
theorem dL_addForUser_4 : decode cL_addForUser 4 = .ok (.iload_n 1, 1) := by decide +kernel
theorem dL_addForUser_5 : decode cL_addForUser 5 = .ok (.iload_n 2, 1) := by decide +kernel
theorem dL_addForUser_6 : decode cL_addForUser 6 = .ok (.iload_n 3, 1) := by decide +kernel
theorem dL_addForUser_7 : decode cL_addForUser 7 = .ok (.iload 4, 2) := by decide +kernel
theorem dL_addForUser_9 : decode cL_addForUser 9 = .ok (.iload 5, 2) := by decide +kernel
theorem dL_addForUser_11 : decode cL_addForUser 11 = .ok (.invokevirtual 55, 3) := by decide +kernel
theorem dL_addForUser_14 : decode cL_addForUser 14 = .ok (.i2l, 1) := by decide +kernel
theorem dL_addForUser_15 : decode cL_addForUser 15 = .ok (.lastore, 1) := by decide +kernel
theorem dL_addForUser_16 : decode cL_addForUser 16 = .ok (.goto 15, 3) := by decide +kernel
theorem dL_addForUser_19 : decode cL_addForUser 19 = .ok (.astore 7, 2) := by decide +kernel
theorem dL_addForUser_21 : decode cL_addForUser 21 = .ok (.iconst 1, 1) := by decide +kernel
theorem dL_addForUser_22 : decode cL_addForUser 22 = .ok (.ireturn, 1) := by decide +kernel
theorem dL_addForUser_23 : decode cL_addForUser 23 = .ok (.astore 7, 2) := by decide +kernel
theorem dL_addForUser_25 : decode cL_addForUser 25 = .ok (.iconst 2, 1) := by decide +kernel
theorem dL_addForUser_26 : decode cL_addForUser 26 = .ok (.ireturn, 1) := by decide +kernel
theorem dL_addForUser_27 : decode cL_addForUser 27 = .ok (.astore 7, 2) := by decide +kernel
theorem dL_addForUser_29 : decode cL_addForUser 29 = .ok (.iconst 3, 1) := by decide +kernel
theorem dL_addForUser_30 : decode cL_addForUser 30 = .ok (.ireturn, 1) := by decide +kernel
theorem dL_addForUser_31 : decode cL_addForUser 31 = .ok (.iconst 0, 1) := by decide +kernel
theorem dL_addForUser_32 : decode cL_addForUser 32 = .ok (.ireturn, 1) := by decide +kernel
theorem dL_addForGroup_0 : decode cL_addForGroup 0 = .ok (.aload 6, 2) := by decide +kernel
theorem dL_addForGroup_2 : decode cL_addForGroup 2 = .ok (.iconst 0, 1) := by decide +kernel
theorem dL_addForGroup_3 : decode cL_addForGroup 3 = .ok (.aload_n 0, 1) := by decide +kernel
theorem dL_addForGroup_4 : decode cL_addForGroup 4 = .ok (.iload_n 1, 1) := by decide +kernel
theorem dL_addForGroup_5 : decode cL_addForGroup 5 = .ok (.iload_n 2, 1) := by decide +kernel
theorem dL_addForGroup_6 : decode cL_addForGroup 6 = .ok (.iload_n 3, 1) := by decide +kernel
theorem dL_addForGroup_7 : decode cL_addForGroup 7 = .ok (.iload 4, 2) := by decide +kernel
theorem dL_addForGroup_9 : decode cL_addForGroup 9 = .ok (.iload 5, 2) := by decide +kernel
theorem dL_addForGroup_11 : decode cL_addForGroup 11 = .ok (.invokevirtual 59, 3) := by decide +kernel
theorem dL_addForGroup_14 : decode cL_addForGroup 14 = .ok (.i2l, 1) := by decide +kernel
theorem dL_addForGroup_15 : decode cL_addForGroup 15 = .ok (.lastore, 1) := by decide +kernel
theorem dL_addForGroup_16 : decode cL_addForGroup 16 = .ok (.goto 15, 3) := by decide +kernel
theorem dL_addForGroup_19 : decode cL_addForGroup 19 = .ok (.astore 7, 2) := by decide +kernel
theorem dL_addForGroup_21 : decode cL_addForGroup 21 = .ok (.iconst 1, 1) := by decide +kernel
theorem dL_addForGroup_22 : decode cL_addForGroup 22 = .ok (.ireturn, 1) := by decide +kernel
theorem dL_addForGroup_23 : decode cL_addForGroup 23 = .ok (.astore 7, 2) := by decide +kernel
theorem dL_addForGroup_25 : decode cL_addForGroup 25 = .ok (.iconst 2, 1) := by decide +kernel
theorem dL_addForGroup_26 : decode cL_addForGroup 26 = .ok (.ireturn, 1) := by decide +kernel
theorem dL_addForGroup_27 : decode cL_addForGroup 27 = .ok (.astore 7, 2) := by decide +kernel
theorem dL_addForGroup_29 : decode cL_addForGroup 29 = .ok (.iconst 3, 1) := by decide +kernel
theorem dL_addForGroup_30 : decode cL_addForGroup 30 = .ok (.ireturn, 1) := by decide +kernel
theorem dL_addForGroup_31 : decode cL_addForGroup 31 = .ok (.iconst 0, 1) := by decide +kernel
theorem dL_addForGroup_32 : decode cL_addForGroup 32 = .ok (.ireturn, 1) := by decide +kernel
theorem dL_addForOwner_0 : decode cL_addForOwner 0 = .ok (.aload 5, 2) := by decide +kernel
theorem dL_addForOwner_2 : decode cL_addForOwner 2 = .ok (.iconst 0, 1) := by decide +kernel
theorem dL_addForOwner_3 : decode cL_addForOwner 3 = .ok (.aload_n 0, 1) := by decide +kernel
theorem dL_addForOwner_4 : decode cL_addForOwner 4 = .ok (.iload_n 1, 1) := by decide +kernel
theorem dL_addForOwner_5 : decode cL_addForOwner 5 = .ok (.iload_n 2, 1) := by decide +kernel
theorem dL_addForOwner_6 : decode cL_addForOwner 6 = .ok (.iload_n 3, 1) := by decide +kernel
theorem dL_addForOwner_7 : decode cL_addForOwner 7 = .ok (.iload 4, 2) := by decide +kernel
theorem dL_addForOwner_9 : decode cL_addForOwner 9 = .ok (.invokevirtual 62, 3) := by decide +kernel
theorem dL_addForOwner_12 : decode cL_addForOwner 12 = .ok (.i2l, 1) := by decide +kernel
theorem dL_addForOwner_13 : decode cL_addForOwner 13 = .ok (.lastore, 1) := by decide +kernel
theorem dL_addForOwner_14 : decode cL_addForOwner 14 = .ok (.goto 15, 3) := by decide +kernel
theorem dL_addForOwner_17 : decode cL_addForOwner 17 = .ok (.astore 6, 2) := by decide +kernel
theorem dL_addForOwner_19 : decode cL_addForOwner 19 = .ok (.iconst 1, 1) := by decide +kernel
theorem dL_addForOwner_20 : decode cL_addForOwner 20 = .ok (.ireturn, 1) := by decide +kernel
theorem dL_addForOwner_21 : decode cL_addForOwner 21 = .ok (.astore 6, 2) := by decide +kernel
theorem dL_addForOwner_23 : decode cL_addForOwner 23 = .ok (.iconst 2, 1) := by decide +kernel
theorem dL_addForOwner_24 : decode cL_addForOwner 24 = .ok (.ireturn, 1) := by decide +kernel
theorem dL_addForOwner_25 : decode cL_addForOwner 25 = .ok (.astore 6, 2) := by decide +kernel
theorem dL_addForOwner_27 : decode cL_addForOwner 27 = .ok (.iconst 3, 1) := by decide +kernel
theorem dL_addForOwner_28 : decode cL_addForOwner 28 = .ok (.ireturn, 1) := by decide +kernel
theorem dL_addForOwner_29 : decode cL_addForOwner 29 = .ok (.iconst 0, 1) := by decide +kernel
theorem dL_addForOwner_30 : decode cL_addForOwner 30 = .ok (.ireturn, 1) := by decide +kernel
theorem dL_addForAll_0 : decode cL_addForAll 0 = .ok (.aload 5, 2) := by decide +kernel
theorem dL_addForAll_2 : decode cL_addForAll 2 = .ok (.iconst 0, 1) := by decide +kernel
theorem dL_addForAll_3 : decode cL_addForAll 3 = .ok (.aload_n 0, 1) := by decide +kernel
theorem dL_addForAll_4 : decode cL_addForAll 4 = .ok (.iload_n 1, 1) := by decide +kernel
theorem dL_addForAll_5 : decode cL_addForAll 5 = .ok (.iload_n 2, 1) := by decide +kernel
theorem dL_addForAll_6 : decode cL_addForAll 6 = .ok (.iload_n 3, 1) := by decide +kernel
theorem dL_addForAll_7 : decode cL_addForAll 7 = .ok (.iload 4, 2) := by decide +kernel
theorem dL_addForAll_9 : decode cL_addForAll 9 = .ok (.invokevirtual 66, 3) := by decide +kernel
theorem dL_addForAll_12 : decode cL_addForAll 12 = .ok (.i2l, 1) := by decide +kernel
theorem dL_addForAll_13 : decode cL_addForAll 13 = .ok (.lastore, 1) := by decide +kernel
theorem dL_addForAll_14 : decode cL_addForAll 14 = .ok (.goto 15, 3) := by decide +kernel
theorem dL_addForAll_17 : decode cL_addForAll 17 = .ok (.astore 6, 2) := by decide +kernel
theorem dL_addForAll_19 : decode cL_addForAll 19 = .ok (.iconst 1, 1) := by decide +kernel
theorem dL_addForAll_20 : decode cL_addForAll 20 = .ok (.ireturn, 1) := by decide +kernel
theorem dL_addForAll_21 : decode cL_addForAll 21 = .ok (.astore 6, 2) := by decide +kernel
theorem dL_addForAll_23 : decode cL_addForAll 23 = .ok (.iconst 2, 1) := by decide +kernel
theorem dL_addForAll_24 : decode cL_addForAll 24 = .ok (.ireturn, 1) := by decide +kernel
theorem dL_addForAll_25 : decode cL_addForAll 25 = .ok (.astore 6, 2) := by decide +kernel
theorem dL_addForAll_27 : decode cL_addForAll 27 = .ok (.iconst 3, 1) := by decide +kernel
theorem dL_addForAll_28 : decode cL_addForAll 28 = .ok (.ireturn, 1) := by decide +kernel
theorem dL_addForAll_29 : decode cL_addForAll 29 = .ok (.iconst 0, 1) := by decide +kernel
theorem dL_addForAll_30 : decode cL_addForAll 30 = .ok (.ireturn, 1) := by decide +kernel
theorem dL_removeEntry_0 : decode cL_removeEntry 0 = .ok (.aload_n 3, 1) := by decide +kernel
theorem dL_removeEntry_1 : decode cL_removeEntry 1 = .ok (.iconst 0, 1) := by decide +kernel
theorem dL_removeEntry_2 : decode cL_removeEntry 2 = .ok (.aload_n 0, 1) := by decide +kernel
theorem dL_removeEntry_3 : decode cL_removeEntry 3 = .ok (.iload_n 1, 1) := by decide +kernel
theorem dL_removeEntry_4 : decode cL_removeEntry 4 = .ok (.iload_n 2, 1) := by decide +kernel
theorem dL_removeEntry_5 : decode cL_removeEntry 5 = .ok (.invokevirtual 69, 3) := by decide +kernel
theorem dL_removeEntry_8 : decode cL_removeEntry 8 = .ok (.i2l, 1) := by decide +kernel
theorem dL_removeEntry_9 : decode cL_removeEntry 9 = .ok (.lastore, 1) := by decide +kernel
theorem dL_removeEntry_10 : decode cL_removeEntry 10 = .ok (.goto 7, 3) := by decide +kernel
theorem dL_removeEntry_13 : decode cL_removeEntry 13 = .ok (.astore 4, 2) := by decide +kernel
theorem dL_removeEntry_15 : decode cL_removeEntry 15 = .ok (.iconst 1, 1) := by decide +kernel
theorem dL_removeEntry_16 : decode cL_removeEntry 16 = .ok (.ireturn, 1) := by decide +kernel
theorem dL_removeEntry_17 : decode cL_removeEntry 17 = .ok (.iconst 0, 1) := by decide +kernel
theorem dL_removeEntry_18 : decode cL_removeEntry 18 = .ok (.ireturn, 1) := by decide +kernel
theorem dL_moveEntry_0 : decode cL_moveEntry 0 = .ok (.aload 4, 2) := by decide +kernel
theorem dL_moveEntry_2 : decode cL_moveEntry 2 = .ok (.iconst 0, 1) := by decide +kernel
theorem dL_moveEntry_3 : decode cL_moveEntry 3 = .ok (.aload_n 0, 1) := by decide +kernel
theorem dL_moveEntry_4 : decode cL_moveEntry 4 = .ok (.iload_n 1, 1) := by decide +kernel
theorem dL_moveEntry_5 : decode cL_moveEntry 5 = .ok (.iload_n 2, 1) := by decide +kernel
theorem dL_moveEntry_6 : decode cL_moveEntry 6 = .ok (.iload_n 3, 1) := by decide +kernel
theorem dL_moveEntry_7 : decode cL_moveEntry 7 = .ok (.invokevirtual 72, 3) := by decide +kernel
theorem dL_moveEntry_10 : decode cL_moveEntry 10 = .ok (.i2l, 1) := by decide +kernel
theorem dL_moveEntry_11 : decode cL_moveEntry 11 = .ok (.lastore, 1) := by decide +kernel
theorem dL_moveEntry_12 : decode cL_moveEntry 12 = .ok (.goto 7, 3) := by decide +kernel
theorem dL_moveEntry_15 : decode cL_moveEntry 15 = .ok (.astore 5, 2) := by decide +kernel
theorem dL_moveEntry_17 : decode cL_moveEntry 17 = .ok (.iconst 1, 1) := by decide +kernel
theorem dL_moveEntry_18 : decode cL_moveEntry 18 = .ok (.ireturn, 1) := by decide +kernel
theorem dL_moveEntry_19 : decode cL_moveEntry 19 = .ok (.iconst 0, 1) := by decide +kernel
theorem dL_moveEntry_20 : decode cL_moveEntry 20 = .ok (.ireturn, 1) := by decide +kernel
theorem dL_ask_0 : decode cL_ask 0 = .ok (.aload 4, 2) := by decide +kernel
theorem dL_ask_2 : decode cL_ask 2 = .ok (.iconst 0, 1) := by decide +kernel
theorem dL_ask_3 : decode cL_ask 3 = .ok (.aload_n 0, 1) := by decide +kernel
theorem dL_ask_4 : decode cL_ask 4 = .ok (.iload_n 1, 1) := by decide +kernel
theorem dL_ask_5 : decode cL_ask 5 = .ok (.iload_n 2, 1) := by decide +kernel
theorem dL_ask_6 : decode cL_ask 6 = .ok (.iload_n 3, 1) := by decide +kernel
theorem dL_ask_7 : decode cL_ask 7 = .ok (.invokevirtual 76, 3) := by decide +kernel
theorem dL_ask_10 : decode cL_ask 10 = .ok (.ifCond .eq 7, 3) := by decide +kernel
theorem dL_ask_13 : decode cL_ask 13 = .ok (.lconst 1, 1) := by decide +kernel
theorem dL_ask_14 : decode cL_ask 14 = .ok (.goto 4, 3) := by decide +kernel
theorem dL_ask_17 : decode cL_ask 17 = .ok (.lconst 0, 1) := by decide +kernel
theorem dL_ask_18 : decode cL_ask 18 = .ok (.lastore, 1) := by decide +kernel
theorem dL_ask_19 : decode cL_ask 19 = .ok (.goto 11, 3) := by decide +kernel
theorem dL_ask_22 : decode cL_ask 22 = .ok (.astore 5, 2) := by decide +kernel
theorem dL_ask_24 : decode cL_ask 24 = .ok (.iconst 1, 1) := by decide +kernel
theorem dL_ask_25 : decode cL_ask 25 = .ok (.ireturn, 1) := by decide +kernel
theorem dL_ask_26 : decode cL_ask 26 = .ok (.astore 5, 2) := by decide +kernel
theorem dL_ask_28 : decode cL_ask 28 = .ok (.iconst 2, 1) := by decide +kernel
theorem dL_ask_29 : decode cL_ask 29 = .ok (.ireturn, 1) := by decide +kernel
theorem dL_ask_30 : decode cL_ask 30 = .ok (.iconst 0, 1) := by decide +kernel
theorem dL_ask_31 : decode cL_ask 31 = .ok (.ireturn, 1) := by decide +kernel
theorem dL_share_0 : decode cL_share 0 = .ok (.aload 5, 2) := by decide +kernel
theorem dL_share_2 : decode cL_share 2 = .ok (.iconst 0, 1) := by decide +kernel
theorem dL_share_3 : decode cL_share 3 = .ok (.aload_n 0, 1) := by decide +kernel
theorem dL_share_4 : decode cL_share 4 = .ok (.iload_n 1, 1) := by decide +kernel
theorem dL_share_5 : decode cL_share 5 = .ok (.iload_n 2, 1) := by decide +kernel
theorem dL_share_6 : decode cL_share 6 = .ok (.iload_n 3, 1) := by decide +kernel
theorem dL_share_7 : decode cL_share 7 = .ok (.iload 4, 2) := by decide +kernel
theorem dL_share_9 : decode cL_share 9 = .ok (.invokevirtual 80, 3) := by decide +kernel
theorem dL_share_12 : decode cL_share 12 = .ok (.i2l, 1) := by decide +kernel
theorem dL_share_13 : decode cL_share 13 = .ok (.lastore, 1) := by decide +kernel
theorem dL_share_14 : decode cL_share 14 = .ok (.goto 15, 3) := by decide +kernel
theorem dL_share_17 : decode cL_share 17 = .ok (.astore 6, 2) := by decide +kernel
theorem dL_share_19 : decode cL_share 19 = .ok (.iconst 1, 1) := by decide +kernel
theorem dL_share_20 : decode cL_share 20 = .ok (.ireturn, 1) := by decide +kernel
theorem dL_share_21 : decode cL_share 21 = .ok (.astore 6, 2) := by decide +kernel
theorem dL_share_23 : decode cL_share 23 = .ok (.iconst 2, 1) := by decide +kernel
theorem dL_share_24 : decode cL_share 24 = .ok (.ireturn, 1) := by decide +kernel
theorem dL_share_25 : decode cL_share 25 = .ok (.astore 6, 2) := by decide +kernel
theorem dL_share_27 : decode cL_share 27 = .ok (.iconst 3, 1) := by decide +kernel
theorem dL_share_28 : decode cL_share 28 = .ok (.ireturn, 1) := by decide +kernel
theorem dL_share_29 : decode cL_share 29 = .ok (.iconst 0, 1) := by decide +kernel
theorem dL_share_30 : decode cL_share 30 = .ok (.ireturn, 1) := by decide +kernel
theorem dL_append_0 : decode cL_append 0 = .ok (.aload_n 2, 1) := by decide +kernel
theorem dL_append_1 : decode cL_append 1 = .ok (.iconst 0, 1) := by decide +kernel
theorem dL_append_2 : decode cL_append 2 = .ok (.aload_n 0, 1) := by decide +kernel
theorem dL_append_3 : decode cL_append 3 = .ok (.iload_n 1, 1) := by decide +kernel
theorem dL_append_4 : decode cL_append 4 = .ok (.invokevirtual 84, 3) := by decide +kernel
theorem dL_append_7 : decode cL_append 7 = .ok (.i2l, 1) := by decide +kernel
theorem dL_append_8 : decode cL_append 8 = .ok (.lastore, 1) := by decide +kernel
theorem dL_append_9 : decode cL_append 9 = .ok (.goto 9, 3) := by decide +kernel
theorem dL_append_12 : decode cL_append 12 = .ok (.astore_n 3, 1) := by decide +kernel
theorem dL_append_13 : decode cL_append 13 = .ok (.iconst 1, 1) := by decide +kernel
theorem dL_append_14 : decode cL_append 14 = .ok (.ireturn, 1) := by decide +kernel
theorem dL_append_15 : decode cL_append 15 = .ok (.astore_n 3, 1) := by decide +kernel
theorem dL_append_16 : decode cL_append 16 = .ok (.iconst 2, 1) := by decide +kernel
theorem dL_append_17 : decode cL_append 17 = .ok (.ireturn, 1) := by decide +kernel
theorem dL_append_18 : decode cL_append 18 = .ok (.iconst 0, 1) := by decide +kernel
theorem dL_append_19 : decode cL_append 19 = .ok (.ireturn, 1) := by decide +kernel
theorem dL_loadEntries_0 : decode cL_loadEntries 0 = .ok (.aload_n 1, 1) := by decide +kernel
theorem dL_loadEntries_1 : decode cL_loadEntries 1 = .ok (.iconst 0, 1) := by decide +kernel
theorem dL_loadEntries_2 : decode cL_loadEntries 2 = .ok (.aload_n 0, 1) := by decide +kernel
theorem dL_loadEntries_3 : decode cL_loadEntries 3 = .ok (.invokevirtual 87, 3) := by decide +kernel
theorem dL_loadEntries_6 : decode cL_loadEntries 6 = .ok (.i2l, 1) := by decide +kernel
theorem dL_loadEntries_7 : decode cL_loadEntries 7 = .ok (.lastore, 1) := by decide +kernel
theorem dL_loadEntries_8 : decode cL_loadEntries 8 = .ok (.goto 6, 3) := by decide +kernel
theorem dL_loadEntries_11 : decode cL_loadEntries 11 = .ok (.astore_n 2, 1) := by decide +kernel
theorem dL_loadEntries_12 : decode cL_loadEntries 12 = .ok (.iconst 1, 1) := by decide +kernel
theorem dL_loadEntries_13 : decode cL_loadEntries 13 = .ok (.ireturn, 1) := by decide +kernel
theorem dL_loadEntries_14 : decode cL_loadEntries 14 = .ok (.iconst 0, 1) := by decide +kernel
theorem dL_loadEntries_15 : decode cL_loadEntries 15 = .ok (.ireturn, 1) := by decide +kernel
theorem dL_writeEntries_0 : decode cL_writeEntries 0 = .ok (.aload_n 2, 1) := by decide +kernel
theorem dL_writeEntries_1 : decode cL_writeEntries 1 = .ok (.iconst 0, 1) := by decide +kernel
theorem dL_writeEntries_2 : decode cL_writeEntries 2 = .ok (.aload_n 0, 1) := by decide +kernel
theorem dL_writeEntries_3 : decode cL_writeEntries 3 = .ok (.iload_n 1, 1) := by decide +kernel
theorem dL_writeEntries_4 : decode cL_writeEntries 4 = .ok (.invokevirtual 90, 3) := by decide +kernel
theorem dL_writeEntries_7 : decode cL_writeEntries 7 = .ok (.i2l, 1) := by decide +kernel
theorem dL_writeEntries_8 : decode cL_writeEntries 8 = .ok (.lastore, 1) := by decide +kernel
theorem dL_writeEntries_9 : decode cL_writeEntries 9 = .ok (.goto 6, 3) := by decide +kernel
theorem dL_writeEntries_12 : decode cL_writeEntries 12 = .ok (.astore_n 3, 1) := by decide +kernel
theorem dL_writeEntries_13 : decode cL_writeEntries 13 = .ok (.iconst 1, 1) := by decide +kernel
theorem dL_writeEntries_14 : decode cL_writeEntries 14 = .ok (.ireturn, 1) := by decide +kernel
theorem dL_writeEntries_15 : decode cL_writeEntries 15 = .ok (.iconst 0, 1) := by decide +kernel
theorem dL_writeEntries_16 : decode cL_writeEntries 16 = .ok (.ireturn, 1) := by decide +kernel
theorem dL_codeAt_0 : decode cL_codeAt 0 = .ok (.aload_n 2, 1) := by decide +kernel
theorem dL_codeAt_1 : decode cL_codeAt 1 = .ok (.iconst 0, 1) := by decide +kernel
theorem dL_codeAt_2 : decode cL_codeAt 2 = .ok (.aload_n 0, 1) := by decide +kernel
theorem dL_codeAt_3 : decode cL_codeAt 3 = .ok (.iload_n 1, 1) := by decide +kernel
theorem dL_codeAt_4 : decode cL_codeAt 4 = .ok (.invokevirtual 93, 3) := by decide +kernel
theorem dL_codeAt_7 : decode cL_codeAt 7 = .ok (.i2l, 1) := by decide +kernel
theorem dL_codeAt_8 : decode cL_codeAt 8 = .ok (.lastore, 1) := by decide +kernel
theorem dL_codeAt_9 : decode cL_codeAt 9 = .ok (.goto 6, 3) := by decide +kernel
theorem dL_codeAt_12 : decode cL_codeAt 12 = .ok (.astore_n 3, 1) := by decide +kernel
theorem dL_codeAt_13 : decode cL_codeAt 13 = .ok (.iconst 1, 1) := by decide +kernel
theorem dL_codeAt_14 : decode cL_codeAt 14 = .ok (.ireturn, 1) := by decide +kernel
theorem dL_codeAt_15 : decode cL_codeAt 15 = .ok (.iconst 0, 1) := by decide +kernel
theorem dL_codeAt_16 : decode cL_codeAt 16 = .ok (.ireturn, 1) := by decide +kernel
theorem dL_isMember_0 : decode cL_isMember 0 = .ok (.aload_n 3, 1) := by decide +kernel
theorem dL_isMember_1 : decode cL_isMember 1 = .ok (.iconst 0, 1) := by decide +kernel
theorem dL_isMember_2 : decode cL_isMember 2 = .ok (.aload_n 0, 1) := by decide +kernel
theorem dL_isMember_3 : decode cL_isMember 3 = .ok (.iload_n 1, 1) := by decide +kernel
theorem dL_isMember_4 : decode cL_isMember 4 = .ok (.iload_n 2, 1) := by decide +kernel
theorem dL_isMember_5 : decode cL_isMember 5 = .ok (.invokevirtual 96, 3) := by decide +kernel
theorem dL_isMember_8 : decode cL_isMember 8 = .ok (.ifCond .eq 7, 3) := by decide +kernel
theorem dL_isMember_11 : decode cL_isMember 11 = .ok (.lconst 1, 1) := by decide +kernel
theorem dL_isMember_12 : decode cL_isMember 12 = .ok (.goto 4, 3) := by decide +kernel
theorem dL_isMember_15 : decode cL_isMember 15 = .ok (.lconst 0, 1) := by decide +kernel
theorem dL_isMember_16 : decode cL_isMember 16 = .ok (.lastore, 1) := by decide +kernel
theorem dL_isMember_17 : decode cL_isMember 17 = .ok (.goto 7, 3) := by decide +kernel
theorem dL_isMember_20 : decode cL_isMember 20 = .ok (.astore 4, 2) := by decide +kernel
theorem dL_isMember_22 : decode cL_isMember 22 = .ok (.iconst 1, 1) := by decide +kernel
theorem dL_isMember_23 : decode cL_isMember 23 = .ok (.ireturn, 1) := by decide +kernel
theorem dL_isMember_24 : decode cL_isMember 24 = .ok (.iconst 0, 1) := by decide +kernel
theorem dL_isMember_25 : decode cL_isMember 25 = .ok (.ireturn, 1) := by decide +kernel
theorem dL_isNested_0 : decode cL_isNested 0 = .ok (.aload_n 3, 1) := by decide +kernel
theorem dL_isNested_1 : decode cL_isNested 1 = .ok (.iconst 0, 1) := by decide +kernel
theorem dL_isNested_2 : decode cL_isNested 2 = .ok (.aload_n 0, 1) := by decide +kernel
theorem dL_isNested_3 : decode cL_isNested 3 = .ok (.iload_n 1, 1) := by decide +kernel
theorem dL_isNested_4 : decode cL_isNested 4 = .ok (.iload_n 2, 1) := by decide +kernel
theorem dL_isNested_5 : decode cL_isNested 5 = .ok (.invokevirtual 100, 3) := by decide +kernel
theorem dL_isNested_8 : decode cL_isNested 8 = .ok (.ifCond .eq 7, 3) := by decide +kernel
theorem dL_isNested_11 : decode cL_isNested 11 = .ok (.lconst 1, 1) := by decide +kernel
theorem dL_isNested_12 : decode cL_isNested 12 = .ok (.goto 4, 3) := by decide +kernel
theorem dL_isNested_15 : decode cL_isNested 15 = .ok (.lconst 0, 1) := by decide +kernel
theorem dL_isNested_16 : decode cL_isNested 16 = .ok (.lastore, 1) := by decide +kernel
theorem dL_isNested_17 : decode cL_isNested 17 = .ok (.goto 7, 3) := by decide +kernel
theorem dL_isNested_20 : decode cL_isNested 20 = .ok (.astore 4, 2) := by decide +kernel
theorem dL_isNested_22 : decode cL_isNested 22 = .ok (.iconst 1, 1) := by decide +kernel
theorem dL_isNested_23 : decode cL_isNested 23 = .ok (.ireturn, 1) := by decide +kernel
theorem dL_isNested_24 : decode cL_isNested 24 = .ok (.iconst 0, 1) := by decide +kernel
theorem dL_isNested_25 : decode cL_isNested 25 = .ok (.ireturn, 1) := by decide +kernel
theorem dL_belongs_0 : decode cL_belongs 0 = .ok (.aload_n 3, 1) := by decide +kernel
theorem dL_belongs_1 : decode cL_belongs 1 = .ok (.iconst 0, 1) := by decide +kernel
theorem dL_belongs_2 : decode cL_belongs 2 = .ok (.aload_n 0, 1) := by decide +kernel
theorem dL_belongs_3 : decode cL_belongs 3 = .ok (.iload_n 1, 1) := by decide +kernel
theorem dL_belongs_4 : decode cL_belongs 4 = .ok (.iload_n 2, 1) := by decide +kernel
theorem dL_belongs_5 : decode cL_belongs 5 = .ok (.invokevirtual 103, 3) := by decide +kernel
theorem dL_belongs_8 : decode cL_belongs 8 = .ok (.ifCond .eq 7, 3) := by decide +kernel
theorem dL_belongs_11 : decode cL_belongs 11 = .ok (.lconst 1, 1) := by decide +kernel
theorem dL_belongs_12 : decode cL_belongs 12 = .ok (.goto 4, 3) := by decide +kernel
theorem dL_belongs_15 : decode cL_belongs 15 = .ok (.lconst 0, 1) := by decide +kernel
theorem dL_belongs_16 : decode cL_belongs 16 = .ok (.lastore, 1) := by decide +kernel
theorem dL_belongs_17 : decode cL_belongs 17 = .ok (.goto 7, 3) := by decide +kernel
theorem dL_belongs_20 : decode cL_belongs 20 = .ok (.astore 4, 2) := by decide +kernel
theorem dL_belongs_22 : decode cL_belongs 22 = .ok (.iconst 1, 1) := by decide +kernel
theorem dL_belongs_23 : decode cL_belongs 23 = .ok (.ireturn, 1) := by decide +kernel
theorem dL_belongs_24 : decode cL_belongs 24 = .ok (.iconst 0, 1) := by decide +kernel
theorem dL_belongs_25 : decode cL_belongs 25 = .ok (.ireturn, 1) := by decide +kernel
theorem dL_belongsByMembers_0 : decode cL_belongsByMembers 0 = .ok (.aload_n 3, 1) := by decide +kernel
theorem dL_belongsByMembers_1 : decode cL_belongsByMembers 1 = .ok (.iconst 0, 1) := by decide +kernel
theorem dL_belongsByMembers_2 : decode cL_belongsByMembers 2 = .ok (.aload_n 0, 1) := by decide +kernel
theorem dL_belongsByMembers_3 : decode cL_belongsByMembers 3 = .ok (.iload_n 1, 1) := by decide +kernel
theorem dL_belongsByMembers_4 : decode cL_belongsByMembers 4 = .ok (.iload_n 2, 1) := by decide +kernel
theorem dL_belongsByMembers_5 : decode cL_belongsByMembers 5 = .ok (.invokevirtual 106, 3) := by decide +kernel
theorem dL_belongsByMembers_8 : decode cL_belongsByMembers 8 = .ok (.ifCond .eq 7, 3) := by decide +kernel
theorem dL_belongsByMembers_11 : decode cL_belongsByMembers 11 = .ok (.lconst 1, 1) := by decide +kernel
theorem dL_belongsByMembers_12 : decode cL_belongsByMembers 12 = .ok (.goto 4, 3) := by decide +kernel
theorem dL_belongsByMembers_15 : decode cL_belongsByMembers 15 = .ok (.lconst 0, 1) := by decide +kernel
theorem dL_belongsByMembers_16 : decode cL_belongsByMembers 16 = .ok (.lastore, 1) := by decide +kernel
theorem dL_belongsByMembers_17 : decode cL_belongsByMembers 17 = .ok (.goto 7, 3) := by decide +kernel
theorem dL_belongsByMembers_20 : decode cL_belongsByMembers 20 = .ok (.astore 4, 2) := by decide +kernel
theorem dL_belongsByMembers_22 : decode cL_belongsByMembers 22 = .ok (.iconst 1, 1) := by decide +kernel
theorem dL_belongsByMembers_23 : decode cL_belongsByMembers 23 = .ok (.ireturn, 1) := by decide +kernel
theorem dL_belongsByMembers_24 : decode cL_belongsByMembers 24 = .ok (.iconst 0, 1) := by decide +kernel
theorem dL_belongsByMembers_25 : decode cL_belongsByMembers 25 = .ok (.ireturn, 1) := by decide +kernel
theorem dL_parentOf_0 : decode cL_parentOf 0 = .ok (.aload_n 2, 1) := by decide +kernel
theorem dL_parentOf_1 : decode cL_parentOf 1 = .ok (.iconst 0, 1) := by decide +kernel
theorem dL_parentOf_2 : decode cL_parentOf 2 = .ok (.aload_n 0, 1) := by decide +kernel
theorem dL_parentOf_3 : decode cL_parentOf 3 = .ok (.iload_n 1, 1) := by decide +kernel
theorem dL_parentOf_4 : decode cL_parentOf 4 = .ok (.invokevirtual 109, 3) := by decide +kernel
theorem dL_parentOf_7 : decode cL_parentOf 7 = .ok (.i2l, 1) := by decide +kernel
theorem dL_parentOf_8 : decode cL_parentOf 8 = .ok (.lastore, 1) := by decide +kernel
theorem dL_parentOf_9 : decode cL_parentOf 9 = .ok (.goto 6, 3) := by decide +kernel
theorem dL_parentOf_12 : decode cL_parentOf 12 = .ok (.astore_n 3, 1) := by decide +kernel
theorem dL_parentOf_13 : decode cL_parentOf 13 = .ok (.iconst 1, 1) := by decide +kernel
theorem dL_parentOf_14 : decode cL_parentOf 14 = .ok (.ireturn, 1) := by decide +kernel
theorem dL_parentOf_15 : decode cL_parentOf 15 = .ok (.iconst 0, 1) := by decide +kernel
theorem dL_parentOf_16 : decode cL_parentOf 16 = .ok (.ireturn, 1) := by decide +kernel
theorem dL_ownerOf_0 : decode cL_ownerOf 0 = .ok (.aload_n 2, 1) := by decide +kernel
theorem dL_ownerOf_1 : decode cL_ownerOf 1 = .ok (.iconst 0, 1) := by decide +kernel
theorem dL_ownerOf_2 : decode cL_ownerOf 2 = .ok (.aload_n 0, 1) := by decide +kernel
theorem dL_ownerOf_3 : decode cL_ownerOf 3 = .ok (.iload_n 1, 1) := by decide +kernel
theorem dL_ownerOf_4 : decode cL_ownerOf 4 = .ok (.invokevirtual 112, 3) := by decide +kernel
theorem dL_ownerOf_7 : decode cL_ownerOf 7 = .ok (.i2l, 1) := by decide +kernel
theorem dL_ownerOf_8 : decode cL_ownerOf 8 = .ok (.lastore, 1) := by decide +kernel
theorem dL_ownerOf_9 : decode cL_ownerOf 9 = .ok (.goto 6, 3) := by decide +kernel
theorem dL_ownerOf_12 : decode cL_ownerOf 12 = .ok (.astore_n 3, 1) := by decide +kernel
theorem dL_ownerOf_13 : decode cL_ownerOf 13 = .ok (.iconst 1, 1) := by decide +kernel
theorem dL_ownerOf_14 : decode cL_ownerOf 14 = .ok (.ireturn, 1) := by decide +kernel
theorem dL_ownerOf_15 : decode cL_ownerOf 15 = .ok (.iconst 0, 1) := by decide +kernel
theorem dL_ownerOf_16 : decode cL_ownerOf 16 = .ok (.ireturn, 1) := by decide +kernel
theorem dL_maskOf_0 : decode cL_maskOf 0 = .ok (.aload_n 2, 1) := by decide +kernel
theorem dL_maskOf_1 : decode cL_maskOf 1 = .ok (.iconst 0, 1) := by decide +kernel
theorem dL_maskOf_2 : decode cL_maskOf 2 = .ok (.aload_n 0, 1) := by decide +kernel
theorem dL_maskOf_3 : decode cL_maskOf 3 = .ok (.iload_n 1, 1) := by decide +kernel
theorem dL_maskOf_4 : decode cL_maskOf 4 = .ok (.invokevirtual 115, 3) := by decide +kernel
theorem dL_maskOf_7 : decode cL_maskOf 7 = .ok (.i2l, 1) := by decide +kernel
theorem dL_maskOf_8 : decode cL_maskOf 8 = .ok (.lastore, 1) := by decide +kernel
theorem dL_maskOf_9 : decode cL_maskOf 9 = .ok (.goto 6, 3) := by decide +kernel
theorem dL_maskOf_12 : decode cL_maskOf 12 = .ok (.astore_n 3, 1) := by decide +kernel
theorem dL_maskOf_13 : decode cL_maskOf 13 = .ok (.iconst 1, 1) := by decide +kernel
theorem dL_maskOf_14 : decode cL_maskOf 14 = .ok (.ireturn, 1) := by decide +kernel
theorem dL_maskOf_15 : decode cL_maskOf 15 = .ok (.iconst 0, 1) := by decide +kernel
theorem dL_maskOf_16 : decode cL_maskOf 16 = .ok (.ireturn, 1) := by decide +kernel
theorem dL_isInheriting_0 : decode cL_isInheriting 0 = .ok (.aload_n 2, 1) := by decide +kernel
theorem dL_isInheriting_1 : decode cL_isInheriting 1 = .ok (.iconst 0, 1) := by decide +kernel
theorem dL_isInheriting_2 : decode cL_isInheriting 2 = .ok (.aload_n 0, 1) := by decide +kernel
theorem dL_isInheriting_3 : decode cL_isInheriting 3 = .ok (.iload_n 1, 1) := by decide +kernel
theorem dL_isInheriting_4 : decode cL_isInheriting 4 = .ok (.invokevirtual 118, 3) := by decide +kernel
theorem dL_isInheriting_7 : decode cL_isInheriting 7 = .ok (.ifCond .eq 7, 3) := by decide +kernel
theorem dL_isInheriting_10 : decode cL_isInheriting 10 = .ok (.lconst 1, 1) := by decide +kernel
theorem dL_isInheriting_11 : decode cL_isInheriting 11 = .ok (.goto 4, 3) := by decide +kernel
theorem dL_isInheriting_14 : decode cL_isInheriting 14 = .ok (.lconst 0, 1) := by decide +kernel
theorem dL_isInheriting_15 : decode cL_isInheriting 15 = .ok (.lastore, 1) := by decide +kernel
theorem dL_isInheriting_16 : decode cL_isInheriting 16 = .ok (.goto 6, 3) := by decide +kernel
theorem dL_isInheriting_19 : decode cL_isInheriting 19 = .ok (.astore_n 3, 1) := by decide +kernel
theorem dL_isInheriting_20 : decode cL_isInheriting 20 = .ok (.iconst 1, 1) := by decide +kernel
theorem dL_isInheriting_21 : decode cL_isInheriting 21 = .ok (.ireturn, 1) := by decide +kernel
theorem dL_isInheriting_22 : decode cL_isInheriting 22 = .ok (.iconst 0, 1) := by decide +kernel
theorem dL_isInheriting_23 : decode cL_isInheriting 23 = .ok (.ireturn, 1) := by decide +kernel
theorem dL_below_0 : decode cL_below 0 = .ok (.aload_n 2, 1) := by decide +kernel
theorem dL_below_1 : decode cL_below 1 = .ok (.iconst 0, 1) := by decide +kernel
theorem dL_below_2 : decode cL_below 2 = .ok (.aload_n 0, 1) := by decide +kernel
theorem dL_below_3 : decode cL_below 3 = .ok (.iload_n 1, 1) := by decide +kernel
theorem dL_below_4 : decode cL_below 4 = .ok (.invokevirtual 122, 3) := by decide +kernel
theorem dL_below_7 : decode cL_below 7 = .ok (.i2l, 1) := by decide +kernel
theorem dL_below_8 : decode cL_below 8 = .ok (.lastore, 1) := by decide +kernel
theorem dL_below_9 : decode cL_below 9 = .ok (.goto 6, 3) := by decide +kernel
theorem dL_below_12 : decode cL_below 12 = .ok (.astore_n 3, 1) := by decide +kernel
theorem dL_below_13 : decode cL_below 13 = .ok (.iconst 1, 1) := by decide +kernel
theorem dL_below_14 : decode cL_below 14 = .ok (.ireturn, 1) := by decide +kernel
theorem dL_below_15 : decode cL_below 15 = .ok (.iconst 0, 1) := by decide +kernel
theorem dL_below_16 : decode cL_below 16 = .ok (.ireturn, 1) := by decide +kernel
theorem dL_entriesOf_0 : decode cL_entriesOf 0 = .ok (.aload_n 2, 1) := by decide +kernel
theorem dL_entriesOf_1 : decode cL_entriesOf 1 = .ok (.iconst 0, 1) := by decide +kernel
theorem dL_entriesOf_2 : decode cL_entriesOf 2 = .ok (.aload_n 0, 1) := by decide +kernel
theorem dL_entriesOf_3 : decode cL_entriesOf 3 = .ok (.iload_n 1, 1) := by decide +kernel
theorem dL_entriesOf_4 : decode cL_entriesOf 4 = .ok (.invokevirtual 125, 3) := by decide +kernel
theorem dL_entriesOf_7 : decode cL_entriesOf 7 = .ok (.i2l, 1) := by decide +kernel
theorem dL_entriesOf_8 : decode cL_entriesOf 8 = .ok (.lastore, 1) := by decide +kernel
theorem dL_entriesOf_9 : decode cL_entriesOf 9 = .ok (.goto 6, 3) := by decide +kernel
theorem dL_entriesOf_12 : decode cL_entriesOf 12 = .ok (.astore_n 3, 1) := by decide +kernel
theorem dL_entriesOf_13 : decode cL_entriesOf 13 = .ok (.iconst 1, 1) := by decide +kernel
theorem dL_entriesOf_14 : decode cL_entriesOf 14 = .ok (.ireturn, 1) := by decide +kernel
theorem dL_entriesOf_15 : decode cL_entriesOf 15 = .ok (.iconst 0, 1) := by decide +kernel
theorem dL_entriesOf_16 : decode cL_entriesOf 16 = .ok (.ireturn, 1) := by decide +kernel
theorem dL_isAllowing_0 : decode cL_isAllowing 0 = .ok (.aload_n 3, 1) := by decide +kernel
theorem dL_isAllowing_1 : decode cL_isAllowing 1 = .ok (.iconst 0, 1) := by decide +kernel
theorem dL_isAllowing_2 : decode cL_isAllowing 2 = .ok (.aload_n 0, 1) := by decide +kernel
theorem dL_isAllowing_3 : decode cL_isAllowing 3 = .ok (.iload_n 1, 1) := by decide +kernel
theorem dL_isAllowing_4 : decode cL_isAllowing 4 = .ok (.iload_n 2, 1) := by decide +kernel
theorem dL_isAllowing_5 : decode cL_isAllowing 5 = .ok (.invokevirtual 128, 3) := by decide +kernel
theorem dL_isAllowing_8 : decode cL_isAllowing 8 = .ok (.ifCond .eq 7, 3) := by decide +kernel
theorem dL_isAllowing_11 : decode cL_isAllowing 11 = .ok (.lconst 1, 1) := by decide +kernel
theorem dL_isAllowing_12 : decode cL_isAllowing 12 = .ok (.goto 4, 3) := by decide +kernel
theorem dL_isAllowing_15 : decode cL_isAllowing 15 = .ok (.lconst 0, 1) := by decide +kernel
theorem dL_isAllowing_16 : decode cL_isAllowing 16 = .ok (.lastore, 1) := by decide +kernel
theorem dL_isAllowing_17 : decode cL_isAllowing 17 = .ok (.goto 7, 3) := by decide +kernel
theorem dL_isAllowing_20 : decode cL_isAllowing 20 = .ok (.astore 4, 2) := by decide +kernel
theorem dL_isAllowing_22 : decode cL_isAllowing 22 = .ok (.iconst 1, 1) := by decide +kernel
theorem dL_isAllowing_23 : decode cL_isAllowing 23 = .ok (.ireturn, 1) := by decide +kernel
theorem dL_isAllowing_24 : decode cL_isAllowing 24 = .ok (.iconst 0, 1) := by decide +kernel
theorem dL_isAllowing_25 : decode cL_isAllowing 25 = .ok (.ireturn, 1) := by decide +kernel
theorem dL_rightsOfEntry_0 : decode cL_rightsOfEntry 0 = .ok (.aload_n 3, 1) := by decide +kernel
theorem dL_rightsOfEntry_1 : decode cL_rightsOfEntry 1 = .ok (.iconst 0, 1) := by decide +kernel
theorem dL_rightsOfEntry_2 : decode cL_rightsOfEntry 2 = .ok (.aload_n 0, 1) := by decide +kernel
theorem dL_rightsOfEntry_3 : decode cL_rightsOfEntry 3 = .ok (.iload_n 1, 1) := by decide +kernel
theorem dL_rightsOfEntry_4 : decode cL_rightsOfEntry 4 = .ok (.iload_n 2, 1) := by decide +kernel
theorem dL_rightsOfEntry_5 : decode cL_rightsOfEntry 5 = .ok (.invokevirtual 131, 3) := by decide +kernel
theorem dL_rightsOfEntry_8 : decode cL_rightsOfEntry 8 = .ok (.i2l, 1) := by decide +kernel
theorem dL_rightsOfEntry_9 : decode cL_rightsOfEntry 9 = .ok (.lastore, 1) := by decide +kernel
theorem dL_rightsOfEntry_10 : decode cL_rightsOfEntry 10 = .ok (.goto 7, 3) := by decide +kernel
theorem dL_rightsOfEntry_13 : decode cL_rightsOfEntry 13 = .ok (.astore 4, 2) := by decide +kernel
theorem dL_rightsOfEntry_15 : decode cL_rightsOfEntry 15 = .ok (.iconst 1, 1) := by decide +kernel
theorem dL_rightsOfEntry_16 : decode cL_rightsOfEntry 16 = .ok (.ireturn, 1) := by decide +kernel
theorem dL_rightsOfEntry_17 : decode cL_rightsOfEntry 17 = .ok (.iconst 0, 1) := by decide +kernel
theorem dL_rightsOfEntry_18 : decode cL_rightsOfEntry 18 = .ok (.ireturn, 1) := by decide +kernel
theorem dL_userOfEntry_0 : decode cL_userOfEntry 0 = .ok (.aload_n 3, 1) := by decide +kernel
theorem dL_userOfEntry_1 : decode cL_userOfEntry 1 = .ok (.iconst 0, 1) := by decide +kernel
theorem dL_userOfEntry_2 : decode cL_userOfEntry 2 = .ok (.aload_n 0, 1) := by decide +kernel
theorem dL_userOfEntry_3 : decode cL_userOfEntry 3 = .ok (.iload_n 1, 1) := by decide +kernel
theorem dL_userOfEntry_4 : decode cL_userOfEntry 4 = .ok (.iload_n 2, 1) := by decide +kernel
theorem dL_userOfEntry_5 : decode cL_userOfEntry 5 = .ok (.invokevirtual 134, 3) := by decide +kernel
theorem dL_userOfEntry_8 : decode cL_userOfEntry 8 = .ok (.i2l, 1) := by decide +kernel
theorem dL_userOfEntry_9 : decode cL_userOfEntry 9 = .ok (.lastore, 1) := by decide +kernel
theorem dL_userOfEntry_10 : decode cL_userOfEntry 10 = .ok (.goto 7, 3) := by decide +kernel
theorem dL_userOfEntry_13 : decode cL_userOfEntry 13 = .ok (.astore 4, 2) := by decide +kernel
theorem dL_userOfEntry_15 : decode cL_userOfEntry 15 = .ok (.iconst 1, 1) := by decide +kernel
theorem dL_userOfEntry_16 : decode cL_userOfEntry 16 = .ok (.ireturn, 1) := by decide +kernel
theorem dL_userOfEntry_17 : decode cL_userOfEntry 17 = .ok (.iconst 0, 1) := by decide +kernel
theorem dL_userOfEntry_18 : decode cL_userOfEntry 18 = .ok (.ireturn, 1) := by decide +kernel
theorem dL_groupOfEntry_0 : decode cL_groupOfEntry 0 = .ok (.aload_n 3, 1) := by decide +kernel
theorem dL_groupOfEntry_1 : decode cL_groupOfEntry 1 = .ok (.iconst 0, 1) := by decide +kernel
theorem dL_groupOfEntry_2 : decode cL_groupOfEntry 2 = .ok (.aload_n 0, 1) := by decide +kernel
theorem dL_groupOfEntry_3 : decode cL_groupOfEntry 3 = .ok (.iload_n 1, 1) := by decide +kernel
theorem dL_groupOfEntry_4 : decode cL_groupOfEntry 4 = .ok (.iload_n 2, 1) := by decide +kernel
theorem dL_groupOfEntry_5 : decode cL_groupOfEntry 5 = .ok (.invokevirtual 137, 3) := by decide +kernel
theorem dL_groupOfEntry_8 : decode cL_groupOfEntry 8 = .ok (.i2l, 1) := by decide +kernel
theorem dL_groupOfEntry_9 : decode cL_groupOfEntry 9 = .ok (.lastore, 1) := by decide +kernel
theorem dL_groupOfEntry_10 : decode cL_groupOfEntry 10 = .ok (.goto 7, 3) := by decide +kernel
theorem dL_groupOfEntry_13 : decode cL_groupOfEntry 13 = .ok (.astore 4, 2) := by decide +kernel
theorem dL_groupOfEntry_15 : decode cL_groupOfEntry 15 = .ok (.iconst 1, 1) := by decide +kernel
theorem dL_groupOfEntry_16 : decode cL_groupOfEntry 16 = .ok (.ireturn, 1) := by decide +kernel
theorem dL_groupOfEntry_17 : decode cL_groupOfEntry 17 = .ok (.iconst 0, 1) := by decide +kernel
theorem dL_groupOfEntry_18 : decode cL_groupOfEntry 18 = .ok (.ireturn, 1) := by decide +kernel
theorem dL_isForOwner_0 : decode cL_isForOwner 0 = .ok (.aload_n 3, 1) := by decide +kernel
theorem dL_isForOwner_1 : decode cL_isForOwner 1 = .ok (.iconst 0, 1) := by decide +kernel
theorem dL_isForOwner_2 : decode cL_isForOwner 2 = .ok (.aload_n 0, 1) := by decide +kernel
theorem dL_isForOwner_3 : decode cL_isForOwner 3 = .ok (.iload_n 1, 1) := by decide +kernel
theorem dL_isForOwner_4 : decode cL_isForOwner 4 = .ok (.iload_n 2, 1) := by decide +kernel
theorem dL_isForOwner_5 : decode cL_isForOwner 5 = .ok (.invokevirtual 140, 3) := by decide +kernel
theorem dL_isForOwner_8 : decode cL_isForOwner 8 = .ok (.ifCond .eq 7, 3) := by decide +kernel
theorem dL_isForOwner_11 : decode cL_isForOwner 11 = .ok (.lconst 1, 1) := by decide +kernel
theorem dL_isForOwner_12 : decode cL_isForOwner 12 = .ok (.goto 4, 3) := by decide +kernel
theorem dL_isForOwner_15 : decode cL_isForOwner 15 = .ok (.lconst 0, 1) := by decide +kernel
theorem dL_isForOwner_16 : decode cL_isForOwner 16 = .ok (.lastore, 1) := by decide +kernel
theorem dL_isForOwner_17 : decode cL_isForOwner 17 = .ok (.goto 7, 3) := by decide +kernel
theorem dL_isForOwner_20 : decode cL_isForOwner 20 = .ok (.astore 4, 2) := by decide +kernel
theorem dL_isForOwner_22 : decode cL_isForOwner 22 = .ok (.iconst 1, 1) := by decide +kernel
theorem dL_isForOwner_23 : decode cL_isForOwner 23 = .ok (.ireturn, 1) := by decide +kernel
theorem dL_isForOwner_24 : decode cL_isForOwner 24 = .ok (.iconst 0, 1) := by decide +kernel
theorem dL_isForOwner_25 : decode cL_isForOwner 25 = .ok (.ireturn, 1) := by decide +kernel
theorem dL_isForBelow_0 : decode cL_isForBelow 0 = .ok (.aload_n 3, 1) := by decide +kernel
theorem dL_isForBelow_1 : decode cL_isForBelow 1 = .ok (.iconst 0, 1) := by decide +kernel
theorem dL_isForBelow_2 : decode cL_isForBelow 2 = .ok (.aload_n 0, 1) := by decide +kernel
theorem dL_isForBelow_3 : decode cL_isForBelow 3 = .ok (.iload_n 1, 1) := by decide +kernel
theorem dL_isForBelow_4 : decode cL_isForBelow 4 = .ok (.iload_n 2, 1) := by decide +kernel
theorem dL_isForBelow_5 : decode cL_isForBelow 5 = .ok (.invokevirtual 143, 3) := by decide +kernel
theorem dL_isForBelow_8 : decode cL_isForBelow 8 = .ok (.ifCond .eq 7, 3) := by decide +kernel
theorem dL_isForBelow_11 : decode cL_isForBelow 11 = .ok (.lconst 1, 1) := by decide +kernel
theorem dL_isForBelow_12 : decode cL_isForBelow 12 = .ok (.goto 4, 3) := by decide +kernel
theorem dL_isForBelow_15 : decode cL_isForBelow 15 = .ok (.lconst 0, 1) := by decide +kernel
theorem dL_isForBelow_16 : decode cL_isForBelow 16 = .ok (.lastore, 1) := by decide +kernel
theorem dL_isForBelow_17 : decode cL_isForBelow 17 = .ok (.goto 7, 3) := by decide +kernel
theorem dL_isForBelow_20 : decode cL_isForBelow 20 = .ok (.astore 4, 2) := by decide +kernel
theorem dL_isForBelow_22 : decode cL_isForBelow 22 = .ok (.iconst 1, 1) := by decide +kernel
theorem dL_isForBelow_23 : decode cL_isForBelow 23 = .ok (.ireturn, 1) := by decide +kernel
theorem dL_isForBelow_24 : decode cL_isForBelow 24 = .ok (.iconst 0, 1) := by decide +kernel
theorem dL_isForBelow_25 : decode cL_isForBelow 25 = .ok (.ireturn, 1) := by decide +kernel
theorem dL_isAllowed_0 : decode cL_isAllowed 0 = .ok (.aload 4, 2) := by decide +kernel
theorem dL_isAllowed_2 : decode cL_isAllowed 2 = .ok (.iconst 0, 1) := by decide +kernel
theorem dL_isAllowed_3 : decode cL_isAllowed 3 = .ok (.aload_n 0, 1) := by decide +kernel
theorem dL_isAllowed_4 : decode cL_isAllowed 4 = .ok (.iload_n 1, 1) := by decide +kernel
theorem dL_isAllowed_5 : decode cL_isAllowed 5 = .ok (.iload_n 2, 1) := by decide +kernel
theorem dL_isAllowed_6 : decode cL_isAllowed 6 = .ok (.iload_n 3, 1) := by decide +kernel
theorem dL_isAllowed_7 : decode cL_isAllowed 7 = .ok (.invokevirtual 146, 3) := by decide +kernel
theorem dL_isAllowed_10 : decode cL_isAllowed 10 = .ok (.ifCond .eq 7, 3) := by decide +kernel
theorem dL_isAllowed_13 : decode cL_isAllowed 13 = .ok (.lconst 1, 1) := by decide +kernel
theorem dL_isAllowed_14 : decode cL_isAllowed 14 = .ok (.goto 4, 3) := by decide +kernel
theorem dL_isAllowed_17 : decode cL_isAllowed 17 = .ok (.lconst 0, 1) := by decide +kernel
theorem dL_isAllowed_18 : decode cL_isAllowed 18 = .ok (.lastore, 1) := by decide +kernel
theorem dL_isAllowed_19 : decode cL_isAllowed 19 = .ok (.goto 11, 3) := by decide +kernel
theorem dL_isAllowed_22 : decode cL_isAllowed 22 = .ok (.astore 5, 2) := by decide +kernel
theorem dL_isAllowed_24 : decode cL_isAllowed 24 = .ok (.iconst 1, 1) := by decide +kernel
theorem dL_isAllowed_25 : decode cL_isAllowed 25 = .ok (.ireturn, 1) := by decide +kernel
theorem dL_isAllowed_26 : decode cL_isAllowed 26 = .ok (.astore 5, 2) := by decide +kernel
theorem dL_isAllowed_28 : decode cL_isAllowed 28 = .ok (.iconst 2, 1) := by decide +kernel
theorem dL_isAllowed_29 : decode cL_isAllowed 29 = .ok (.ireturn, 1) := by decide +kernel
theorem dL_isAllowed_30 : decode cL_isAllowed 30 = .ok (.iconst 0, 1) := by decide +kernel
theorem dL_isAllowed_31 : decode cL_isAllowed 31 = .ok (.ireturn, 1) := by decide +kernel
theorem dL_isAllowedByHandingDown_0 : decode cL_isAllowedByHandingDown 0 = .ok (.aload 4, 2) := by decide +kernel
theorem dL_isAllowedByHandingDown_2 : decode cL_isAllowedByHandingDown 2 = .ok (.iconst 0, 1) := by decide +kernel
theorem dL_isAllowedByHandingDown_3 : decode cL_isAllowedByHandingDown 3 = .ok (.aload_n 0, 1) := by decide +kernel
theorem dL_isAllowedByHandingDown_4 : decode cL_isAllowedByHandingDown 4 = .ok (.iload_n 1, 1) := by decide +kernel
theorem dL_isAllowedByHandingDown_5 : decode cL_isAllowedByHandingDown 5 = .ok (.iload_n 2, 1) := by decide +kernel
theorem dL_isAllowedByHandingDown_6 : decode cL_isAllowedByHandingDown 6 = .ok (.iload_n 3, 1) := by decide +kernel
theorem dL_isAllowedByHandingDown_7 : decode cL_isAllowedByHandingDown 7 = .ok (.invokevirtual 149, 3) := by decide +kernel
theorem dL_isAllowedByHandingDown_10 : decode cL_isAllowedByHandingDown 10 = .ok (.ifCond .eq 7, 3) := by decide +kernel
theorem dL_isAllowedByHandingDown_13 : decode cL_isAllowedByHandingDown 13 = .ok (.lconst 1, 1) := by decide +kernel
theorem dL_isAllowedByHandingDown_14 : decode cL_isAllowedByHandingDown 14 = .ok (.goto 4, 3) := by decide +kernel
theorem dL_isAllowedByHandingDown_17 : decode cL_isAllowedByHandingDown 17 = .ok (.lconst 0, 1) := by decide +kernel
theorem dL_isAllowedByHandingDown_18 : decode cL_isAllowedByHandingDown 18 = .ok (.lastore, 1) := by decide +kernel
theorem dL_isAllowedByHandingDown_19 : decode cL_isAllowedByHandingDown 19 = .ok (.goto 11, 3) := by decide +kernel
theorem dL_isAllowedByHandingDown_22 : decode cL_isAllowedByHandingDown 22 = .ok (.astore 5, 2) := by decide +kernel
theorem dL_isAllowedByHandingDown_24 : decode cL_isAllowedByHandingDown 24 = .ok (.iconst 1, 1) := by decide +kernel
theorem dL_isAllowedByHandingDown_25 : decode cL_isAllowedByHandingDown 25 = .ok (.ireturn, 1) := by decide +kernel
theorem dL_isAllowedByHandingDown_26 : decode cL_isAllowedByHandingDown 26 = .ok (.astore 5, 2) := by decide +kernel
theorem dL_isAllowedByHandingDown_28 : decode cL_isAllowedByHandingDown 28 = .ok (.iconst 2, 1) := by decide +kernel
theorem dL_isAllowedByHandingDown_29 : decode cL_isAllowedByHandingDown 29 = .ok (.ireturn, 1) := by decide +kernel
theorem dL_isAllowedByHandingDown_30 : decode cL_isAllowedByHandingDown 30 = .ok (.iconst 0, 1) := by decide +kernel
theorem dL_isAllowedByHandingDown_31 : decode cL_isAllowedByHandingDown 31 = .ok (.ireturn, 1) := by decide +kernel
theorem dL_rightsOf_0 : decode cL_rightsOf 0 = .ok (.aload_n 3, 1) := by decide +kernel
theorem dL_rightsOf_1 : decode cL_rightsOf 1 = .ok (.iconst 0, 1) := by decide +kernel
theorem dL_rightsOf_2 : decode cL_rightsOf 2 = .ok (.aload_n 0, 1) := by decide +kernel
theorem dL_rightsOf_3 : decode cL_rightsOf 3 = .ok (.iload_n 1, 1) := by decide +kernel
theorem dL_rightsOf_4 : decode cL_rightsOf 4 = .ok (.iload_n 2, 1) := by decide +kernel
theorem dL_rightsOf_5 : decode cL_rightsOf 5 = .ok (.invokevirtual 152, 3) := by decide +kernel
theorem dL_rightsOf_8 : decode cL_rightsOf 8 = .ok (.i2l, 1) := by decide +kernel
theorem dL_rightsOf_9 : decode cL_rightsOf 9 = .ok (.lastore, 1) := by decide +kernel
theorem dL_rightsOf_10 : decode cL_rightsOf 10 = .ok (.goto 7, 3) := by decide +kernel
theorem dL_rightsOf_13 : decode cL_rightsOf 13 = .ok (.astore 4, 2) := by decide +kernel
theorem dL_rightsOf_15 : decode cL_rightsOf 15 = .ok (.iconst 1, 1) := by decide +kernel
theorem dL_rightsOf_16 : decode cL_rightsOf 16 = .ok (.ireturn, 1) := by decide +kernel
theorem dL_rightsOf_17 : decode cL_rightsOf 17 = .ok (.iconst 0, 1) := by decide +kernel
theorem dL_rightsOf_18 : decode cL_rightsOf 18 = .ok (.ireturn, 1) := by decide +kernel
theorem dL_decidingObject_0 : decode cL_decidingObject 0 = .ok (.aload 4, 2) := by decide +kernel
theorem dL_decidingObject_2 : decode cL_decidingObject 2 = .ok (.iconst 0, 1) := by decide +kernel
theorem dL_decidingObject_3 : decode cL_decidingObject 3 = .ok (.aload_n 0, 1) := by decide +kernel
theorem dL_decidingObject_4 : decode cL_decidingObject 4 = .ok (.iload_n 1, 1) := by decide +kernel
theorem dL_decidingObject_5 : decode cL_decidingObject 5 = .ok (.iload_n 2, 1) := by decide +kernel
theorem dL_decidingObject_6 : decode cL_decidingObject 6 = .ok (.iload_n 3, 1) := by decide +kernel
theorem dL_decidingObject_7 : decode cL_decidingObject 7 = .ok (.invokevirtual 155, 3) := by decide +kernel
theorem dL_decidingObject_10 : decode cL_decidingObject 10 = .ok (.i2l, 1) := by decide +kernel
theorem dL_decidingObject_11 : decode cL_decidingObject 11 = .ok (.lastore, 1) := by decide +kernel
theorem dL_decidingObject_12 : decode cL_decidingObject 12 = .ok (.goto 11, 3) := by decide +kernel
theorem dL_decidingObject_15 : decode cL_decidingObject 15 = .ok (.astore 5, 2) := by decide +kernel
theorem dL_decidingObject_17 : decode cL_decidingObject 17 = .ok (.iconst 1, 1) := by decide +kernel
theorem dL_decidingObject_18 : decode cL_decidingObject 18 = .ok (.ireturn, 1) := by decide +kernel
theorem dL_decidingObject_19 : decode cL_decidingObject 19 = .ok (.astore 5, 2) := by decide +kernel
theorem dL_decidingObject_21 : decode cL_decidingObject 21 = .ok (.iconst 2, 1) := by decide +kernel
theorem dL_decidingObject_22 : decode cL_decidingObject 22 = .ok (.ireturn, 1) := by decide +kernel
theorem dL_decidingObject_23 : decode cL_decidingObject 23 = .ok (.iconst 0, 1) := by decide +kernel
theorem dL_decidingObject_24 : decode cL_decidingObject 24 = .ok (.ireturn, 1) := by decide +kernel
theorem dL_decidingEntry_0 : decode cL_decidingEntry 0 = .ok (.aload 4, 2) := by decide +kernel
theorem dL_decidingEntry_2 : decode cL_decidingEntry 2 = .ok (.iconst 0, 1) := by decide +kernel
theorem dL_decidingEntry_3 : decode cL_decidingEntry 3 = .ok (.aload_n 0, 1) := by decide +kernel
theorem dL_decidingEntry_4 : decode cL_decidingEntry 4 = .ok (.iload_n 1, 1) := by decide +kernel
theorem dL_decidingEntry_5 : decode cL_decidingEntry 5 = .ok (.iload_n 2, 1) := by decide +kernel
theorem dL_decidingEntry_6 : decode cL_decidingEntry 6 = .ok (.iload_n 3, 1) := by decide +kernel
theorem dL_decidingEntry_7 : decode cL_decidingEntry 7 = .ok (.invokevirtual 158, 3) := by decide +kernel
theorem dL_decidingEntry_10 : decode cL_decidingEntry 10 = .ok (.i2l, 1) := by decide +kernel
theorem dL_decidingEntry_11 : decode cL_decidingEntry 11 = .ok (.lastore, 1) := by decide +kernel
theorem dL_decidingEntry_12 : decode cL_decidingEntry 12 = .ok (.goto 11, 3) := by decide +kernel
theorem dL_decidingEntry_15 : decode cL_decidingEntry 15 = .ok (.astore 5, 2) := by decide +kernel
theorem dL_decidingEntry_17 : decode cL_decidingEntry 17 = .ok (.iconst 1, 1) := by decide +kernel
theorem dL_decidingEntry_18 : decode cL_decidingEntry 18 = .ok (.ireturn, 1) := by decide +kernel
theorem dL_decidingEntry_19 : decode cL_decidingEntry 19 = .ok (.astore 5, 2) := by decide +kernel
theorem dL_decidingEntry_21 : decode cL_decidingEntry 21 = .ok (.iconst 2, 1) := by decide +kernel
theorem dL_decidingEntry_22 : decode cL_decidingEntry 22 = .ok (.ireturn, 1) := by decide +kernel
theorem dL_decidingEntry_23 : decode cL_decidingEntry 23 = .ok (.iconst 0, 1) := by decide +kernel
theorem dL_decidingEntry_24 : decode cL_decidingEntry 24 = .ok (.ireturn, 1) := by decide +kernel
theorem dL_isStoppedByMask_0 : decode cL_isStoppedByMask 0 = .ok (.aload 4, 2) := by decide +kernel
theorem dL_isStoppedByMask_2 : decode cL_isStoppedByMask 2 = .ok (.iconst 0, 1) := by decide +kernel
theorem dL_isStoppedByMask_3 : decode cL_isStoppedByMask 3 = .ok (.aload_n 0, 1) := by decide +kernel
theorem dL_isStoppedByMask_4 : decode cL_isStoppedByMask 4 = .ok (.iload_n 1, 1) := by decide +kernel
theorem dL_isStoppedByMask_5 : decode cL_isStoppedByMask 5 = .ok (.iload_n 2, 1) := by decide +kernel
theorem dL_isStoppedByMask_6 : decode cL_isStoppedByMask 6 = .ok (.iload_n 3, 1) := by decide +kernel
theorem dL_isStoppedByMask_7 : decode cL_isStoppedByMask 7 = .ok (.invokevirtual 161, 3) := by decide +kernel
theorem dL_isStoppedByMask_10 : decode cL_isStoppedByMask 10 = .ok (.ifCond .eq 7, 3) := by decide +kernel
theorem dL_isStoppedByMask_13 : decode cL_isStoppedByMask 13 = .ok (.lconst 1, 1) := by decide +kernel
theorem dL_isStoppedByMask_14 : decode cL_isStoppedByMask 14 = .ok (.goto 4, 3) := by decide +kernel
theorem dL_isStoppedByMask_17 : decode cL_isStoppedByMask 17 = .ok (.lconst 0, 1) := by decide +kernel
theorem dL_isStoppedByMask_18 : decode cL_isStoppedByMask 18 = .ok (.lastore, 1) := by decide +kernel
theorem dL_isStoppedByMask_19 : decode cL_isStoppedByMask 19 = .ok (.goto 11, 3) := by decide +kernel
theorem dL_isStoppedByMask_22 : decode cL_isStoppedByMask 22 = .ok (.astore 5, 2) := by decide +kernel
theorem dL_isStoppedByMask_24 : decode cL_isStoppedByMask 24 = .ok (.iconst 1, 1) := by decide +kernel
theorem dL_isStoppedByMask_25 : decode cL_isStoppedByMask 25 = .ok (.ireturn, 1) := by decide +kernel
theorem dL_isStoppedByMask_26 : decode cL_isStoppedByMask 26 = .ok (.astore 5, 2) := by decide +kernel
theorem dL_isStoppedByMask_28 : decode cL_isStoppedByMask 28 = .ok (.iconst 2, 1) := by decide +kernel
theorem dL_isStoppedByMask_29 : decode cL_isStoppedByMask 29 = .ok (.ireturn, 1) := by decide +kernel
theorem dL_isStoppedByMask_30 : decode cL_isStoppedByMask 30 = .ok (.iconst 0, 1) := by decide +kernel
theorem dL_isStoppedByMask_31 : decode cL_isStoppedByMask 31 = .ok (.ireturn, 1) := by decide +kernel
theorem dL_usersWith_0 : decode cL_usersWith 0 = .ok (.aload_n 3, 1) := by decide +kernel
theorem dL_usersWith_1 : decode cL_usersWith 1 = .ok (.iconst 0, 1) := by decide +kernel
theorem dL_usersWith_2 : decode cL_usersWith 2 = .ok (.aload_n 0, 1) := by decide +kernel
theorem dL_usersWith_3 : decode cL_usersWith 3 = .ok (.iload_n 1, 1) := by decide +kernel
theorem dL_usersWith_4 : decode cL_usersWith 4 = .ok (.iload_n 2, 1) := by decide +kernel
theorem dL_usersWith_5 : decode cL_usersWith 5 = .ok (.invokevirtual 164, 3) := by decide +kernel
theorem dL_usersWith_8 : decode cL_usersWith 8 = .ok (.i2l, 1) := by decide +kernel
theorem dL_usersWith_9 : decode cL_usersWith 9 = .ok (.lastore, 1) := by decide +kernel
theorem dL_usersWith_10 : decode cL_usersWith 10 = .ok (.goto 11, 3) := by decide +kernel
theorem dL_usersWith_13 : decode cL_usersWith 13 = .ok (.astore 4, 2) := by decide +kernel
theorem dL_usersWith_15 : decode cL_usersWith 15 = .ok (.iconst 1, 1) := by decide +kernel
theorem dL_usersWith_16 : decode cL_usersWith 16 = .ok (.ireturn, 1) := by decide +kernel
theorem dL_usersWith_17 : decode cL_usersWith 17 = .ok (.astore 4, 2) := by decide +kernel
theorem dL_usersWith_19 : decode cL_usersWith 19 = .ok (.iconst 2, 1) := by decide +kernel
theorem dL_usersWith_20 : decode cL_usersWith 20 = .ok (.ireturn, 1) := by decide +kernel
theorem dL_usersWith_21 : decode cL_usersWith 21 = .ok (.iconst 0, 1) := by decide +kernel
theorem dL_usersWith_22 : decode cL_usersWith 22 = .ok (.ireturn, 1) := by decide +kernel
theorem dL_rightsThrough_0 : decode cL_rightsThrough 0 = .ok (.aload_n 3, 1) := by decide +kernel
theorem dL_rightsThrough_1 : decode cL_rightsThrough 1 = .ok (.iconst 0, 1) := by decide +kernel
theorem dL_rightsThrough_2 : decode cL_rightsThrough 2 = .ok (.aload_n 0, 1) := by decide +kernel
theorem dL_rightsThrough_3 : decode cL_rightsThrough 3 = .ok (.iload_n 1, 1) := by decide +kernel
theorem dL_rightsThrough_4 : decode cL_rightsThrough 4 = .ok (.iload_n 2, 1) := by decide +kernel
theorem dL_rightsThrough_5 : decode cL_rightsThrough 5 = .ok (.invokevirtual 167, 3) := by decide +kernel
theorem dL_rightsThrough_8 : decode cL_rightsThrough 8 = .ok (.i2l, 1) := by decide +kernel
theorem dL_rightsThrough_9 : decode cL_rightsThrough 9 = .ok (.lastore, 1) := by decide +kernel
theorem dL_rightsThrough_10 : decode cL_rightsThrough 10 = .ok (.goto 7, 3) := by decide +kernel
theorem dL_rightsThrough_13 : decode cL_rightsThrough 13 = .ok (.astore 4, 2) := by decide +kernel
theorem dL_rightsThrough_15 : decode cL_rightsThrough 15 = .ok (.iconst 1, 1) := by decide +kernel
theorem dL_rightsThrough_16 : decode cL_rightsThrough 16 = .ok (.ireturn, 1) := by decide +kernel
theorem dL_rightsThrough_17 : decode cL_rightsThrough 17 = .ok (.iconst 0, 1) := by decide +kernel
theorem dL_rightsThrough_18 : decode cL_rightsThrough 18 = .ok (.ireturn, 1) := by decide +kernel
theorem dL_isNeedless_0 : decode cL_isNeedless 0 = .ok (.aload_n 3, 1) := by decide +kernel
theorem dL_isNeedless_1 : decode cL_isNeedless 1 = .ok (.iconst 0, 1) := by decide +kernel
theorem dL_isNeedless_2 : decode cL_isNeedless 2 = .ok (.aload_n 0, 1) := by decide +kernel
theorem dL_isNeedless_3 : decode cL_isNeedless 3 = .ok (.iload_n 1, 1) := by decide +kernel
theorem dL_isNeedless_4 : decode cL_isNeedless 4 = .ok (.iload_n 2, 1) := by decide +kernel
theorem dL_isNeedless_5 : decode cL_isNeedless 5 = .ok (.invokevirtual 170, 3) := by decide +kernel
theorem dL_isNeedless_8 : decode cL_isNeedless 8 = .ok (.ifCond .eq 7, 3) := by decide +kernel
theorem dL_isNeedless_11 : decode cL_isNeedless 11 = .ok (.lconst 1, 1) := by decide +kernel
theorem dL_isNeedless_12 : decode cL_isNeedless 12 = .ok (.goto 4, 3) := by decide +kernel
theorem dL_isNeedless_15 : decode cL_isNeedless 15 = .ok (.lconst 0, 1) := by decide +kernel
theorem dL_isNeedless_16 : decode cL_isNeedless 16 = .ok (.lastore, 1) := by decide +kernel
theorem dL_isNeedless_17 : decode cL_isNeedless 17 = .ok (.goto 7, 3) := by decide +kernel
theorem dL_isNeedless_20 : decode cL_isNeedless 20 = .ok (.astore 4, 2) := by decide +kernel
theorem dL_isNeedless_22 : decode cL_isNeedless 22 = .ok (.iconst 1, 1) := by decide +kernel
theorem dL_isNeedless_23 : decode cL_isNeedless 23 = .ok (.ireturn, 1) := by decide +kernel
theorem dL_isNeedless_24 : decode cL_isNeedless 24 = .ok (.iconst 0, 1) := by decide +kernel
theorem dL_isNeedless_25 : decode cL_isNeedless 25 = .ok (.ireturn, 1) := by decide +kernel
theorem dL_userOfRequest_0 : decode cL_userOfRequest 0 = .ok (.aload_n 2, 1) := by decide +kernel
theorem dL_userOfRequest_1 : decode cL_userOfRequest 1 = .ok (.iconst 0, 1) := by decide +kernel
theorem dL_userOfRequest_2 : decode cL_userOfRequest 2 = .ok (.aload_n 0, 1) := by decide +kernel
theorem dL_userOfRequest_3 : decode cL_userOfRequest 3 = .ok (.iload_n 1, 1) := by decide +kernel
theorem dL_userOfRequest_4 : decode cL_userOfRequest 4 = .ok (.invokevirtual 173, 3) := by decide +kernel
theorem dL_userOfRequest_7 : decode cL_userOfRequest 7 = .ok (.i2l, 1) := by decide +kernel
theorem dL_userOfRequest_8 : decode cL_userOfRequest 8 = .ok (.lastore, 1) := by decide +kernel
theorem dL_userOfRequest_9 : decode cL_userOfRequest 9 = .ok (.goto 6, 3) := by decide +kernel
theorem dL_userOfRequest_12 : decode cL_userOfRequest 12 = .ok (.astore_n 3, 1) := by decide +kernel
theorem dL_userOfRequest_13 : decode cL_userOfRequest 13 = .ok (.iconst 1, 1) := by decide +kernel
theorem dL_userOfRequest_14 : decode cL_userOfRequest 14 = .ok (.ireturn, 1) := by decide +kernel
theorem dL_userOfRequest_15 : decode cL_userOfRequest 15 = .ok (.iconst 0, 1) := by decide +kernel
theorem dL_userOfRequest_16 : decode cL_userOfRequest 16 = .ok (.ireturn, 1) := by decide +kernel
theorem dL_objectOfRequest_0 : decode cL_objectOfRequest 0 = .ok (.aload_n 2, 1) := by decide +kernel
theorem dL_objectOfRequest_1 : decode cL_objectOfRequest 1 = .ok (.iconst 0, 1) := by decide +kernel
theorem dL_objectOfRequest_2 : decode cL_objectOfRequest 2 = .ok (.aload_n 0, 1) := by decide +kernel
theorem dL_objectOfRequest_3 : decode cL_objectOfRequest 3 = .ok (.iload_n 1, 1) := by decide +kernel
theorem dL_objectOfRequest_4 : decode cL_objectOfRequest 4 = .ok (.invokevirtual 176, 3) := by decide +kernel
theorem dL_objectOfRequest_7 : decode cL_objectOfRequest 7 = .ok (.i2l, 1) := by decide +kernel
theorem dL_objectOfRequest_8 : decode cL_objectOfRequest 8 = .ok (.lastore, 1) := by decide +kernel
theorem dL_objectOfRequest_9 : decode cL_objectOfRequest 9 = .ok (.goto 6, 3) := by decide +kernel
theorem dL_objectOfRequest_12 : decode cL_objectOfRequest 12 = .ok (.astore_n 3, 1) := by decide +kernel
theorem dL_objectOfRequest_13 : decode cL_objectOfRequest 13 = .ok (.iconst 1, 1) := by decide +kernel
theorem dL_objectOfRequest_14 : decode cL_objectOfRequest 14 = .ok (.ireturn, 1) := by decide +kernel
theorem dL_objectOfRequest_15 : decode cL_objectOfRequest 15 = .ok (.iconst 0, 1) := by decide +kernel
theorem dL_objectOfRequest_16 : decode cL_objectOfRequest 16 = .ok (.ireturn, 1) := by decide +kernel
theorem dL_wasAllowed_0 : decode cL_wasAllowed 0 = .ok (.aload_n 2, 1) := by decide +kernel
theorem dL_wasAllowed_1 : decode cL_wasAllowed 1 = .ok (.iconst 0, 1) := by decide +kernel
theorem dL_wasAllowed_2 : decode cL_wasAllowed 2 = .ok (.aload_n 0, 1) := by decide +kernel
theorem dL_wasAllowed_3 : decode cL_wasAllowed 3 = .ok (.iload_n 1, 1) := by decide +kernel
theorem dL_wasAllowed_4 : decode cL_wasAllowed 4 = .ok (.invokevirtual 179, 3) := by decide +kernel
theorem dL_wasAllowed_7 : decode cL_wasAllowed 7 = .ok (.ifCond .eq 7, 3) := by decide +kernel
theorem dL_wasAllowed_10 : decode cL_wasAllowed 10 = .ok (.lconst 1, 1) := by decide +kernel
theorem dL_wasAllowed_11 : decode cL_wasAllowed 11 = .ok (.goto 4, 3) := by decide +kernel
theorem dL_wasAllowed_14 : decode cL_wasAllowed 14 = .ok (.lconst 0, 1) := by decide +kernel
theorem dL_wasAllowed_15 : decode cL_wasAllowed 15 = .ok (.lastore, 1) := by decide +kernel
theorem dL_wasAllowed_16 : decode cL_wasAllowed 16 = .ok (.goto 6, 3) := by decide +kernel
theorem dL_wasAllowed_19 : decode cL_wasAllowed 19 = .ok (.astore_n 3, 1) := by decide +kernel
theorem dL_wasAllowed_20 : decode cL_wasAllowed 20 = .ok (.iconst 1, 1) := by decide +kernel
theorem dL_wasAllowed_21 : decode cL_wasAllowed 21 = .ok (.ireturn, 1) := by decide +kernel
theorem dL_wasAllowed_22 : decode cL_wasAllowed 22 = .ok (.iconst 0, 1) := by decide +kernel
theorem dL_wasAllowed_23 : decode cL_wasAllowed 23 = .ok (.ireturn, 1) := by decide +kernel
theorem dL_undo_0 : decode cL_undo 0 = .ok (.aload_n 1, 1) := by decide +kernel
theorem dL_undo_1 : decode cL_undo 1 = .ok (.iconst 0, 1) := by decide +kernel
theorem dL_undo_2 : decode cL_undo 2 = .ok (.aload_n 0, 1) := by decide +kernel
theorem dL_undo_3 : decode cL_undo 3 = .ok (.invokevirtual 182, 3) := by decide +kernel
theorem dL_undo_6 : decode cL_undo 6 = .ok (.i2l, 1) := by decide +kernel
theorem dL_undo_7 : decode cL_undo 7 = .ok (.lastore, 1) := by decide +kernel
theorem dL_undo_8 : decode cL_undo 8 = .ok (.goto 6, 3) := by decide +kernel
theorem dL_undo_11 : decode cL_undo 11 = .ok (.astore_n 2, 1) := by decide +kernel
theorem dL_undo_12 : decode cL_undo 12 = .ok (.iconst 1, 1) := by decide +kernel
theorem dL_undo_13 : decode cL_undo 13 = .ok (.ireturn, 1) := by decide +kernel
theorem dL_undo_14 : decode cL_undo 14 = .ok (.iconst 0, 1) := by decide +kernel
theorem dL_undo_15 : decode cL_undo 15 = .ok (.ireturn, 1) := by decide +kernel
theorem dL_save_0 : decode cL_save 0 = .ok (.aload_n 2, 1) := by decide +kernel
theorem dL_save_1 : decode cL_save 1 = .ok (.iconst 0, 1) := by decide +kernel
theorem dL_save_2 : decode cL_save 2 = .ok (.aload_n 0, 1) := by decide +kernel
theorem dL_save_3 : decode cL_save 3 = .ok (.iload_n 1, 1) := by decide +kernel
theorem dL_save_4 : decode cL_save 4 = .ok (.invokevirtual 185, 3) := by decide +kernel
theorem dL_save_7 : decode cL_save 7 = .ok (.i2l, 1) := by decide +kernel
theorem dL_save_8 : decode cL_save 8 = .ok (.lastore, 1) := by decide +kernel
theorem dL_save_9 : decode cL_save 9 = .ok (.goto 6, 3) := by decide +kernel
theorem dL_save_12 : decode cL_save 12 = .ok (.astore_n 3, 1) := by decide +kernel
theorem dL_save_13 : decode cL_save 13 = .ok (.iconst 1, 1) := by decide +kernel
theorem dL_save_14 : decode cL_save 14 = .ok (.ireturn, 1) := by decide +kernel
theorem dL_save_15 : decode cL_save 15 = .ok (.iconst 0, 1) := by decide +kernel
theorem dL_save_16 : decode cL_save 16 = .ok (.ireturn, 1) := by decide +kernel
theorem dL_restore_0 : decode cL_restore 0 = .ok (.aload_n 2, 1) := by decide +kernel
theorem dL_restore_1 : decode cL_restore 1 = .ok (.iconst 0, 1) := by decide +kernel
theorem dL_restore_2 : decode cL_restore 2 = .ok (.aload_n 0, 1) := by decide +kernel
theorem dL_restore_3 : decode cL_restore 3 = .ok (.iload_n 1, 1) := by decide +kernel
theorem dL_restore_4 : decode cL_restore 4 = .ok (.invokevirtual 188, 3) := by decide +kernel
theorem dL_restore_7 : decode cL_restore 7 = .ok (.i2l, 1) := by decide +kernel
theorem dL_restore_8 : decode cL_restore 8 = .ok (.lastore, 1) := by decide +kernel
theorem dL_restore_9 : decode cL_restore 9 = .ok (.goto 9, 3) := by decide +kernel
theorem dL_restore_12 : decode cL_restore 12 = .ok (.astore_n 3, 1) := by decide +kernel
theorem dL_restore_13 : decode cL_restore 13 = .ok (.iconst 1, 1) := by decide +kernel
theorem dL_restore_14 : decode cL_restore 14 = .ok (.ireturn, 1) := by decide +kernel
theorem dL_restore_15 : decode cL_restore 15 = .ok (.astore_n 3, 1) := by decide +kernel
theorem dL_restore_16 : decode cL_restore 16 = .ok (.iconst 2, 1) := by decide +kernel
theorem dL_restore_17 : decode cL_restore 17 = .ok (.ireturn, 1) := by decide +kernel
theorem dL_restore_18 : decode cL_restore 18 = .ok (.iconst 0, 1) := by decide +kernel
theorem dL_restore_19 : decode cL_restore 19 = .ok (.ireturn, 1) := by decide +kernel
