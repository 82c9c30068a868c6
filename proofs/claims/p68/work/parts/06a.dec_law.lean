theorem dL_cell_0 : decode cL_cell 0 = .ok (.iload_n 1, 1) := by decide +kernel
theorem dL_cell_1 : decode cL_cell 1 = .ok (.aload_n 0, 1) := by decide +kernel
theorem dL_cell_2 : decode cL_cell 2 = .ok (.arraylength, 1) := by decide +kernel
theorem dL_cell_3 : decode cL_cell 3 = .ok (.if_icmp .ge 9, 3) := by decide +kernel
theorem dL_cell_6 : decode cL_cell 6 = .ok (.aload_n 0, 1) := by decide +kernel
theorem dL_cell_7 : decode cL_cell 7 = .ok (.iload_n 1, 1) := by decide +kernel
theorem dL_cell_8 : decode cL_cell 8 = .ok (.iaload, 1) := by decide +kernel
theorem dL_cell_9 : decode cL_cell 9 = .ok (.goto 9, 3) := by decide +kernel
theorem dL_cell_12 : decode cL_cell 12 = .ok (.ldc 7, 2) := by decide +kernel
theorem dL_cell_14 : decode cL_cell 14 = .ok (.iload_n 1, 1) := by decide +kernel
theorem dL_cell_15 : decode cL_cell 15 = .ok (.iconst 3, 1) := by decide +kernel
theorem dL_cell_16 : decode cL_cell 16 = .ok (.iadd, 1) := by decide +kernel
theorem dL_cell_17 : decode cL_cell 17 = .ok (.imul, 1) := by decide +kernel
theorem dL_cell_18 : decode cL_cell 18 = .ok (.ireturn, 1) := by decide +kernel
theorem dL_addUserOf_0 : decode cL_addUserOf 0 = .ok (.aload_n 0, 1) := by decide +kernel
theorem dL_addUserOf_1 : decode cL_addUserOf 1 = .ok (.invokevirtual 9, 3) := by decide +kernel
theorem dL_addUserOf_4 : decode cL_addUserOf 4 = .ok (.ireturn, 1) := by decide +kernel
theorem dL_addUserOf_5 : decode cL_addUserOf 5 = .ok (.astore_n 1, 1) := by decide +kernel
theorem dL_addUserOf_6 : decode cL_addUserOf 6 = .ok (.bipush (-101), 2) := by decide +kernel
theorem dL_addUserOf_8 : decode cL_addUserOf 8 = .ok (.ireturn, 1) := by decide +kernel
theorem dL_addGroupOf_0 : decode cL_addGroupOf 0 = .ok (.aload_n 0, 1) := by decide +kernel
theorem dL_addGroupOf_1 : decode cL_addGroupOf 1 = .ok (.invokevirtual 17, 3) := by decide +kernel
theorem dL_addGroupOf_4 : decode cL_addGroupOf 4 = .ok (.ireturn, 1) := by decide +kernel
theorem dL_addGroupOf_5 : decode cL_addGroupOf 5 = .ok (.astore_n 1, 1) := by decide +kernel
theorem dL_addGroupOf_6 : decode cL_addGroupOf 6 = .ok (.bipush (-101), 2) := by decide +kernel
theorem dL_addGroupOf_8 : decode cL_addGroupOf 8 = .ok (.ireturn, 1) := by decide +kernel
theorem dL_joinOf_0 : decode cL_joinOf 0 = .ok (.aload_n 0, 1) := by decide +kernel
theorem dL_joinOf_1 : decode cL_joinOf 1 = .ok (.iload_n 1, 1) := by decide +kernel
theorem dL_joinOf_2 : decode cL_joinOf 2 = .ok (.iload_n 2, 1) := by decide +kernel
theorem dL_joinOf_3 : decode cL_joinOf 3 = .ok (.invokevirtual 20, 3) := by decide +kernel
theorem dL_joinOf_6 : decode cL_joinOf 6 = .ok (.ireturn, 1) := by decide +kernel
theorem dL_joinOf_7 : decode cL_joinOf 7 = .ok (.astore_n 3, 1) := by decide +kernel
theorem dL_joinOf_8 : decode cL_joinOf 8 = .ok (.bipush (-101), 2) := by decide +kernel
theorem dL_joinOf_10 : decode cL_joinOf 10 = .ok (.ireturn, 1) := by decide +kernel
theorem dL_joinOf_11 : decode cL_joinOf 11 = .ok (.astore_n 3, 1) := by decide +kernel
theorem dL_joinOf_12 : decode cL_joinOf 12 = .ok (.bipush (-102), 2) := by decide +kernel
theorem dL_joinOf_14 : decode cL_joinOf 14 = .ok (.ireturn, 1) := by decide +kernel
theorem dL_leaveOf_0 : decode cL_leaveOf 0 = .ok (.aload_n 0, 1) := by decide +kernel
theorem dL_leaveOf_1 : decode cL_leaveOf 1 = .ok (.iload_n 1, 1) := by decide +kernel
theorem dL_leaveOf_2 : decode cL_leaveOf 2 = .ok (.iload_n 2, 1) := by decide +kernel
theorem dL_leaveOf_3 : decode cL_leaveOf 3 = .ok (.invokevirtual 26, 3) := by decide +kernel
theorem dL_leaveOf_6 : decode cL_leaveOf 6 = .ok (.ireturn, 1) := by decide +kernel
theorem dL_leaveOf_7 : decode cL_leaveOf 7 = .ok (.astore_n 3, 1) := by decide +kernel
theorem dL_leaveOf_8 : decode cL_leaveOf 8 = .ok (.bipush (-101), 2) := by decide +kernel
theorem dL_leaveOf_10 : decode cL_leaveOf 10 = .ok (.ireturn, 1) := by decide +kernel
theorem dL_leaveOf_11 : decode cL_leaveOf 11 = .ok (.astore_n 3, 1) := by decide +kernel
theorem dL_leaveOf_12 : decode cL_leaveOf 12 = .ok (.bipush (-102), 2) := by decide +kernel
theorem dL_leaveOf_14 : decode cL_leaveOf 14 = .ok (.ireturn, 1) := by decide +kernel
theorem dL_nestOf_0 : decode cL_nestOf 0 = .ok (.aload_n 0, 1) := by decide +kernel
theorem dL_nestOf_1 : decode cL_nestOf 1 = .ok (.iload_n 1, 1) := by decide +kernel
theorem dL_nestOf_2 : decode cL_nestOf 2 = .ok (.iload_n 2, 1) := by decide +kernel
theorem dL_nestOf_3 : decode cL_nestOf 3 = .ok (.invokevirtual 29, 3) := by decide +kernel
theorem dL_nestOf_6 : decode cL_nestOf 6 = .ok (.ireturn, 1) := by decide +kernel
theorem dL_nestOf_7 : decode cL_nestOf 7 = .ok (.astore_n 3, 1) := by decide +kernel
theorem dL_nestOf_8 : decode cL_nestOf 8 = .ok (.bipush (-101), 2) := by decide +kernel
theorem dL_nestOf_10 : decode cL_nestOf 10 = .ok (.ireturn, 1) := by decide +kernel
theorem dL_nestOf_11 : decode cL_nestOf 11 = .ok (.astore_n 3, 1) := by decide +kernel
theorem dL_nestOf_12 : decode cL_nestOf 12 = .ok (.bipush (-102), 2) := by decide +kernel
theorem dL_nestOf_14 : decode cL_nestOf 14 = .ok (.ireturn, 1) := by decide +kernel
theorem dL_unnestOf_0 : decode cL_unnestOf 0 = .ok (.aload_n 0, 1) := by decide +kernel
theorem dL_unnestOf_1 : decode cL_unnestOf 1 = .ok (.iload_n 1, 1) := by decide +kernel
theorem dL_unnestOf_2 : decode cL_unnestOf 2 = .ok (.iload_n 2, 1) := by decide +kernel
theorem dL_unnestOf_3 : decode cL_unnestOf 3 = .ok (.invokevirtual 32, 3) := by decide +kernel
theorem dL_unnestOf_6 : decode cL_unnestOf 6 = .ok (.ireturn, 1) := by decide +kernel
theorem dL_unnestOf_7 : decode cL_unnestOf 7 = .ok (.astore_n 3, 1) := by decide +kernel
theorem dL_unnestOf_8 : decode cL_unnestOf 8 = .ok (.bipush (-101), 2) := by decide +kernel
theorem dL_unnestOf_10 : decode cL_unnestOf 10 = .ok (.ireturn, 1) := by decide +kernel
theorem dL_unnestOf_11 : decode cL_unnestOf 11 = .ok (.astore_n 3, 1) := by decide +kernel
theorem dL_unnestOf_12 : decode cL_unnestOf 12 = .ok (.bipush (-102), 2) := by decide +kernel
theorem dL_unnestOf_14 : decode cL_unnestOf 14 = .ok (.ireturn, 1) := by decide +kernel
theorem dL_makeOf_0 : decode cL_makeOf 0 = .ok (.aload_n 0, 1) := by decide +kernel
theorem dL_makeOf_1 : decode cL_makeOf 1 = .ok (.iload_n 1, 1) := by decide +kernel
theorem dL_makeOf_2 : decode cL_makeOf 2 = .ok (.iload_n 2, 1) := by decide +kernel
theorem dL_makeOf_3 : decode cL_makeOf 3 = .ok (.invokevirtual 35, 3) := by decide +kernel
theorem dL_makeOf_6 : decode cL_makeOf 6 = .ok (.ireturn, 1) := by decide +kernel
theorem dL_makeOf_7 : decode cL_makeOf 7 = .ok (.astore_n 3, 1) := by decide +kernel
theorem dL_makeOf_8 : decode cL_makeOf 8 = .ok (.bipush (-101), 2) := by decide +kernel
theorem dL_makeOf_10 : decode cL_makeOf 10 = .ok (.ireturn, 1) := by decide +kernel
theorem dL_makeOf_11 : decode cL_makeOf 11 = .ok (.astore_n 3, 1) := by decide +kernel
theorem dL_makeOf_12 : decode cL_makeOf 12 = .ok (.bipush (-102), 2) := by decide +kernel
theorem dL_makeOf_14 : decode cL_makeOf 14 = .ok (.ireturn, 1) := by decide +kernel
theorem dL_removeOf_0 : decode cL_removeOf 0 = .ok (.aload_n 0, 1) := by decide +kernel
theorem dL_removeOf_1 : decode cL_removeOf 1 = .ok (.iload_n 1, 1) := by decide +kernel
theorem dL_removeOf_2 : decode cL_removeOf 2 = .ok (.invokevirtual 38, 3) := by decide +kernel
theorem dL_removeOf_5 : decode cL_removeOf 5 = .ok (.ireturn, 1) := by decide +kernel
theorem dL_removeOf_6 : decode cL_removeOf 6 = .ok (.astore_n 2, 1) := by decide +kernel
theorem dL_removeOf_7 : decode cL_removeOf 7 = .ok (.bipush (-101), 2) := by decide +kernel
theorem dL_removeOf_9 : decode cL_removeOf 9 = .ok (.ireturn, 1) := by decide +kernel
theorem dL_removeOf_10 : decode cL_removeOf 10 = .ok (.astore_n 2, 1) := by decide +kernel
theorem dL_removeOf_11 : decode cL_removeOf 11 = .ok (.bipush (-102), 2) := by decide +kernel
theorem dL_removeOf_13 : decode cL_removeOf 13 = .ok (.ireturn, 1) := by decide +kernel
theorem dL_moveOf_0 : decode cL_moveOf 0 = .ok (.aload_n 0, 1) := by decide +kernel
theorem dL_moveOf_1 : decode cL_moveOf 1 = .ok (.iload_n 1, 1) := by decide +kernel
theorem dL_moveOf_2 : decode cL_moveOf 2 = .ok (.iload_n 2, 1) := by decide +kernel
theorem dL_moveOf_3 : decode cL_moveOf 3 = .ok (.invokevirtual 42, 3) := by decide +kernel
theorem dL_moveOf_6 : decode cL_moveOf 6 = .ok (.ireturn, 1) := by decide +kernel
theorem dL_moveOf_7 : decode cL_moveOf 7 = .ok (.astore_n 3, 1) := by decide +kernel
theorem dL_moveOf_8 : decode cL_moveOf 8 = .ok (.bipush (-101), 2) := by decide +kernel
theorem dL_moveOf_10 : decode cL_moveOf 10 = .ok (.ireturn, 1) := by decide +kernel
theorem dL_moveOf_11 : decode cL_moveOf 11 = .ok (.astore_n 3, 1) := by decide +kernel
theorem dL_moveOf_12 : decode cL_moveOf 12 = .ok (.bipush (-102), 2) := by decide +kernel
theorem dL_moveOf_14 : decode cL_moveOf 14 = .ok (.ireturn, 1) := by decide +kernel
theorem dL_giveToOf_0 : decode cL_giveToOf 0 = .ok (.aload_n 0, 1) := by decide +kernel
theorem dL_giveToOf_1 : decode cL_giveToOf 1 = .ok (.iload_n 1, 1) := by decide +kernel
theorem dL_giveToOf_2 : decode cL_giveToOf 2 = .ok (.iload_n 2, 1) := by decide +kernel
theorem dL_giveToOf_3 : decode cL_giveToOf 3 = .ok (.invokevirtual 45, 3) := by decide +kernel
theorem dL_giveToOf_6 : decode cL_giveToOf 6 = .ok (.ireturn, 1) := by decide +kernel
theorem dL_giveToOf_7 : decode cL_giveToOf 7 = .ok (.astore_n 3, 1) := by decide +kernel
theorem dL_giveToOf_8 : decode cL_giveToOf 8 = .ok (.bipush (-101), 2) := by decide +kernel
theorem dL_giveToOf_10 : decode cL_giveToOf 10 = .ok (.ireturn, 1) := by decide +kernel
theorem dL_setMaskOf_0 : decode cL_setMaskOf 0 = .ok (.aload_n 0, 1) := by decide +kernel
theorem dL_setMaskOf_1 : decode cL_setMaskOf 1 = .ok (.iload_n 1, 1) := by decide +kernel
theorem dL_setMaskOf_2 : decode cL_setMaskOf 2 = .ok (.iload_n 2, 1) := by decide +kernel
theorem dL_setMaskOf_3 : decode cL_setMaskOf 3 = .ok (.invokevirtual 48, 3) := by decide +kernel
theorem dL_setMaskOf_6 : decode cL_setMaskOf 6 = .ok (.ireturn, 1) := by decide +kernel
theorem dL_setMaskOf_7 : decode cL_setMaskOf 7 = .ok (.astore_n 3, 1) := by decide +kernel
theorem dL_setMaskOf_8 : decode cL_setMaskOf 8 = .ok (.bipush (-101), 2) := by decide +kernel
theorem dL_setMaskOf_10 : decode cL_setMaskOf 10 = .ok (.ireturn, 1) := by decide +kernel
theorem dL_setMaskOf_11 : decode cL_setMaskOf 11 = .ok (.astore_n 3, 1) := by decide +kernel
theorem dL_setMaskOf_12 : decode cL_setMaskOf 12 = .ok (.bipush (-102), 2) := by decide +kernel
theorem dL_setMaskOf_14 : decode cL_setMaskOf 14 = .ok (.ireturn, 1) := by decide +kernel
theorem dL_setInheritingOf_0 : decode cL_setInheritingOf 0 = .ok (.aload_n 0, 1) := by decide +kernel
theorem dL_setInheritingOf_1 : decode cL_setInheritingOf 1 = .ok (.iload_n 1, 1) := by decide +kernel
theorem dL_setInheritingOf_2 : decode cL_setInheritingOf 2 = .ok (.iload_n 2, 1) := by decide +kernel
theorem dL_setInheritingOf_3 : decode cL_setInheritingOf 3 = .ok (.invokevirtual 53, 3) := by decide +kernel
theorem dL_setInheritingOf_6 : decode cL_setInheritingOf 6 = .ok (.ifCond .eq 7, 3) := by decide +kernel
theorem dL_setInheritingOf_9 : decode cL_setInheritingOf 9 = .ok (.iconst 1, 1) := by decide +kernel
theorem dL_setInheritingOf_10 : decode cL_setInheritingOf 10 = .ok (.goto 4, 3) := by decide +kernel
theorem dL_setInheritingOf_13 : decode cL_setInheritingOf 13 = .ok (.iconst 0, 1) := by decide +kernel
theorem dL_setInheritingOf_14 : decode cL_setInheritingOf 14 = .ok (.ireturn, 1) := by decide +kernel
theorem dL_setInheritingOf_15 : decode cL_setInheritingOf 15 = .ok (.astore_n 3, 1) := by decide +kernel
theorem dL_setInheritingOf_16 : decode cL_setInheritingOf 16 = .ok (.bipush (-101), 2) := by decide +kernel
theorem dL_setInheritingOf_18 : decode cL_setInheritingOf 18 = .ok (.ireturn, 1) := by decide +kernel
theorem dL_addForUserOf_0 : decode cL_addForUserOf 0 = .ok (.aload_n 0, 1) := by decide +kernel
theorem dL_addForUserOf_1 : decode cL_addForUserOf 1 = .ok (.iload_n 1, 1) := by decide +kernel
theorem dL_addForUserOf_2 : decode cL_addForUserOf 2 = .ok (.iload_n 2, 1) := by decide +kernel
theorem dL_addForUserOf_3 : decode cL_addForUserOf 3 = .ok (.iload_n 3, 1) := by decide +kernel
theorem dL_addForUserOf_4 : decode cL_addForUserOf 4 = .ok (.iload 4, 2) := by decide +kernel
theorem dL_addForUserOf_6 : decode cL_addForUserOf 6 = .ok (.iload 5, 2) := by decide +kernel
theorem dL_addForUserOf_8 : decode cL_addForUserOf 8 = .ok (.invokevirtual 57, 3) := by decide +kernel
theorem dL_addForUserOf_11 : decode cL_addForUserOf 11 = .ok (.ireturn, 1) := by decide +kernel
theorem dL_addForUserOf_12 : decode cL_addForUserOf 12 = .ok (.astore 6, 2) := by decide +kernel
theorem dL_addForUserOf_14 : decode cL_addForUserOf 14 = .ok (.bipush (-101), 2) := by decide +kernel
theorem dL_addForUserOf_16 : decode cL_addForUserOf 16 = .ok (.ireturn, 1) := by decide +kernel
theorem dL_addForUserOf_17 : decode cL_addForUserOf 17 = .ok (.astore 6, 2) := by decide +kernel
theorem dL_addForUserOf_19 : decode cL_addForUserOf 19 = .ok (.bipush (-102), 2) := by decide +kernel
theorem dL_addForUserOf_21 : decode cL_addForUserOf 21 = .ok (.ireturn, 1) := by decide +kernel
theorem dL_addForUserOf_22 : decode cL_addForUserOf 22 = .ok (.astore 6, 2) := by decide +kernel
theorem dL_addForUserOf_24 : decode cL_addForUserOf 24 = .ok (.bipush (-103), 2) := by decide +kernel
theorem dL_addForUserOf_26 : decode cL_addForUserOf 26 = .ok (.ireturn, 1) := by decide +kernel
theorem dL_addForGroupOf_0 : decode cL_addForGroupOf 0 = .ok (.aload_n 0, 1) := by decide +kernel
theorem dL_addForGroupOf_1 : decode cL_addForGroupOf 1 = .ok (.iload_n 1, 1) := by decide +kernel
theorem dL_addForGroupOf_2 : decode cL_addForGroupOf 2 = .ok (.iload_n 2, 1) := by decide +kernel
theorem dL_addForGroupOf_3 : decode cL_addForGroupOf 3 = .ok (.iload_n 3, 1) := by decide +kernel
theorem dL_addForGroupOf_4 : decode cL_addForGroupOf 4 = .ok (.iload 4, 2) := by decide +kernel
theorem dL_addForGroupOf_6 : decode cL_addForGroupOf 6 = .ok (.iload 5, 2) := by decide +kernel
theorem dL_addForGroupOf_8 : decode cL_addForGroupOf 8 = .ok (.invokevirtual 61, 3) := by decide +kernel
theorem dL_addForGroupOf_11 : decode cL_addForGroupOf 11 = .ok (.ireturn, 1) := by decide +kernel
theorem dL_addForGroupOf_12 : decode cL_addForGroupOf 12 = .ok (.astore 6, 2) := by decide +kernel
theorem dL_addForGroupOf_14 : decode cL_addForGroupOf 14 = .ok (.bipush (-101), 2) := by decide +kernel
theorem dL_addForGroupOf_16 : decode cL_addForGroupOf 16 = .ok (.ireturn, 1) := by decide +kernel
theorem dL_addForGroupOf_17 : decode cL_addForGroupOf 17 = .ok (.astore 6, 2) := by decide +kernel
theorem dL_addForGroupOf_19 : decode cL_addForGroupOf 19 = .ok (.bipush (-102), 2) := by decide +kernel
theorem dL_addForGroupOf_21 : decode cL_addForGroupOf 21 = .ok (.ireturn, 1) := by decide +kernel
theorem dL_addForGroupOf_22 : decode cL_addForGroupOf 22 = .ok (.astore 6, 2) := by decide +kernel
theorem dL_addForGroupOf_24 : decode cL_addForGroupOf 24 = .ok (.bipush (-103), 2) := by decide +kernel
theorem dL_addForGroupOf_26 : decode cL_addForGroupOf 26 = .ok (.ireturn, 1) := by decide +kernel
theorem dL_addForOwnerOf_0 : decode cL_addForOwnerOf 0 = .ok (.aload_n 0, 1) := by decide +kernel
theorem dL_addForOwnerOf_1 : decode cL_addForOwnerOf 1 = .ok (.iload_n 1, 1) := by decide +kernel
theorem dL_addForOwnerOf_2 : decode cL_addForOwnerOf 2 = .ok (.iload_n 2, 1) := by decide +kernel
theorem dL_addForOwnerOf_3 : decode cL_addForOwnerOf 3 = .ok (.iload_n 3, 1) := by decide +kernel
theorem dL_addForOwnerOf_4 : decode cL_addForOwnerOf 4 = .ok (.iload 4, 2) := by decide +kernel
theorem dL_addForOwnerOf_6 : decode cL_addForOwnerOf 6 = .ok (.invokevirtual 64, 3) := by decide +kernel
theorem dL_addForOwnerOf_9 : decode cL_addForOwnerOf 9 = .ok (.ireturn, 1) := by decide +kernel
theorem dL_addForOwnerOf_10 : decode cL_addForOwnerOf 10 = .ok (.astore 5, 2) := by decide +kernel
theorem dL_addForOwnerOf_12 : decode cL_addForOwnerOf 12 = .ok (.bipush (-101), 2) := by decide +kernel
theorem dL_addForOwnerOf_14 : decode cL_addForOwnerOf 14 = .ok (.ireturn, 1) := by decide +kernel
theorem dL_addForOwnerOf_15 : decode cL_addForOwnerOf 15 = .ok (.astore 5, 2) := by decide +kernel
theorem dL_addForOwnerOf_17 : decode cL_addForOwnerOf 17 = .ok (.bipush (-102), 2) := by decide +kernel
theorem dL_addForOwnerOf_19 : decode cL_addForOwnerOf 19 = .ok (.ireturn, 1) := by decide +kernel
theorem dL_addForOwnerOf_20 : decode cL_addForOwnerOf 20 = .ok (.astore 5, 2) := by decide +kernel
theorem dL_addForOwnerOf_22 : decode cL_addForOwnerOf 22 = .ok (.bipush (-103), 2) := by decide +kernel
theorem dL_addForOwnerOf_24 : decode cL_addForOwnerOf 24 = .ok (.ireturn, 1) := by decide +kernel
theorem dL_addForAllOf_0 : decode cL_addForAllOf 0 = .ok (.aload_n 0, 1) := by decide +kernel
theorem dL_addForAllOf_1 : decode cL_addForAllOf 1 = .ok (.iload_n 1, 1) := by decide +kernel
theorem dL_addForAllOf_2 : decode cL_addForAllOf 2 = .ok (.iload_n 2, 1) := by decide +kernel
theorem dL_addForAllOf_3 : decode cL_addForAllOf 3 = .ok (.iload_n 3, 1) := by decide +kernel
theorem dL_addForAllOf_4 : decode cL_addForAllOf 4 = .ok (.iload 4, 2) := by decide +kernel
theorem dL_addForAllOf_6 : decode cL_addForAllOf 6 = .ok (.invokevirtual 68, 3) := by decide +kernel
theorem dL_addForAllOf_9 : decode cL_addForAllOf 9 = .ok (.ireturn, 1) := by decide +kernel
theorem dL_addForAllOf_10 : decode cL_addForAllOf 10 = .ok (.astore 5, 2) := by decide +kernel
theorem dL_addForAllOf_12 : decode cL_addForAllOf 12 = .ok (.bipush (-101), 2) := by decide +kernel
theorem dL_addForAllOf_14 : decode cL_addForAllOf 14 = .ok (.ireturn, 1) := by decide +kernel
theorem dL_addForAllOf_15 : decode cL_addForAllOf 15 = .ok (.astore 5, 2) := by decide +kernel
theorem dL_addForAllOf_17 : decode cL_addForAllOf 17 = .ok (.bipush (-102), 2) := by decide +kernel
theorem dL_addForAllOf_19 : decode cL_addForAllOf 19 = .ok (.ireturn, 1) := by decide +kernel
theorem dL_addForAllOf_20 : decode cL_addForAllOf 20 = .ok (.astore 5, 2) := by decide +kernel
theorem dL_addForAllOf_22 : decode cL_addForAllOf 22 = .ok (.bipush (-103), 2) := by decide +kernel
theorem dL_addForAllOf_24 : decode cL_addForAllOf 24 = .ok (.ireturn, 1) := by decide +kernel
theorem dL_removeEntryOf_0 : decode cL_removeEntryOf 0 = .ok (.aload_n 0, 1) := by decide +kernel
theorem dL_removeEntryOf_1 : decode cL_removeEntryOf 1 = .ok (.iload_n 1, 1) := by decide +kernel
theorem dL_removeEntryOf_2 : decode cL_removeEntryOf 2 = .ok (.iload_n 2, 1) := by decide +kernel
theorem dL_removeEntryOf_3 : decode cL_removeEntryOf 3 = .ok (.invokevirtual 71, 3) := by decide +kernel
theorem dL_removeEntryOf_6 : decode cL_removeEntryOf 6 = .ok (.ireturn, 1) := by decide +kernel
theorem dL_removeEntryOf_7 : decode cL_removeEntryOf 7 = .ok (.astore_n 3, 1) := by decide +kernel
theorem dL_removeEntryOf_8 : decode cL_removeEntryOf 8 = .ok (.bipush (-101), 2) := by decide +kernel
theorem dL_removeEntryOf_10 : decode cL_removeEntryOf 10 = .ok (.ireturn, 1) := by decide +kernel
theorem dL_moveEntryOf_0 : decode cL_moveEntryOf 0 = .ok (.aload_n 0, 1) := by decide +kernel
theorem dL_moveEntryOf_1 : decode cL_moveEntryOf 1 = .ok (.iload_n 1, 1) := by decide +kernel
theorem dL_moveEntryOf_2 : decode cL_moveEntryOf 2 = .ok (.iload_n 2, 1) := by decide +kernel
theorem dL_moveEntryOf_3 : decode cL_moveEntryOf 3 = .ok (.iload_n 3, 1) := by decide +kernel
theorem dL_moveEntryOf_4 : decode cL_moveEntryOf 4 = .ok (.invokevirtual 74, 3) := by decide +kernel
theorem dL_moveEntryOf_7 : decode cL_moveEntryOf 7 = .ok (.ireturn, 1) := by decide +kernel
theorem dL_moveEntryOf_8 : decode cL_moveEntryOf 8 = .ok (.astore 4, 2) := by decide +kernel
theorem dL_moveEntryOf_10 : decode cL_moveEntryOf 10 = .ok (.bipush (-101), 2) := by decide +kernel
theorem dL_moveEntryOf_12 : decode cL_moveEntryOf 12 = .ok (.ireturn, 1) := by decide +kernel
theorem dL_askOf_0 : decode cL_askOf 0 = .ok (.aload_n 0, 1) := by decide +kernel
theorem dL_askOf_1 : decode cL_askOf 1 = .ok (.iload_n 1, 1) := by decide +kernel
theorem dL_askOf_2 : decode cL_askOf 2 = .ok (.iload_n 2, 1) := by decide +kernel
theorem dL_askOf_3 : decode cL_askOf 3 = .ok (.iload_n 3, 1) := by decide +kernel
theorem dL_askOf_4 : decode cL_askOf 4 = .ok (.invokevirtual 78, 3) := by decide +kernel
theorem dL_askOf_7 : decode cL_askOf 7 = .ok (.ifCond .eq 7, 3) := by decide +kernel
theorem dL_askOf_10 : decode cL_askOf 10 = .ok (.iconst 1, 1) := by decide +kernel
theorem dL_askOf_11 : decode cL_askOf 11 = .ok (.goto 4, 3) := by decide +kernel
theorem dL_askOf_14 : decode cL_askOf 14 = .ok (.iconst 0, 1) := by decide +kernel
theorem dL_askOf_15 : decode cL_askOf 15 = .ok (.ireturn, 1) := by decide +kernel
theorem dL_askOf_16 : decode cL_askOf 16 = .ok (.astore 4, 2) := by decide +kernel
theorem dL_askOf_18 : decode cL_askOf 18 = .ok (.bipush (-101), 2) := by decide +kernel
theorem dL_askOf_20 : decode cL_askOf 20 = .ok (.ireturn, 1) := by decide +kernel
theorem dL_askOf_21 : decode cL_askOf 21 = .ok (.astore 4, 2) := by decide +kernel
theorem dL_askOf_23 : decode cL_askOf 23 = .ok (.bipush (-102), 2) := by decide +kernel
theorem dL_askOf_25 : decode cL_askOf 25 = .ok (.ireturn, 1) := by decide +kernel
theorem dL_shareOf_0 : decode cL_shareOf 0 = .ok (.aload_n 0, 1) := by decide +kernel
theorem dL_shareOf_1 : decode cL_shareOf 1 = .ok (.iload_n 1, 1) := by decide +kernel
theorem dL_shareOf_2 : decode cL_shareOf 2 = .ok (.iload_n 2, 1) := by decide +kernel
theorem dL_shareOf_3 : decode cL_shareOf 3 = .ok (.iload_n 3, 1) := by decide +kernel
theorem dL_shareOf_4 : decode cL_shareOf 4 = .ok (.iload 4, 2) := by decide +kernel
theorem dL_shareOf_6 : decode cL_shareOf 6 = .ok (.invokevirtual 82, 3) := by decide +kernel
theorem dL_shareOf_9 : decode cL_shareOf 9 = .ok (.ireturn, 1) := by decide +kernel
theorem dL_shareOf_10 : decode cL_shareOf 10 = .ok (.astore 5, 2) := by decide +kernel
theorem dL_shareOf_12 : decode cL_shareOf 12 = .ok (.bipush (-101), 2) := by decide +kernel
theorem dL_shareOf_14 : decode cL_shareOf 14 = .ok (.ireturn, 1) := by decide +kernel
theorem dL_shareOf_15 : decode cL_shareOf 15 = .ok (.astore 5, 2) := by decide +kernel
theorem dL_shareOf_17 : decode cL_shareOf 17 = .ok (.bipush (-102), 2) := by decide +kernel
theorem dL_shareOf_19 : decode cL_shareOf 19 = .ok (.ireturn, 1) := by decide +kernel
theorem dL_shareOf_20 : decode cL_shareOf 20 = .ok (.astore 5, 2) := by decide +kernel
theorem dL_shareOf_22 : decode cL_shareOf 22 = .ok (.bipush (-103), 2) := by decide +kernel
theorem dL_shareOf_24 : decode cL_shareOf 24 = .ok (.ireturn, 1) := by decide +kernel
theorem dL_isMemberOf_0 : decode cL_isMemberOf 0 = .ok (.aload_n 0, 1) := by decide +kernel
theorem dL_isMemberOf_1 : decode cL_isMemberOf 1 = .ok (.iload_n 1, 1) := by decide +kernel
theorem dL_isMemberOf_2 : decode cL_isMemberOf 2 = .ok (.iload_n 2, 1) := by decide +kernel
theorem dL_isMemberOf_3 : decode cL_isMemberOf 3 = .ok (.invokevirtual 86, 3) := by decide +kernel
theorem dL_isMemberOf_6 : decode cL_isMemberOf 6 = .ok (.ifCond .eq 7, 3) := by decide +kernel
theorem dL_isMemberOf_9 : decode cL_isMemberOf 9 = .ok (.iconst 1, 1) := by decide +kernel
theorem dL_isMemberOf_10 : decode cL_isMemberOf 10 = .ok (.goto 4, 3) := by decide +kernel
theorem dL_isMemberOf_13 : decode cL_isMemberOf 13 = .ok (.iconst 0, 1) := by decide +kernel
theorem dL_isMemberOf_14 : decode cL_isMemberOf 14 = .ok (.ireturn, 1) := by decide +kernel
theorem dL_isMemberOf_15 : decode cL_isMemberOf 15 = .ok (.astore_n 3, 1) := by decide +kernel
theorem dL_isMemberOf_16 : decode cL_isMemberOf 16 = .ok (.bipush (-101), 2) := by decide +kernel
theorem dL_isMemberOf_18 : decode cL_isMemberOf 18 = .ok (.ireturn, 1) := by decide +kernel
theorem dL_isNestedOf_0 : decode cL_isNestedOf 0 = .ok (.aload_n 0, 1) := by decide +kernel
theorem dL_isNestedOf_1 : decode cL_isNestedOf 1 = .ok (.iload_n 1, 1) := by decide +kernel
theorem dL_isNestedOf_2 : decode cL_isNestedOf 2 = .ok (.iload_n 2, 1) := by decide +kernel
theorem dL_isNestedOf_3 : decode cL_isNestedOf 3 = .ok (.invokevirtual 90, 3) := by decide +kernel
theorem dL_isNestedOf_6 : decode cL_isNestedOf 6 = .ok (.ifCond .eq 7, 3) := by decide +kernel
theorem dL_isNestedOf_9 : decode cL_isNestedOf 9 = .ok (.iconst 1, 1) := by decide +kernel
theorem dL_isNestedOf_10 : decode cL_isNestedOf 10 = .ok (.goto 4, 3) := by decide +kernel
theorem dL_isNestedOf_13 : decode cL_isNestedOf 13 = .ok (.iconst 0, 1) := by decide +kernel
theorem dL_isNestedOf_14 : decode cL_isNestedOf 14 = .ok (.ireturn, 1) := by decide +kernel
theorem dL_isNestedOf_15 : decode cL_isNestedOf 15 = .ok (.astore_n 3, 1) := by decide +kernel
theorem dL_isNestedOf_16 : decode cL_isNestedOf 16 = .ok (.bipush (-101), 2) := by decide +kernel
theorem dL_isNestedOf_18 : decode cL_isNestedOf 18 = .ok (.ireturn, 1) := by decide +kernel
theorem dL_belongsOf_0 : decode cL_belongsOf 0 = .ok (.aload_n 0, 1) := by decide +kernel
theorem dL_belongsOf_1 : decode cL_belongsOf 1 = .ok (.iload_n 1, 1) := by decide +kernel
theorem dL_belongsOf_2 : decode cL_belongsOf 2 = .ok (.iload_n 2, 1) := by decide +kernel
theorem dL_belongsOf_3 : decode cL_belongsOf 3 = .ok (.invokevirtual 93, 3) := by decide +kernel
theorem dL_belongsOf_6 : decode cL_belongsOf 6 = .ok (.ifCond .eq 7, 3) := by decide +kernel
theorem dL_belongsOf_9 : decode cL_belongsOf 9 = .ok (.iconst 1, 1) := by decide +kernel
theorem dL_belongsOf_10 : decode cL_belongsOf 10 = .ok (.goto 4, 3) := by decide +kernel
theorem dL_belongsOf_13 : decode cL_belongsOf 13 = .ok (.iconst 0, 1) := by decide +kernel
theorem dL_belongsOf_14 : decode cL_belongsOf 14 = .ok (.ireturn, 1) := by decide +kernel
theorem dL_belongsOf_15 : decode cL_belongsOf 15 = .ok (.astore_n 3, 1) := by decide +kernel
theorem dL_belongsOf_16 : decode cL_belongsOf 16 = .ok (.bipush (-101), 2) := by decide +kernel
theorem dL_belongsOf_18 : decode cL_belongsOf 18 = .ok (.ireturn, 1) := by decide +kernel
theorem dL_belongsByMembersOf_0 : decode cL_belongsByMembersOf 0 = .ok (.aload_n 0, 1) := by decide +kernel
theorem dL_belongsByMembersOf_1 : decode cL_belongsByMembersOf 1 = .ok (.iload_n 1, 1) := by decide +kernel
theorem dL_belongsByMembersOf_2 : decode cL_belongsByMembersOf 2 = .ok (.iload_n 2, 1) := by decide +kernel
theorem dL_belongsByMembersOf_3 : decode cL_belongsByMembersOf 3 = .ok (.invokevirtual 96, 3) := by decide +kernel
theorem dL_belongsByMembersOf_6 : decode cL_belongsByMembersOf 6 = .ok (.ifCond .eq 7, 3) := by decide +kernel
theorem dL_belongsByMembersOf_9 : decode cL_belongsByMembersOf 9 = .ok (.iconst 1, 1) := by decide +kernel
theorem dL_belongsByMembersOf_10 : decode cL_belongsByMembersOf 10 = .ok (.goto 4, 3) := by decide +kernel
theorem dL_belongsByMembersOf_13 : decode cL_belongsByMembersOf 13 = .ok (.iconst 0, 1) := by decide +kernel
theorem dL_belongsByMembersOf_14 : decode cL_belongsByMembersOf 14 = .ok (.ireturn, 1) := by decide +kernel
theorem dL_belongsByMembersOf_15 : decode cL_belongsByMembersOf 15 = .ok (.astore_n 3, 1) := by decide +kernel
theorem dL_belongsByMembersOf_16 : decode cL_belongsByMembersOf 16 = .ok (.bipush (-101), 2) := by decide +kernel
theorem dL_belongsByMembersOf_18 : decode cL_belongsByMembersOf 18 = .ok (.ireturn, 1) := by decide +kernel
theorem dL_parentOfOf_0 : decode cL_parentOfOf 0 = .ok (.aload_n 0, 1) := by decide +kernel
theorem dL_parentOfOf_1 : decode cL_parentOfOf 1 = .ok (.iload_n 1, 1) := by decide +kernel
theorem dL_parentOfOf_2 : decode cL_parentOfOf 2 = .ok (.invokevirtual 99, 3) := by decide +kernel
theorem dL_parentOfOf_5 : decode cL_parentOfOf 5 = .ok (.ireturn, 1) := by decide +kernel
theorem dL_parentOfOf_6 : decode cL_parentOfOf 6 = .ok (.astore_n 2, 1) := by decide +kernel
theorem dL_parentOfOf_7 : decode cL_parentOfOf 7 = .ok (.bipush (-101), 2) := by decide +kernel
theorem dL_parentOfOf_9 : decode cL_parentOfOf 9 = .ok (.ireturn, 1) := by decide +kernel
theorem dL_ownerOfOf_0 : decode cL_ownerOfOf 0 = .ok (.aload_n 0, 1) := by decide +kernel
theorem dL_ownerOfOf_1 : decode cL_ownerOfOf 1 = .ok (.iload_n 1, 1) := by decide +kernel
theorem dL_ownerOfOf_2 : decode cL_ownerOfOf 2 = .ok (.invokevirtual 102, 3) := by decide +kernel
theorem dL_ownerOfOf_5 : decode cL_ownerOfOf 5 = .ok (.ireturn, 1) := by decide +kernel
theorem dL_ownerOfOf_6 : decode cL_ownerOfOf 6 = .ok (.astore_n 2, 1) := by decide +kernel
theorem dL_ownerOfOf_7 : decode cL_ownerOfOf 7 = .ok (.bipush (-101), 2) := by decide +kernel
theorem dL_ownerOfOf_9 : decode cL_ownerOfOf 9 = .ok (.ireturn, 1) := by decide +kernel
theorem dL_maskOfOf_0 : decode cL_maskOfOf 0 = .ok (.aload_n 0, 1) := by decide +kernel
theorem dL_maskOfOf_1 : decode cL_maskOfOf 1 = .ok (.iload_n 1, 1) := by decide +kernel
theorem dL_maskOfOf_2 : decode cL_maskOfOf 2 = .ok (.invokevirtual 105, 3) := by decide +kernel
theorem dL_maskOfOf_5 : decode cL_maskOfOf 5 = .ok (.ireturn, 1) := by decide +kernel
theorem dL_maskOfOf_6 : decode cL_maskOfOf 6 = .ok (.astore_n 2, 1) := by decide +kernel
theorem dL_maskOfOf_7 : decode cL_maskOfOf 7 = .ok (.bipush (-101), 2) := by decide +kernel
theorem dL_maskOfOf_9 : decode cL_maskOfOf 9 = .ok (.ireturn, 1) := by decide +kernel
theorem dL_isInheritingOf_0 : decode cL_isInheritingOf 0 = .ok (.aload_n 0, 1) := by decide +kernel
theorem dL_isInheritingOf_1 : decode cL_isInheritingOf 1 = .ok (.iload_n 1, 1) := by decide +kernel
theorem dL_isInheritingOf_2 : decode cL_isInheritingOf 2 = .ok (.invokevirtual 108, 3) := by decide +kernel
theorem dL_isInheritingOf_5 : decode cL_isInheritingOf 5 = .ok (.ifCond .eq 7, 3) := by decide +kernel
theorem dL_isInheritingOf_8 : decode cL_isInheritingOf 8 = .ok (.iconst 1, 1) := by decide +kernel
theorem dL_isInheritingOf_9 : decode cL_isInheritingOf 9 = .ok (.goto 4, 3) := by decide +kernel
theorem dL_isInheritingOf_12 : decode cL_isInheritingOf 12 = .ok (.iconst 0, 1) := by decide +kernel
theorem dL_isInheritingOf_13 : decode cL_isInheritingOf 13 = .ok (.ireturn, 1) := by decide +kernel
theorem dL_isInheritingOf_14 : decode cL_isInheritingOf 14 = .ok (.astore_n 2, 1) := by decide +kernel
theorem dL_isInheritingOf_15 : decode cL_isInheritingOf 15 = .ok (.bipush (-101), 2) := by decide +kernel
theorem dL_isInheritingOf_17 : decode cL_isInheritingOf 17 = .ok (.ireturn, 1) := by decide +kernel
theorem dL_belowOf_0 : decode cL_belowOf 0 = .ok (.aload_n 0, 1) := by decide +kernel
theorem dL_belowOf_1 : decode cL_belowOf 1 = .ok (.iload_n 1, 1) := by decide +kernel
theorem dL_belowOf_2 : decode cL_belowOf 2 = .ok (.invokevirtual 112, 3) := by decide +kernel
theorem dL_belowOf_5 : decode cL_belowOf 5 = .ok (.ireturn, 1) := by decide +kernel
theorem dL_belowOf_6 : decode cL_belowOf 6 = .ok (.astore_n 2, 1) := by decide +kernel
theorem dL_belowOf_7 : decode cL_belowOf 7 = .ok (.bipush (-101), 2) := by decide +kernel
theorem dL_belowOf_9 : decode cL_belowOf 9 = .ok (.ireturn, 1) := by decide +kernel
theorem dL_entriesOfOf_0 : decode cL_entriesOfOf 0 = .ok (.aload_n 0, 1) := by decide +kernel
theorem dL_entriesOfOf_1 : decode cL_entriesOfOf 1 = .ok (.iload_n 1, 1) := by decide +kernel
theorem dL_entriesOfOf_2 : decode cL_entriesOfOf 2 = .ok (.invokevirtual 115, 3) := by decide +kernel
theorem dL_entriesOfOf_5 : decode cL_entriesOfOf 5 = .ok (.ireturn, 1) := by decide +kernel
theorem dL_entriesOfOf_6 : decode cL_entriesOfOf 6 = .ok (.astore_n 2, 1) := by decide +kernel
theorem dL_entriesOfOf_7 : decode cL_entriesOfOf 7 = .ok (.bipush (-101), 2) := by decide +kernel
theorem dL_entriesOfOf_9 : decode cL_entriesOfOf 9 = .ok (.ireturn, 1) := by decide +kernel
theorem dL_isAllowingOf_0 : decode cL_isAllowingOf 0 = .ok (.aload_n 0, 1) := by decide +kernel
theorem dL_isAllowingOf_1 : decode cL_isAllowingOf 1 = .ok (.iload_n 1, 1) := by decide +kernel
theorem dL_isAllowingOf_2 : decode cL_isAllowingOf 2 = .ok (.iload_n 2, 1) := by decide +kernel
theorem dL_isAllowingOf_3 : decode cL_isAllowingOf 3 = .ok (.invokevirtual 118, 3) := by decide +kernel
theorem dL_isAllowingOf_6 : decode cL_isAllowingOf 6 = .ok (.ifCond .eq 7, 3) := by decide +kernel
theorem dL_isAllowingOf_9 : decode cL_isAllowingOf 9 = .ok (.iconst 1, 1) := by decide +kernel
theorem dL_isAllowingOf_10 : decode cL_isAllowingOf 10 = .ok (.goto 4, 3) := by decide +kernel
theorem dL_isAllowingOf_13 : decode cL_isAllowingOf 13 = .ok (.iconst 0, 1) := by decide +kernel
theorem dL_isAllowingOf_14 : decode cL_isAllowingOf 14 = .ok (.ireturn, 1) := by decide +kernel
theorem dL_isAllowingOf_15 : decode cL_isAllowingOf 15 = .ok (.astore_n 3, 1) := by decide +kernel
theorem dL_isAllowingOf_16 : decode cL_isAllowingOf 16 = .ok (.bipush (-101), 2) := by decide +kernel
theorem dL_isAllowingOf_18 : decode cL_isAllowingOf 18 = .ok (.ireturn, 1) := by decide +kernel
theorem dL_rightsOfEntryOf_0 : decode cL_rightsOfEntryOf 0 = .ok (.aload_n 0, 1) := by decide +kernel
theorem dL_rightsOfEntryOf_1 : decode cL_rightsOfEntryOf 1 = .ok (.iload_n 1, 1) := by decide +kernel
theorem dL_rightsOfEntryOf_2 : decode cL_rightsOfEntryOf 2 = .ok (.iload_n 2, 1) := by decide +kernel
theorem dL_rightsOfEntryOf_3 : decode cL_rightsOfEntryOf 3 = .ok (.invokevirtual 121, 3) := by decide +kernel
theorem dL_rightsOfEntryOf_6 : decode cL_rightsOfEntryOf 6 = .ok (.ireturn, 1) := by decide +kernel
theorem dL_rightsOfEntryOf_7 : decode cL_rightsOfEntryOf 7 = .ok (.astore_n 3, 1) := by decide +kernel
theorem dL_rightsOfEntryOf_8 : decode cL_rightsOfEntryOf 8 = .ok (.bipush (-101), 2) := by decide +kernel
theorem dL_rightsOfEntryOf_10 : decode cL_rightsOfEntryOf 10 = .ok (.ireturn, 1) := by decide +kernel
theorem dL_userOfEntryOf_0 : decode cL_userOfEntryOf 0 = .ok (.aload_n 0, 1) := by decide +kernel
theorem dL_userOfEntryOf_1 : decode cL_userOfEntryOf 1 = .ok (.iload_n 1, 1) := by decide +kernel
theorem dL_userOfEntryOf_2 : decode cL_userOfEntryOf 2 = .ok (.iload_n 2, 1) := by decide +kernel
theorem dL_userOfEntryOf_3 : decode cL_userOfEntryOf 3 = .ok (.invokevirtual 124, 3) := by decide +kernel
theorem dL_userOfEntryOf_6 : decode cL_userOfEntryOf 6 = .ok (.ireturn, 1) := by decide +kernel
theorem dL_userOfEntryOf_7 : decode cL_userOfEntryOf 7 = .ok (.astore_n 3, 1) := by decide +kernel
theorem dL_userOfEntryOf_8 : decode cL_userOfEntryOf 8 = .ok (.bipush (-101), 2) := by decide +kernel
theorem dL_userOfEntryOf_10 : decode cL_userOfEntryOf 10 = .ok (.ireturn, 1) := by decide +kernel
theorem dL_groupOfEntryOf_0 : decode cL_groupOfEntryOf 0 = .ok (.aload_n 0, 1) := by decide +kernel
theorem dL_groupOfEntryOf_1 : decode cL_groupOfEntryOf 1 = .ok (.iload_n 1, 1) := by decide +kernel
theorem dL_groupOfEntryOf_2 : decode cL_groupOfEntryOf 2 = .ok (.iload_n 2, 1) := by decide +kernel
theorem dL_groupOfEntryOf_3 : decode cL_groupOfEntryOf 3 = .ok (.invokevirtual 127, 3) := by decide +kernel
theorem dL_groupOfEntryOf_6 : decode cL_groupOfEntryOf 6 = .ok (.ireturn, 1) := by decide +kernel
theorem dL_groupOfEntryOf_7 : decode cL_groupOfEntryOf 7 = .ok (.astore_n 3, 1) := by decide +kernel
theorem dL_groupOfEntryOf_8 : decode cL_groupOfEntryOf 8 = .ok (.bipush (-101), 2) := by decide +kernel
theorem dL_groupOfEntryOf_10 : decode cL_groupOfEntryOf 10 = .ok (.ireturn, 1) := by decide +kernel
theorem dL_isForOwnerOf_0 : decode cL_isForOwnerOf 0 = .ok (.aload_n 0, 1) := by decide +kernel
theorem dL_isForOwnerOf_1 : decode cL_isForOwnerOf 1 = .ok (.iload_n 1, 1) := by decide +kernel
theorem dL_isForOwnerOf_2 : decode cL_isForOwnerOf 2 = .ok (.iload_n 2, 1) := by decide +kernel
theorem dL_isForOwnerOf_3 : decode cL_isForOwnerOf 3 = .ok (.invokevirtual 130, 3) := by decide +kernel
theorem dL_isForOwnerOf_6 : decode cL_isForOwnerOf 6 = .ok (.ifCond .eq 7, 3) := by decide +kernel
theorem dL_isForOwnerOf_9 : decode cL_isForOwnerOf 9 = .ok (.iconst 1, 1) := by decide +kernel
theorem dL_isForOwnerOf_10 : decode cL_isForOwnerOf 10 = .ok (.goto 4, 3) := by decide +kernel
theorem dL_isForOwnerOf_13 : decode cL_isForOwnerOf 13 = .ok (.iconst 0, 1) := by decide +kernel
theorem dL_isForOwnerOf_14 : decode cL_isForOwnerOf 14 = .ok (.ireturn, 1) := by decide +kernel
theorem dL_isForOwnerOf_15 : decode cL_isForOwnerOf 15 = .ok (.astore_n 3, 1) := by decide +kernel
theorem dL_isForOwnerOf_16 : decode cL_isForOwnerOf 16 = .ok (.bipush (-101), 2) := by decide +kernel
theorem dL_isForOwnerOf_18 : decode cL_isForOwnerOf 18 = .ok (.ireturn, 1) := by decide +kernel
theorem dL_isForBelowOf_0 : decode cL_isForBelowOf 0 = .ok (.aload_n 0, 1) := by decide +kernel
theorem dL_isForBelowOf_1 : decode cL_isForBelowOf 1 = .ok (.iload_n 1, 1) := by decide +kernel
theorem dL_isForBelowOf_2 : decode cL_isForBelowOf 2 = .ok (.iload_n 2, 1) := by decide +kernel
theorem dL_isForBelowOf_3 : decode cL_isForBelowOf 3 = .ok (.invokevirtual 133, 3) := by decide +kernel
theorem dL_isForBelowOf_6 : decode cL_isForBelowOf 6 = .ok (.ifCond .eq 7, 3) := by decide +kernel
theorem dL_isForBelowOf_9 : decode cL_isForBelowOf 9 = .ok (.iconst 1, 1) := by decide +kernel
theorem dL_isForBelowOf_10 : decode cL_isForBelowOf 10 = .ok (.goto 4, 3) := by decide +kernel
theorem dL_isForBelowOf_13 : decode cL_isForBelowOf 13 = .ok (.iconst 0, 1) := by decide +kernel
theorem dL_isForBelowOf_14 : decode cL_isForBelowOf 14 = .ok (.ireturn, 1) := by decide +kernel
theorem dL_isForBelowOf_15 : decode cL_isForBelowOf 15 = .ok (.astore_n 3, 1) := by decide +kernel
theorem dL_isForBelowOf_16 : decode cL_isForBelowOf 16 = .ok (.bipush (-101), 2) := by decide +kernel
theorem dL_isForBelowOf_18 : decode cL_isForBelowOf 18 = .ok (.ireturn, 1) := by decide +kernel
theorem dL_isAllowedOf_0 : decode cL_isAllowedOf 0 = .ok (.aload_n 0, 1) := by decide +kernel
theorem dL_isAllowedOf_1 : decode cL_isAllowedOf 1 = .ok (.iload_n 1, 1) := by decide +kernel
theorem dL_isAllowedOf_2 : decode cL_isAllowedOf 2 = .ok (.iload_n 2, 1) := by decide +kernel
theorem dL_isAllowedOf_3 : decode cL_isAllowedOf 3 = .ok (.iload_n 3, 1) := by decide +kernel
theorem dL_isAllowedOf_4 : decode cL_isAllowedOf 4 = .ok (.invokevirtual 136, 3) := by decide +kernel
theorem dL_isAllowedOf_7 : decode cL_isAllowedOf 7 = .ok (.ifCond .eq 7, 3) := by decide +kernel
theorem dL_isAllowedOf_10 : decode cL_isAllowedOf 10 = .ok (.iconst 1, 1) := by decide +kernel
theorem dL_isAllowedOf_11 : decode cL_isAllowedOf 11 = .ok (.goto 4, 3) := by decide +kernel
theorem dL_isAllowedOf_14 : decode cL_isAllowedOf 14 = .ok (.iconst 0, 1) := by decide +kernel
theorem dL_isAllowedOf_15 : decode cL_isAllowedOf 15 = .ok (.ireturn, 1) := by decide +kernel
theorem dL_isAllowedOf_16 : decode cL_isAllowedOf 16 = .ok (.astore 4, 2) := by decide +kernel
theorem dL_isAllowedOf_18 : decode cL_isAllowedOf 18 = .ok (.bipush (-101), 2) := by decide +kernel
theorem dL_isAllowedOf_20 : decode cL_isAllowedOf 20 = .ok (.ireturn, 1) := by decide +kernel
theorem dL_isAllowedOf_21 : decode cL_isAllowedOf 21 = .ok (.astore 4, 2) := by decide +kernel
theorem dL_isAllowedOf_23 : decode cL_isAllowedOf 23 = .ok (.bipush (-102), 2) := by decide +kernel
theorem dL_isAllowedOf_25 : decode cL_isAllowedOf 25 = .ok (.ireturn, 1) := by decide +kernel
theorem dL_isAllowedByHandingDownOf_0 : decode cL_isAllowedByHandingDownOf 0 = .ok (.aload_n 0, 1) := by decide +kernel
theorem dL_isAllowedByHandingDownOf_1 : decode cL_isAllowedByHandingDownOf 1 = .ok (.iload_n 1, 1) := by decide +kernel
theorem dL_isAllowedByHandingDownOf_2 : decode cL_isAllowedByHandingDownOf 2 = .ok (.iload_n 2, 1) := by decide +kernel
theorem dL_isAllowedByHandingDownOf_3 : decode cL_isAllowedByHandingDownOf 3 = .ok (.iload_n 3, 1) := by decide +kernel
theorem dL_isAllowedByHandingDownOf_4 : decode cL_isAllowedByHandingDownOf 4 = .ok (.invokevirtual 139, 3) := by decide +kernel
theorem dL_isAllowedByHandingDownOf_7 : decode cL_isAllowedByHandingDownOf 7 = .ok (.ifCond .eq 7, 3) := by decide +kernel
theorem dL_isAllowedByHandingDownOf_10 : decode cL_isAllowedByHandingDownOf 10 = .ok (.iconst 1, 1) := by decide +kernel
theorem dL_isAllowedByHandingDownOf_11 : decode cL_isAllowedByHandingDownOf 11 = .ok (.goto 4, 3) := by decide +kernel
theorem dL_isAllowedByHandingDownOf_14 : decode cL_isAllowedByHandingDownOf 14 = .ok (.iconst 0, 1) := by decide +kernel
theorem dL_isAllowedByHandingDownOf_15 : decode cL_isAllowedByHandingDownOf 15 = .ok (.ireturn, 1) := by decide +kernel
theorem dL_isAllowedByHandingDownOf_16 : decode cL_isAllowedByHandingDownOf 16 = .ok (.astore 4, 2) := by decide +kernel
theorem dL_isAllowedByHandingDownOf_18 : decode cL_isAllowedByHandingDownOf 18 = .ok (.bipush (-101), 2) := by decide +kernel
theorem dL_isAllowedByHandingDownOf_20 : decode cL_isAllowedByHandingDownOf 20 = .ok (.ireturn, 1) := by decide +kernel
theorem dL_isAllowedByHandingDownOf_21 : decode cL_isAllowedByHandingDownOf 21 = .ok (.astore 4, 2) := by decide +kernel
theorem dL_isAllowedByHandingDownOf_23 : decode cL_isAllowedByHandingDownOf 23 = .ok (.bipush (-102), 2) := by decide +kernel
theorem dL_isAllowedByHandingDownOf_25 : decode cL_isAllowedByHandingDownOf 25 = .ok (.ireturn, 1) := by decide +kernel
theorem dL_rightsOfOf_0 : decode cL_rightsOfOf 0 = .ok (.aload_n 0, 1) := by decide +kernel
theorem dL_rightsOfOf_1 : decode cL_rightsOfOf 1 = .ok (.iload_n 1, 1) := by decide +kernel
theorem dL_rightsOfOf_2 : decode cL_rightsOfOf 2 = .ok (.iload_n 2, 1) := by decide +kernel
theorem dL_rightsOfOf_3 : decode cL_rightsOfOf 3 = .ok (.invokevirtual 142, 3) := by decide +kernel
theorem dL_rightsOfOf_6 : decode cL_rightsOfOf 6 = .ok (.ireturn, 1) := by decide +kernel
theorem dL_rightsOfOf_7 : decode cL_rightsOfOf 7 = .ok (.astore_n 3, 1) := by decide +kernel
theorem dL_rightsOfOf_8 : decode cL_rightsOfOf 8 = .ok (.bipush (-101), 2) := by decide +kernel
theorem dL_rightsOfOf_10 : decode cL_rightsOfOf 10 = .ok (.ireturn, 1) := by decide +kernel
theorem dL_decidingObjectOf_0 : decode cL_decidingObjectOf 0 = .ok (.aload_n 0, 1) := by decide +kernel
theorem dL_decidingObjectOf_1 : decode cL_decidingObjectOf 1 = .ok (.iload_n 1, 1) := by decide +kernel
theorem dL_decidingObjectOf_2 : decode cL_decidingObjectOf 2 = .ok (.iload_n 2, 1) := by decide +kernel
theorem dL_decidingObjectOf_3 : decode cL_decidingObjectOf 3 = .ok (.iload_n 3, 1) := by decide +kernel
theorem dL_decidingObjectOf_4 : decode cL_decidingObjectOf 4 = .ok (.invokevirtual 145, 3) := by decide +kernel
theorem dL_decidingObjectOf_7 : decode cL_decidingObjectOf 7 = .ok (.ireturn, 1) := by decide +kernel
theorem dL_decidingObjectOf_8 : decode cL_decidingObjectOf 8 = .ok (.astore 4, 2) := by decide +kernel
theorem dL_decidingObjectOf_10 : decode cL_decidingObjectOf 10 = .ok (.bipush (-101), 2) := by decide +kernel
theorem dL_decidingObjectOf_12 : decode cL_decidingObjectOf 12 = .ok (.ireturn, 1) := by decide +kernel
theorem dL_decidingObjectOf_13 : decode cL_decidingObjectOf 13 = .ok (.astore 4, 2) := by decide +kernel
theorem dL_decidingObjectOf_15 : decode cL_decidingObjectOf 15 = .ok (.bipush (-102), 2) := by decide +kernel
theorem dL_decidingObjectOf_17 : decode cL_decidingObjectOf 17 = .ok (.ireturn, 1) := by decide +kernel
theorem dL_decidingEntryOf_0 : decode cL_decidingEntryOf 0 = .ok (.aload_n 0, 1) := by decide +kernel
theorem dL_decidingEntryOf_1 : decode cL_decidingEntryOf 1 = .ok (.iload_n 1, 1) := by decide +kernel
theorem dL_decidingEntryOf_2 : decode cL_decidingEntryOf 2 = .ok (.iload_n 2, 1) := by decide +kernel
theorem dL_decidingEntryOf_3 : decode cL_decidingEntryOf 3 = .ok (.iload_n 3, 1) := by decide +kernel
theorem dL_decidingEntryOf_4 : decode cL_decidingEntryOf 4 = .ok (.invokevirtual 148, 3) := by decide +kernel
theorem dL_decidingEntryOf_7 : decode cL_decidingEntryOf 7 = .ok (.ireturn, 1) := by decide +kernel
theorem dL_decidingEntryOf_8 : decode cL_decidingEntryOf 8 = .ok (.astore 4, 2) := by decide +kernel
theorem dL_decidingEntryOf_10 : decode cL_decidingEntryOf 10 = .ok (.bipush (-101), 2) := by decide +kernel
theorem dL_decidingEntryOf_12 : decode cL_decidingEntryOf 12 = .ok (.ireturn, 1) := by decide +kernel
theorem dL_decidingEntryOf_13 : decode cL_decidingEntryOf 13 = .ok (.astore 4, 2) := by decide +kernel
theorem dL_decidingEntryOf_15 : decode cL_decidingEntryOf 15 = .ok (.bipush (-102), 2) := by decide +kernel
theorem dL_decidingEntryOf_17 : decode cL_decidingEntryOf 17 = .ok (.ireturn, 1) := by decide +kernel
theorem dL_isStoppedByMaskOf_0 : decode cL_isStoppedByMaskOf 0 = .ok (.aload_n 0, 1) := by decide +kernel
theorem dL_isStoppedByMaskOf_1 : decode cL_isStoppedByMaskOf 1 = .ok (.iload_n 1, 1) := by decide +kernel
theorem dL_isStoppedByMaskOf_2 : decode cL_isStoppedByMaskOf 2 = .ok (.iload_n 2, 1) := by decide +kernel
theorem dL_isStoppedByMaskOf_3 : decode cL_isStoppedByMaskOf 3 = .ok (.iload_n 3, 1) := by decide +kernel
theorem dL_isStoppedByMaskOf_4 : decode cL_isStoppedByMaskOf 4 = .ok (.invokevirtual 151, 3) := by decide +kernel
theorem dL_isStoppedByMaskOf_7 : decode cL_isStoppedByMaskOf 7 = .ok (.ifCond .eq 7, 3) := by decide +kernel
theorem dL_isStoppedByMaskOf_10 : decode cL_isStoppedByMaskOf 10 = .ok (.iconst 1, 1) := by decide +kernel
theorem dL_isStoppedByMaskOf_11 : decode cL_isStoppedByMaskOf 11 = .ok (.goto 4, 3) := by decide +kernel
theorem dL_isStoppedByMaskOf_14 : decode cL_isStoppedByMaskOf 14 = .ok (.iconst 0, 1) := by decide +kernel
theorem dL_isStoppedByMaskOf_15 : decode cL_isStoppedByMaskOf 15 = .ok (.ireturn, 1) := by decide +kernel
theorem dL_isStoppedByMaskOf_16 : decode cL_isStoppedByMaskOf 16 = .ok (.astore 4, 2) := by decide +kernel
theorem dL_isStoppedByMaskOf_18 : decode cL_isStoppedByMaskOf 18 = .ok (.bipush (-101), 2) := by decide +kernel
theorem dL_isStoppedByMaskOf_20 : decode cL_isStoppedByMaskOf 20 = .ok (.ireturn, 1) := by decide +kernel
theorem dL_isStoppedByMaskOf_21 : decode cL_isStoppedByMaskOf 21 = .ok (.astore 4, 2) := by decide +kernel
theorem dL_isStoppedByMaskOf_23 : decode cL_isStoppedByMaskOf 23 = .ok (.bipush (-102), 2) := by decide +kernel
theorem dL_isStoppedByMaskOf_25 : decode cL_isStoppedByMaskOf 25 = .ok (.ireturn, 1) := by decide +kernel
theorem dL_usersWithOf_0 : decode cL_usersWithOf 0 = .ok (.aload_n 0, 1) := by decide +kernel
theorem dL_usersWithOf_1 : decode cL_usersWithOf 1 = .ok (.iload_n 1, 1) := by decide +kernel
theorem dL_usersWithOf_2 : decode cL_usersWithOf 2 = .ok (.iload_n 2, 1) := by decide +kernel
theorem dL_usersWithOf_3 : decode cL_usersWithOf 3 = .ok (.invokevirtual 154, 3) := by decide +kernel
theorem dL_usersWithOf_6 : decode cL_usersWithOf 6 = .ok (.ireturn, 1) := by decide +kernel
theorem dL_usersWithOf_7 : decode cL_usersWithOf 7 = .ok (.astore_n 3, 1) := by decide +kernel
theorem dL_usersWithOf_8 : decode cL_usersWithOf 8 = .ok (.bipush (-101), 2) := by decide +kernel
theorem dL_usersWithOf_10 : decode cL_usersWithOf 10 = .ok (.ireturn, 1) := by decide +kernel
theorem dL_usersWithOf_11 : decode cL_usersWithOf 11 = .ok (.astore_n 3, 1) := by decide +kernel
theorem dL_usersWithOf_12 : decode cL_usersWithOf 12 = .ok (.bipush (-102), 2) := by decide +kernel
theorem dL_usersWithOf_14 : decode cL_usersWithOf 14 = .ok (.ireturn, 1) := by decide +kernel
theorem dL_rightsThroughOf_0 : decode cL_rightsThroughOf 0 = .ok (.aload_n 0, 1) := by decide +kernel
theorem dL_rightsThroughOf_1 : decode cL_rightsThroughOf 1 = .ok (.iload_n 1, 1) := by decide +kernel
theorem dL_rightsThroughOf_2 : decode cL_rightsThroughOf 2 = .ok (.iload_n 2, 1) := by decide +kernel
theorem dL_rightsThroughOf_3 : decode cL_rightsThroughOf 3 = .ok (.invokevirtual 157, 3) := by decide +kernel
theorem dL_rightsThroughOf_6 : decode cL_rightsThroughOf 6 = .ok (.ireturn, 1) := by decide +kernel
theorem dL_rightsThroughOf_7 : decode cL_rightsThroughOf 7 = .ok (.astore_n 3, 1) := by decide +kernel
theorem dL_rightsThroughOf_8 : decode cL_rightsThroughOf 8 = .ok (.bipush (-101), 2) := by decide +kernel
theorem dL_rightsThroughOf_10 : decode cL_rightsThroughOf 10 = .ok (.ireturn, 1) := by decide +kernel
theorem dL_isNeedlessOf_0 : decode cL_isNeedlessOf 0 = .ok (.aload_n 0, 1) := by decide +kernel
theorem dL_isNeedlessOf_1 : decode cL_isNeedlessOf 1 = .ok (.iload_n 1, 1) := by decide +kernel
theorem dL_isNeedlessOf_2 : decode cL_isNeedlessOf 2 = .ok (.iload_n 2, 1) := by decide +kernel
theorem dL_isNeedlessOf_3 : decode cL_isNeedlessOf 3 = .ok (.invokevirtual 160, 3) := by decide +kernel
theorem dL_isNeedlessOf_6 : decode cL_isNeedlessOf 6 = .ok (.ifCond .eq 7, 3) := by decide +kernel
theorem dL_isNeedlessOf_9 : decode cL_isNeedlessOf 9 = .ok (.iconst 1, 1) := by decide +kernel
theorem dL_isNeedlessOf_10 : decode cL_isNeedlessOf 10 = .ok (.goto 4, 3) := by decide +kernel
theorem dL_isNeedlessOf_13 : decode cL_isNeedlessOf 13 = .ok (.iconst 0, 1) := by decide +kernel
theorem dL_isNeedlessOf_14 : decode cL_isNeedlessOf 14 = .ok (.ireturn, 1) := by decide +kernel
theorem dL_isNeedlessOf_15 : decode cL_isNeedlessOf 15 = .ok (.astore_n 3, 1) := by decide +kernel
theorem dL_isNeedlessOf_16 : decode cL_isNeedlessOf 16 = .ok (.bipush (-101), 2) := by decide +kernel
theorem dL_isNeedlessOf_18 : decode cL_isNeedlessOf 18 = .ok (.ireturn, 1) := by decide +kernel
theorem dL_userOfRequestOf_0 : decode cL_userOfRequestOf 0 = .ok (.aload_n 0, 1) := by decide +kernel
theorem dL_userOfRequestOf_1 : decode cL_userOfRequestOf 1 = .ok (.iload_n 1, 1) := by decide +kernel
theorem dL_userOfRequestOf_2 : decode cL_userOfRequestOf 2 = .ok (.invokevirtual 163, 3) := by decide +kernel
theorem dL_userOfRequestOf_5 : decode cL_userOfRequestOf 5 = .ok (.ireturn, 1) := by decide +kernel
theorem dL_userOfRequestOf_6 : decode cL_userOfRequestOf 6 = .ok (.astore_n 2, 1) := by decide +kernel
theorem dL_userOfRequestOf_7 : decode cL_userOfRequestOf 7 = .ok (.bipush (-101), 2) := by decide +kernel
theorem dL_userOfRequestOf_9 : decode cL_userOfRequestOf 9 = .ok (.ireturn, 1) := by decide +kernel
theorem dL_objectOfRequestOf_0 : decode cL_objectOfRequestOf 0 = .ok (.aload_n 0, 1) := by decide +kernel
theorem dL_objectOfRequestOf_1 : decode cL_objectOfRequestOf 1 = .ok (.iload_n 1, 1) := by decide +kernel
theorem dL_objectOfRequestOf_2 : decode cL_objectOfRequestOf 2 = .ok (.invokevirtual 166, 3) := by decide +kernel
theorem dL_objectOfRequestOf_5 : decode cL_objectOfRequestOf 5 = .ok (.ireturn, 1) := by decide +kernel
theorem dL_objectOfRequestOf_6 : decode cL_objectOfRequestOf 6 = .ok (.astore_n 2, 1) := by decide +kernel
theorem dL_objectOfRequestOf_7 : decode cL_objectOfRequestOf 7 = .ok (.bipush (-101), 2) := by decide +kernel
theorem dL_objectOfRequestOf_9 : decode cL_objectOfRequestOf 9 = .ok (.ireturn, 1) := by decide +kernel
theorem dL_wasAllowedOf_0 : decode cL_wasAllowedOf 0 = .ok (.aload_n 0, 1) := by decide +kernel
theorem dL_wasAllowedOf_1 : decode cL_wasAllowedOf 1 = .ok (.iload_n 1, 1) := by decide +kernel
theorem dL_wasAllowedOf_2 : decode cL_wasAllowedOf 2 = .ok (.invokevirtual 169, 3) := by decide +kernel
theorem dL_wasAllowedOf_5 : decode cL_wasAllowedOf 5 = .ok (.ifCond .eq 7, 3) := by decide +kernel
theorem dL_wasAllowedOf_8 : decode cL_wasAllowedOf 8 = .ok (.iconst 1, 1) := by decide +kernel
theorem dL_wasAllowedOf_9 : decode cL_wasAllowedOf 9 = .ok (.goto 4, 3) := by decide +kernel
theorem dL_wasAllowedOf_12 : decode cL_wasAllowedOf 12 = .ok (.iconst 0, 1) := by decide +kernel
theorem dL_wasAllowedOf_13 : decode cL_wasAllowedOf 13 = .ok (.ireturn, 1) := by decide +kernel
theorem dL_wasAllowedOf_14 : decode cL_wasAllowedOf 14 = .ok (.astore_n 2, 1) := by decide +kernel
theorem dL_wasAllowedOf_15 : decode cL_wasAllowedOf 15 = .ok (.bipush (-101), 2) := by decide +kernel
theorem dL_wasAllowedOf_17 : decode cL_wasAllowedOf 17 = .ok (.ireturn, 1) := by decide +kernel
theorem dL_has_0 : decode cL_has 0 = .ok (.iload_n 0, 1) := by decide +kernel
theorem dL_has_1 : decode cL_has 1 = .ok (.iload_n 1, 1) := by decide +kernel
theorem dL_has_2 : decode cL_has 2 = .ok (.ishr, 1) := by decide +kernel
theorem dL_has_3 : decode cL_has 3 = .ok (.iconst 1, 1) := by decide +kernel
theorem dL_has_4 : decode cL_has 4 = .ok (.iand, 1) := by decide +kernel
theorem dL_has_5 : decode cL_has 5 = .ok (.iconst 1, 1) := by decide +kernel
theorem dL_has_6 : decode cL_has 6 = .ok (.if_icmp .ne 7, 3) := by decide +kernel
theorem dL_has_9 : decode cL_has 9 = .ok (.iconst 1, 1) := by decide +kernel
theorem dL_has_10 : decode cL_has 10 = .ok (.goto 4, 3) := by decide +kernel
theorem dL_has_13 : decode cL_has 13 = .ok (.iconst 0, 1) := by decide +kernel
theorem dL_has_14 : decode cL_has 14 = .ok (.ireturn, 1) := by decide +kernel
theorem dL_within_0 : decode cL_within 0 = .ok (.iconst 1, 1) := by decide +kernel
theorem dL_within_1 : decode cL_within 1 = .ok (.iload_n 1, 1) := by decide +kernel
theorem dL_within_2 : decode cL_within 2 = .ok (.ishl, 1) := by decide +kernel
theorem dL_within_3 : decode cL_within 3 = .ok (.istore_n 2, 1) := by decide +kernel
theorem dL_within_4 : decode cL_within 4 = .ok (.iconst 0, 1) := by decide +kernel
theorem dL_within_5 : decode cL_within 5 = .ok (.istore_n 3, 1) := by decide +kernel
theorem dL_within_6 : decode cL_within 6 = .ok (.iload_n 3, 1) := by decide +kernel
theorem dL_within_7 : decode cL_within 7 = .ok (.iload_n 2, 1) := by decide +kernel
theorem dL_within_8 : decode cL_within 8 = .ok (.if_icmp .eq 47, 3) := by decide +kernel
theorem dL_within_11 : decode cL_within 11 = .ok (.iload_n 2, 1) := by decide +kernel
theorem dL_within_12 : decode cL_within 12 = .ok (.istore_n 3, 1) := by decide +kernel
theorem dL_within_13 : decode cL_within 13 = .ok (.iconst 0, 1) := by decide +kernel
theorem dL_within_14 : decode cL_within 14 = .ok (.istore 4, 2) := by decide +kernel
theorem dL_within_16 : decode cL_within 16 = .ok (.iload 4, 2) := by decide +kernel
theorem dL_within_18 : decode cL_within 18 = .ok (.bipush 8, 2) := by decide +kernel
theorem dL_within_20 : decode cL_within 20 = .ok (.if_icmp .ge 32, 3) := by decide +kernel
theorem dL_within_23 : decode cL_within 23 = .ok (.iload_n 2, 1) := by decide +kernel
theorem dL_within_24 : decode cL_within 24 = .ok (.iload_n 2, 1) := by decide +kernel
theorem dL_within_25 : decode cL_within 25 = .ok (.iload 4, 2) := by decide +kernel
theorem dL_within_27 : decode cL_within 27 = .ok (.invokestatic 172, 3) := by decide +kernel
theorem dL_within_30 : decode cL_within 30 = .ok (.ifCond .eq 13, 3) := by decide +kernel
theorem dL_within_33 : decode cL_within 33 = .ok (.aload_n 0, 1) := by decide +kernel
theorem dL_within_34 : decode cL_within 34 = .ok (.bipush 8, 2) := by decide +kernel
theorem dL_within_36 : decode cL_within 36 = .ok (.iload 4, 2) := by decide +kernel
theorem dL_within_38 : decode cL_within 38 = .ok (.iadd, 1) := by decide +kernel
theorem dL_within_39 : decode cL_within 39 = .ok (.iaload, 1) := by decide +kernel
theorem dL_within_40 : decode cL_within 40 = .ok (.goto 4, 3) := by decide +kernel
theorem dL_within_43 : decode cL_within 43 = .ok (.iconst 0, 1) := by decide +kernel
theorem dL_within_44 : decode cL_within 44 = .ok (.ior, 1) := by decide +kernel
theorem dL_within_45 : decode cL_within 45 = .ok (.istore_n 2, 1) := by decide +kernel
theorem dL_within_46 : decode cL_within 46 = .ok (.iinc 4 1, 3) := by decide +kernel
theorem dL_within_49 : decode cL_within 49 = .ok (.goto (-33), 3) := by decide +kernel
theorem dL_within_52 : decode cL_within 52 = .ok (.goto (-46), 3) := by decide +kernel
theorem dL_within_55 : decode cL_within 55 = .ok (.iload_n 2, 1) := by decide +kernel
theorem dL_within_56 : decode cL_within 56 = .ok (.ireturn, 1) := by decide +kernel
theorem dL_belong_0 : decode cL_belong 0 = .ok (.aload_n 0, 1) := by decide +kernel
theorem dL_belong_1 : decode cL_belong 1 = .ok (.iload_n 1, 1) := by decide +kernel
theorem dL_belong_2 : decode cL_belong 2 = .ok (.invokestatic 177, 3) := by decide +kernel
theorem dL_belong_5 : decode cL_belong 5 = .ok (.istore_n 2, 1) := by decide +kernel
theorem dL_belong_6 : decode cL_belong 6 = .ok (.iconst 0, 1) := by decide +kernel
theorem dL_belong_7 : decode cL_belong 7 = .ok (.istore_n 3, 1) := by decide +kernel
theorem dL_belong_8 : decode cL_belong 8 = .ok (.iconst 0, 1) := by decide +kernel
theorem dL_belong_9 : decode cL_belong 9 = .ok (.istore 4, 2) := by decide +kernel
theorem dL_belong_11 : decode cL_belong 11 = .ok (.iload 4, 2) := by decide +kernel
theorem dL_belong_13 : decode cL_belong 13 = .ok (.bipush 8, 2) := by decide +kernel
theorem dL_belong_15 : decode cL_belong 15 = .ok (.if_icmp .ge 29, 3) := by decide +kernel
theorem dL_belong_18 : decode cL_belong 18 = .ok (.iload_n 3, 1) := by decide +kernel
theorem dL_belong_19 : decode cL_belong 19 = .ok (.iload_n 2, 1) := by decide +kernel
theorem dL_belong_20 : decode cL_belong 20 = .ok (.iload 4, 2) := by decide +kernel
theorem dL_belong_22 : decode cL_belong 22 = .ok (.invokestatic 172, 3) := by decide +kernel
theorem dL_belong_25 : decode cL_belong 25 = .ok (.ifCond .eq 10, 3) := by decide +kernel
theorem dL_belong_28 : decode cL_belong 28 = .ok (.aload_n 0, 1) := by decide +kernel
theorem dL_belong_29 : decode cL_belong 29 = .ok (.iload 4, 2) := by decide +kernel
theorem dL_belong_31 : decode cL_belong 31 = .ok (.iaload, 1) := by decide +kernel
theorem dL_belong_32 : decode cL_belong 32 = .ok (.goto 4, 3) := by decide +kernel
theorem dL_belong_35 : decode cL_belong 35 = .ok (.iconst 0, 1) := by decide +kernel
theorem dL_belong_36 : decode cL_belong 36 = .ok (.ior, 1) := by decide +kernel
theorem dL_belong_37 : decode cL_belong 37 = .ok (.istore_n 3, 1) := by decide +kernel
theorem dL_belong_38 : decode cL_belong 38 = .ok (.iinc 4 1, 3) := by decide +kernel
theorem dL_belong_41 : decode cL_belong 41 = .ok (.goto (-30), 3) := by decide +kernel
theorem dL_belong_44 : decode cL_belong 44 = .ok (.iload_n 3, 1) := by decide +kernel
theorem dL_belong_45 : decode cL_belong 45 = .ok (.ireturn, 1) := by decide +kernel
theorem dL_many_0 : decode cL_many 0 = .ok (.iconst 0, 1) := by decide +kernel
theorem dL_many_1 : decode cL_many 1 = .ok (.istore_n 1, 1) := by decide +kernel
theorem dL_many_2 : decode cL_many 2 = .ok (.iconst 0, 1) := by decide +kernel
theorem dL_many_3 : decode cL_many 3 = .ok (.istore_n 2, 1) := by decide +kernel
theorem dL_many_4 : decode cL_many 4 = .ok (.iload_n 2, 1) := by decide +kernel
theorem dL_many_5 : decode cL_many 5 = .ok (.bipush 20, 2) := by decide +kernel
theorem dL_many_7 : decode cL_many 7 = .ok (.if_icmp .ge 17, 3) := by decide +kernel
theorem dL_many_10 : decode cL_many 10 = .ok (.iload_n 1, 1) := by decide +kernel
theorem dL_many_11 : decode cL_many 11 = .ok (.iload_n 0, 1) := by decide +kernel
theorem dL_many_12 : decode cL_many 12 = .ok (.iload_n 2, 1) := by decide +kernel
theorem dL_many_13 : decode cL_many 13 = .ok (.ishr, 1) := by decide +kernel
theorem dL_many_14 : decode cL_many 14 = .ok (.iconst 1, 1) := by decide +kernel
theorem dL_many_15 : decode cL_many 15 = .ok (.iand, 1) := by decide +kernel
theorem dL_many_16 : decode cL_many 16 = .ok (.iadd, 1) := by decide +kernel
theorem dL_many_17 : decode cL_many 17 = .ok (.istore_n 1, 1) := by decide +kernel
theorem dL_many_18 : decode cL_many 18 = .ok (.iinc 2 1, 3) := by decide +kernel
theorem dL_many_21 : decode cL_many 21 = .ok (.goto (-17), 3) := by decide +kernel
theorem dL_many_24 : decode cL_many 24 = .ok (.iload_n 1, 1) := by decide +kernel
theorem dL_many_25 : decode cL_many 25 = .ok (.ireturn, 1) := by decide +kernel
theorem dL_isFor_0 : decode cL_isFor 0 = .ok (.iload_n 2, 1) := by decide +kernel
theorem dL_isFor_1 : decode cL_isFor 1 = .ok (.bipush 6, 2) := by decide +kernel
theorem dL_isFor_3 : decode cL_isFor 3 = .ok (.ishr, 1) := by decide +kernel
theorem dL_isFor_4 : decode cL_isFor 4 = .ok (.bipush 15, 2) := by decide +kernel
theorem dL_isFor_6 : decode cL_isFor 6 = .ok (.iand, 1) := by decide +kernel
theorem dL_isFor_7 : decode cL_isFor 7 = .ok (.istore 5, 2) := by decide +kernel
theorem dL_isFor_9 : decode cL_isFor 9 = .ok (.iload_n 2, 1) := by decide +kernel
theorem dL_isFor_10 : decode cL_isFor 10 = .ok (.bipush 10, 2) := by decide +kernel
theorem dL_isFor_12 : decode cL_isFor 12 = .ok (.ishr, 1) := by decide +kernel
theorem dL_isFor_13 : decode cL_isFor 13 = .ok (.istore 6, 2) := by decide +kernel
theorem dL_isFor_15 : decode cL_isFor 15 = .ok (.iload 6, 2) := by decide +kernel
theorem dL_isFor_17 : decode cL_isFor 17 = .ok (.iconst 3, 1) := by decide +kernel
theorem dL_isFor_18 : decode cL_isFor 18 = .ok (.if_icmp .eq 50, 3) := by decide +kernel
theorem dL_isFor_21 : decode cL_isFor 21 = .ok (.iload 6, 2) := by decide +kernel
theorem dL_isFor_23 : decode cL_isFor 23 = .ok (.iconst 2, 1) := by decide +kernel
theorem dL_isFor_24 : decode cL_isFor 24 = .ok (.if_icmp .ne 14, 3) := by decide +kernel
theorem dL_isFor_27 : decode cL_isFor 27 = .ok (.aload_n 1, 1) := by decide +kernel
theorem dL_isFor_28 : decode cL_isFor 28 = .ok (.bipush 10, 2) := by decide +kernel
theorem dL_isFor_30 : decode cL_isFor 30 = .ok (.iload 4, 2) := by decide +kernel
theorem dL_isFor_32 : decode cL_isFor 32 = .ok (.iadd, 1) := by decide +kernel
theorem dL_isFor_33 : decode cL_isFor 33 = .ok (.iaload, 1) := by decide +kernel
theorem dL_isFor_34 : decode cL_isFor 34 = .ok (.iload_n 3, 1) := by decide +kernel
theorem dL_isFor_35 : decode cL_isFor 35 = .ok (.if_icmp .eq 33, 3) := by decide +kernel
theorem dL_isFor_38 : decode cL_isFor 38 = .ok (.iload 6, 2) := by decide +kernel
theorem dL_isFor_40 : decode cL_isFor 40 = .ok (.iconst 1, 1) := by decide +kernel
theorem dL_isFor_41 : decode cL_isFor 41 = .ok (.if_icmp .ne 16, 3) := by decide +kernel
theorem dL_isFor_44 : decode cL_isFor 44 = .ok (.aload_n 0, 1) := by decide +kernel
theorem dL_isFor_45 : decode cL_isFor 45 = .ok (.iload 5, 2) := by decide +kernel
theorem dL_isFor_47 : decode cL_isFor 47 = .ok (.invokestatic 181, 3) := by decide +kernel
theorem dL_isFor_50 : decode cL_isFor 50 = .ok (.iload_n 3, 1) := by decide +kernel
theorem dL_isFor_51 : decode cL_isFor 51 = .ok (.invokestatic 172, 3) := by decide +kernel
theorem dL_isFor_54 : decode cL_isFor 54 = .ok (.ifCond .ne 14, 3) := by decide +kernel
theorem dL_isFor_57 : decode cL_isFor 57 = .ok (.iload 6, 2) := by decide +kernel
theorem dL_isFor_59 : decode cL_isFor 59 = .ok (.ifCond .ne 13, 3) := by decide +kernel
theorem dL_isFor_62 : decode cL_isFor 62 = .ok (.iload 5, 2) := by decide +kernel
theorem dL_isFor_64 : decode cL_isFor 64 = .ok (.iload_n 3, 1) := by decide +kernel
theorem dL_isFor_65 : decode cL_isFor 65 = .ok (.if_icmp .ne 7, 3) := by decide +kernel
theorem dL_isFor_68 : decode cL_isFor 68 = .ok (.iconst 1, 1) := by decide +kernel
theorem dL_isFor_69 : decode cL_isFor 69 = .ok (.goto 4, 3) := by decide +kernel
theorem dL_isFor_72 : decode cL_isFor 72 = .ok (.iconst 0, 1) := by decide +kernel
theorem dL_isFor_73 : decode cL_isFor 73 = .ok (.ireturn, 1) := by decide +kernel
theorem dL_deciding_0 : decode cL_deciding 0 = .ok (.iconst (-1), 1) := by decide +kernel
theorem dL_deciding_1 : decode cL_deciding 1 = .ok (.istore 6, 2) := by decide +kernel
theorem dL_deciding_3 : decode cL_deciding 3 = .ok (.iload 4, 2) := by decide +kernel
theorem dL_deciding_5 : decode cL_deciding 5 = .ok (.istore 7, 2) := by decide +kernel
theorem dL_deciding_7 : decode cL_deciding 7 = .ok (.iconst 1, 1) := by decide +kernel
theorem dL_deciding_8 : decode cL_deciding 8 = .ok (.istore 8, 2) := by decide +kernel
theorem dL_deciding_10 : decode cL_deciding 10 = .ok (.iload 8, 2) := by decide +kernel
theorem dL_deciding_12 : decode cL_deciding 12 = .ok (.ifCond .eq 168, 3) := by decide +kernel
theorem dL_deciding_15 : decode cL_deciding 15 = .ok (.iconst (-1), 1) := by decide +kernel
theorem dL_deciding_16 : decode cL_deciding 16 = .ok (.istore 9, 2) := by decide +kernel
theorem dL_deciding_18 : decode cL_deciding 18 = .ok (.aload_n 1, 1) := by decide +kernel
theorem dL_deciding_19 : decode cL_deciding 19 = .ok (.bipush 40, 2) := by decide +kernel
theorem dL_deciding_21 : decode cL_deciding 21 = .ok (.iload 7, 2) := by decide +kernel
theorem dL_deciding_23 : decode cL_deciding 23 = .ok (.iadd, 1) := by decide +kernel
theorem dL_deciding_24 : decode cL_deciding 24 = .ok (.iaload, 1) := by decide +kernel
theorem dL_deciding_25 : decode cL_deciding 25 = .ok (.iconst 1, 1) := by decide +kernel
theorem dL_deciding_26 : decode cL_deciding 26 = .ok (.isub, 1) := by decide +kernel
theorem dL_deciding_27 : decode cL_deciding 27 = .ok (.istore 10, 2) := by decide +kernel
theorem dL_deciding_29 : decode cL_deciding 29 = .ok (.iload 10, 2) := by decide +kernel
theorem dL_deciding_31 : decode cL_deciding 31 = .ok (.ifCond .lt 91, 3) := by decide +kernel
theorem dL_deciding_34 : decode cL_deciding 34 = .ok (.aload_n 2, 1) := by decide +kernel
theorem dL_deciding_35 : decode cL_deciding 35 = .ok (.bipush 6, 2) := by decide +kernel
theorem dL_deciding_37 : decode cL_deciding 37 = .ok (.iload 7, 2) := by decide +kernel
theorem dL_deciding_39 : decode cL_deciding 39 = .ok (.imul, 1) := by decide +kernel
theorem dL_deciding_40 : decode cL_deciding 40 = .ok (.iload 10, 2) := by decide +kernel
theorem dL_deciding_42 : decode cL_deciding 42 = .ok (.iadd, 1) := by decide +kernel
theorem dL_deciding_43 : decode cL_deciding 43 = .ok (.iaload, 1) := by decide +kernel
theorem dL_deciding_44 : decode cL_deciding 44 = .ok (.istore 11, 2) := by decide +kernel
theorem dL_deciding_46 : decode cL_deciding 46 = .ok (.iload 7, 2) := by decide +kernel
theorem dL_deciding_48 : decode cL_deciding 48 = .ok (.iload 4, 2) := by decide +kernel
theorem dL_deciding_50 : decode cL_deciding 50 = .ok (.if_icmp .eq 11, 3) := by decide +kernel
theorem dL_deciding_53 : decode cL_deciding 53 = .ok (.iload 11, 2) := by decide +kernel
theorem dL_deciding_55 : decode cL_deciding 55 = .ok (.iconst 1, 1) := by decide +kernel
theorem dL_deciding_56 : decode cL_deciding 56 = .ok (.iand, 1) := by decide +kernel
theorem dL_deciding_57 : decode cL_deciding 57 = .ok (.iconst 1, 1) := by decide +kernel
theorem dL_deciding_58 : decode cL_deciding 58 = .ok (.if_icmp .ne 35, 3) := by decide +kernel
theorem dL_deciding_61 : decode cL_deciding 61 = .ok (.iload 11, 2) := by decide +kernel
theorem dL_deciding_63 : decode cL_deciding 63 = .ok (.iconst 2, 1) := by decide +kernel
theorem dL_deciding_64 : decode cL_deciding 64 = .ok (.ishr, 1) := by decide +kernel
theorem dL_deciding_65 : decode cL_deciding 65 = .ok (.bipush 15, 2) := by decide +kernel
theorem dL_deciding_67 : decode cL_deciding 67 = .ok (.iand, 1) := by decide +kernel
theorem dL_deciding_68 : decode cL_deciding 68 = .ok (.iload 5, 2) := by decide +kernel
theorem dL_deciding_70 : decode cL_deciding 70 = .ok (.invokestatic 172, 3) := by decide +kernel
theorem dL_deciding_73 : decode cL_deciding 73 = .ok (.ifCond .eq 20, 3) := by decide +kernel
theorem dL_deciding_76 : decode cL_deciding 76 = .ok (.aload_n 0, 1) := by decide +kernel
theorem dL_deciding_77 : decode cL_deciding 77 = .ok (.aload_n 1, 1) := by decide +kernel
theorem dL_deciding_78 : decode cL_deciding 78 = .ok (.iload 11, 2) := by decide +kernel
theorem dL_deciding_80 : decode cL_deciding 80 = .ok (.iload_n 3, 1) := by decide +kernel
theorem dL_deciding_81 : decode cL_deciding 81 = .ok (.iload 4, 2) := by decide +kernel
theorem dL_deciding_83 : decode cL_deciding 83 = .ok (.invokestatic 184, 3) := by decide +kernel
theorem dL_deciding_86 : decode cL_deciding 86 = .ok (.ifCond .eq 7, 3) := by decide +kernel
theorem dL_deciding_89 : decode cL_deciding 89 = .ok (.iconst 1, 1) := by decide +kernel
theorem dL_deciding_90 : decode cL_deciding 90 = .ok (.goto 4, 3) := by decide +kernel
theorem dL_deciding_93 : decode cL_deciding 93 = .ok (.iconst 0, 1) := by decide +kernel
theorem dL_deciding_94 : decode cL_deciding 94 = .ok (.istore 12, 2) := by decide +kernel
theorem dL_deciding_96 : decode cL_deciding 96 = .ok (.iload 12, 2) := by decide +kernel
theorem dL_deciding_98 : decode cL_deciding 98 = .ok (.ifCond .eq 14, 3) := by decide +kernel
theorem dL_deciding_101 : decode cL_deciding 101 = .ok (.bipush 6, 2) := by decide +kernel
theorem dL_deciding_103 : decode cL_deciding 103 = .ok (.iload 7, 2) := by decide +kernel
theorem dL_deciding_105 : decode cL_deciding 105 = .ok (.imul, 1) := by decide +kernel
theorem dL_deciding_106 : decode cL_deciding 106 = .ok (.iload 10, 2) := by decide +kernel
theorem dL_deciding_108 : decode cL_deciding 108 = .ok (.iadd, 1) := by decide +kernel
theorem dL_deciding_109 : decode cL_deciding 109 = .ok (.goto 5, 3) := by decide +kernel
theorem dL_deciding_112 : decode cL_deciding 112 = .ok (.iload 9, 2) := by decide +kernel
theorem dL_deciding_114 : decode cL_deciding 114 = .ok (.istore 9, 2) := by decide +kernel
theorem dL_deciding_116 : decode cL_deciding 116 = .ok (.iinc 10 (-1), 3) := by decide +kernel
theorem dL_deciding_119 : decode cL_deciding 119 = .ok (.goto (-90), 3) := by decide +kernel
theorem dL_deciding_122 : decode cL_deciding 122 = .ok (.iload 6, 2) := by decide +kernel
theorem dL_deciding_124 : decode cL_deciding 124 = .ok (.ifCond .ge 8, 3) := by decide +kernel
theorem dL_deciding_127 : decode cL_deciding 127 = .ok (.iload 9, 2) := by decide +kernel
theorem dL_deciding_129 : decode cL_deciding 129 = .ok (.goto 5, 3) := by decide +kernel
theorem dL_deciding_132 : decode cL_deciding 132 = .ok (.iload 6, 2) := by decide +kernel
theorem dL_deciding_134 : decode cL_deciding 134 = .ok (.istore 6, 2) := by decide +kernel
theorem dL_deciding_136 : decode cL_deciding 136 = .ok (.aload_n 1, 1) := by decide +kernel
theorem dL_deciding_137 : decode cL_deciding 137 = .ok (.bipush 30, 2) := by decide +kernel
theorem dL_deciding_139 : decode cL_deciding 139 = .ok (.iload 7, 2) := by decide +kernel
theorem dL_deciding_141 : decode cL_deciding 141 = .ok (.iadd, 1) := by decide +kernel
theorem dL_deciding_142 : decode cL_deciding 142 = .ok (.iaload, 1) := by decide +kernel
theorem dL_deciding_143 : decode cL_deciding 143 = .ok (.iconst 1, 1) := by decide +kernel
theorem dL_deciding_144 : decode cL_deciding 144 = .ok (.if_icmp .ne 14, 3) := by decide +kernel
theorem dL_deciding_147 : decode cL_deciding 147 = .ok (.aload_n 1, 1) := by decide +kernel
theorem dL_deciding_148 : decode cL_deciding 148 = .ok (.iload 7, 2) := by decide +kernel
theorem dL_deciding_150 : decode cL_deciding 150 = .ok (.iaload, 1) := by decide +kernel
theorem dL_deciding_151 : decode cL_deciding 151 = .ok (.ifCond .lt 7, 3) := by decide +kernel
theorem dL_deciding_154 : decode cL_deciding 154 = .ok (.iconst 1, 1) := by decide +kernel
theorem dL_deciding_155 : decode cL_deciding 155 = .ok (.goto 4, 3) := by decide +kernel
theorem dL_deciding_158 : decode cL_deciding 158 = .ok (.iconst 0, 1) := by decide +kernel
theorem dL_deciding_159 : decode cL_deciding 159 = .ok (.istore 8, 2) := by decide +kernel
theorem dL_deciding_161 : decode cL_deciding 161 = .ok (.iload 8, 2) := by decide +kernel
theorem dL_deciding_163 : decode cL_deciding 163 = .ok (.ifCond .eq 10, 3) := by decide +kernel
theorem dL_deciding_166 : decode cL_deciding 166 = .ok (.aload_n 1, 1) := by decide +kernel
theorem dL_deciding_167 : decode cL_deciding 167 = .ok (.iload 7, 2) := by decide +kernel
theorem dL_deciding_169 : decode cL_deciding 169 = .ok (.iaload, 1) := by decide +kernel
theorem dL_deciding_170 : decode cL_deciding 170 = .ok (.goto 5, 3) := by decide +kernel
theorem dL_deciding_173 : decode cL_deciding 173 = .ok (.iload 7, 2) := by decide +kernel
theorem dL_deciding_175 : decode cL_deciding 175 = .ok (.istore 7, 2) := by decide +kernel
theorem dL_deciding_177 : decode cL_deciding 177 = .ok (.goto (-167), 3) := by decide +kernel
theorem dL_deciding_180 : decode cL_deciding 180 = .ok (.iload 6, 2) := by decide +kernel
theorem dL_deciding_182 : decode cL_deciding 182 = .ok (.ireturn, 1) := by decide +kernel
theorem dL_allowed_0 : decode cL_allowed 0 = .ok (.iload_n 3, 1) := by decide +kernel
theorem dL_allowed_1 : decode cL_allowed 1 = .ok (.ifCond .eq 20, 3) := by decide +kernel
theorem dL_allowed_4 : decode cL_allowed 4 = .ok (.iload 5, 2) := by decide +kernel
theorem dL_allowed_6 : decode cL_allowed 6 = .ok (.iconst 3, 1) := by decide +kernel
theorem dL_allowed_7 : decode cL_allowed 7 = .ok (.if_icmp .ne 16, 3) := by decide +kernel
theorem dL_allowed_10 : decode cL_allowed 10 = .ok (.aload_n 1, 1) := by decide +kernel
theorem dL_allowed_11 : decode cL_allowed 11 = .ok (.bipush 10, 2) := by decide +kernel
theorem dL_allowed_13 : decode cL_allowed 13 = .ok (.iload 4, 2) := by decide +kernel
theorem dL_allowed_15 : decode cL_allowed 15 = .ok (.iadd, 1) := by decide +kernel
theorem dL_allowed_16 : decode cL_allowed 16 = .ok (.iaload, 1) := by decide +kernel
theorem dL_allowed_17 : decode cL_allowed 17 = .ok (.iload_n 3, 1) := by decide +kernel
theorem dL_allowed_18 : decode cL_allowed 18 = .ok (.if_icmp .ne 5, 3) := by decide +kernel
theorem dL_allowed_21 : decode cL_allowed 21 = .ok (.iconst 1, 1) := by decide +kernel
theorem dL_allowed_22 : decode cL_allowed 22 = .ok (.ireturn, 1) := by decide +kernel
theorem dL_allowed_23 : decode cL_allowed 23 = .ok (.aload_n 0, 1) := by decide +kernel
theorem dL_allowed_24 : decode cL_allowed 24 = .ok (.aload_n 1, 1) := by decide +kernel
theorem dL_allowed_25 : decode cL_allowed 25 = .ok (.aload_n 2, 1) := by decide +kernel
theorem dL_allowed_26 : decode cL_allowed 26 = .ok (.iload_n 3, 1) := by decide +kernel
theorem dL_allowed_27 : decode cL_allowed 27 = .ok (.iload 4, 2) := by decide +kernel
theorem dL_allowed_29 : decode cL_allowed 29 = .ok (.iload 5, 2) := by decide +kernel
theorem dL_allowed_31 : decode cL_allowed 31 = .ok (.invokestatic 188, 3) := by decide +kernel
theorem dL_allowed_34 : decode cL_allowed 34 = .ok (.istore 6, 2) := by decide +kernel
theorem dL_allowed_36 : decode cL_allowed 36 = .ok (.iload 6, 2) := by decide +kernel
theorem dL_allowed_38 : decode cL_allowed 38 = .ok (.ifCond .lt 32, 3) := by decide +kernel
theorem dL_allowed_41 : decode cL_allowed 41 = .ok (.aload_n 2, 1) := by decide +kernel
theorem dL_allowed_42 : decode cL_allowed 42 = .ok (.iload 6, 2) := by decide +kernel
theorem dL_allowed_44 : decode cL_allowed 44 = .ok (.iaload, 1) := by decide +kernel
theorem dL_allowed_45 : decode cL_allowed 45 = .ok (.iconst 2, 1) := by decide +kernel
theorem dL_allowed_46 : decode cL_allowed 46 = .ok (.iand, 1) := by decide +kernel
theorem dL_allowed_47 : decode cL_allowed 47 = .ok (.iconst 2, 1) := by decide +kernel
theorem dL_allowed_48 : decode cL_allowed 48 = .ok (.if_icmp .ne 22, 3) := by decide +kernel
theorem dL_allowed_51 : decode cL_allowed 51 = .ok (.aload_n 1, 1) := by decide +kernel
theorem dL_allowed_52 : decode cL_allowed 52 = .ok (.bipush 20, 2) := by decide +kernel
theorem dL_allowed_54 : decode cL_allowed 54 = .ok (.iload 4, 2) := by decide +kernel
theorem dL_allowed_56 : decode cL_allowed 56 = .ok (.iadd, 1) := by decide +kernel
theorem dL_allowed_57 : decode cL_allowed 57 = .ok (.iaload, 1) := by decide +kernel
theorem dL_allowed_58 : decode cL_allowed 58 = .ok (.iload 5, 2) := by decide +kernel
theorem dL_allowed_60 : decode cL_allowed 60 = .ok (.invokestatic 172, 3) := by decide +kernel
theorem dL_allowed_63 : decode cL_allowed 63 = .ok (.ifCond .eq 7, 3) := by decide +kernel
theorem dL_allowed_66 : decode cL_allowed 66 = .ok (.iconst 1, 1) := by decide +kernel
theorem dL_allowed_67 : decode cL_allowed 67 = .ok (.goto 4, 3) := by decide +kernel
theorem dL_allowed_70 : decode cL_allowed 70 = .ok (.iconst 0, 1) := by decide +kernel
theorem dL_allowed_71 : decode cL_allowed 71 = .ok (.ireturn, 1) := by decide +kernel
theorem dL_rights_0 : decode cL_rights 0 = .ok (.iconst 0, 1) := by decide +kernel
theorem dL_rights_1 : decode cL_rights 1 = .ok (.istore 5, 2) := by decide +kernel
theorem dL_rights_3 : decode cL_rights 3 = .ok (.iconst 0, 1) := by decide +kernel
theorem dL_rights_4 : decode cL_rights 4 = .ok (.istore 6, 2) := by decide +kernel
theorem dL_rights_6 : decode cL_rights 6 = .ok (.iload 6, 2) := by decide +kernel
theorem dL_rights_8 : decode cL_rights 8 = .ok (.iconst 4, 1) := by decide +kernel
theorem dL_rights_9 : decode cL_rights 9 = .ok (.if_icmp .ge 36, 3) := by decide +kernel
theorem dL_rights_12 : decode cL_rights 12 = .ok (.iload 5, 2) := by decide +kernel
theorem dL_rights_14 : decode cL_rights 14 = .ok (.aload_n 0, 1) := by decide +kernel
theorem dL_rights_15 : decode cL_rights 15 = .ok (.aload_n 1, 1) := by decide +kernel
theorem dL_rights_16 : decode cL_rights 16 = .ok (.aload_n 2, 1) := by decide +kernel
theorem dL_rights_17 : decode cL_rights 17 = .ok (.iload_n 3, 1) := by decide +kernel
theorem dL_rights_18 : decode cL_rights 18 = .ok (.iload 4, 2) := by decide +kernel
theorem dL_rights_20 : decode cL_rights 20 = .ok (.iload 6, 2) := by decide +kernel
theorem dL_rights_22 : decode cL_rights 22 = .ok (.invokestatic 192, 3) := by decide +kernel
theorem dL_rights_25 : decode cL_rights 25 = .ok (.ifCond .eq 10, 3) := by decide +kernel
theorem dL_rights_28 : decode cL_rights 28 = .ok (.iconst 1, 1) := by decide +kernel
theorem dL_rights_29 : decode cL_rights 29 = .ok (.iload 6, 2) := by decide +kernel
theorem dL_rights_31 : decode cL_rights 31 = .ok (.ishl, 1) := by decide +kernel
theorem dL_rights_32 : decode cL_rights 32 = .ok (.goto 4, 3) := by decide +kernel
theorem dL_rights_35 : decode cL_rights 35 = .ok (.iconst 0, 1) := by decide +kernel
theorem dL_rights_36 : decode cL_rights 36 = .ok (.ior, 1) := by decide +kernel
theorem dL_rights_37 : decode cL_rights 37 = .ok (.istore 5, 2) := by decide +kernel
theorem dL_rights_39 : decode cL_rights 39 = .ok (.iinc 6 1, 3) := by decide +kernel
theorem dL_rights_42 : decode cL_rights 42 = .ok (.goto (-36), 3) := by decide +kernel
theorem dL_rights_45 : decode cL_rights 45 = .ok (.iload 5, 2) := by decide +kernel
theorem dL_rights_47 : decode cL_rights 47 = .ok (.ireturn, 1) := by decide +kernel
theorem dL_notes_0 : decode cL_notes 0 = .ok (.iconst 0, 1) := by decide +kernel
theorem dL_notes_1 : decode cL_notes 1 = .ok (.istore 5, 2) := by decide +kernel
theorem dL_notes_3 : decode cL_notes 3 = .ok (.iload 5, 2) := by decide +kernel
theorem dL_notes_5 : decode cL_notes 5 = .ok (.aload_n 3, 1) := by decide +kernel
theorem dL_notes_6 : decode cL_notes 6 = .ok (.iconst 0, 1) := by decide +kernel
theorem dL_notes_7 : decode cL_notes 7 = .ok (.iaload, 1) := by decide +kernel
theorem dL_notes_8 : decode cL_notes 8 = .ok (.if_icmp .ge 68, 3) := by decide +kernel
theorem dL_notes_11 : decode cL_notes 11 = .ok (.lconst 0, 1) := by decide +kernel
theorem dL_notes_12 : decode cL_notes 12 = .ok (.lstore 6, 2) := by decide +kernel
theorem dL_notes_14 : decode cL_notes 14 = .ok (.iconst 0, 1) := by decide +kernel
theorem dL_notes_15 : decode cL_notes 15 = .ok (.istore 8, 2) := by decide +kernel
theorem dL_notes_17 : decode cL_notes 17 = .ok (.iload 8, 2) := by decide +kernel
theorem dL_notes_19 : decode cL_notes 19 = .ok (.bipush 10, 2) := by decide +kernel
theorem dL_notes_21 : decode cL_notes 21 = .ok (.if_icmp .ge 42, 3) := by decide +kernel
theorem dL_notes_24 : decode cL_notes 24 = .ok (.ldc2_w 196, 3) := by decide +kernel
theorem dL_notes_27 : decode cL_notes 27 = .ok (.lload 6, 2) := by decide +kernel
theorem dL_notes_29 : decode cL_notes 29 = .ok (.lmul, 1) := by decide +kernel
theorem dL_notes_30 : decode cL_notes 30 = .ok (.aload_n 1, 1) := by decide +kernel
theorem dL_notes_31 : decode cL_notes 31 = .ok (.iload 8, 2) := by decide +kernel
theorem dL_notes_33 : decode cL_notes 33 = .ok (.iaload, 1) := by decide +kernel
theorem dL_notes_34 : decode cL_notes 34 = .ok (.bipush (-2), 2) := by decide +kernel
theorem dL_notes_36 : decode cL_notes 36 = .ok (.if_icmp .ne 7, 3) := by decide +kernel
theorem dL_notes_39 : decode cL_notes 39 = .ok (.lconst 0, 1) := by decide +kernel
theorem dL_notes_40 : decode cL_notes 40 = .ok (.goto 14, 3) := by decide +kernel
theorem dL_notes_43 : decode cL_notes 43 = .ok (.aload_n 0, 1) := by decide +kernel
theorem dL_notes_44 : decode cL_notes 44 = .ok (.aload_n 1, 1) := by decide +kernel
theorem dL_notes_45 : decode cL_notes 45 = .ok (.aload_n 2, 1) := by decide +kernel
theorem dL_notes_46 : decode cL_notes 46 = .ok (.iload 5, 2) := by decide +kernel
theorem dL_notes_48 : decode cL_notes 48 = .ok (.iload 8, 2) := by decide +kernel
theorem dL_notes_50 : decode cL_notes 50 = .ok (.invokestatic 198, 3) := by decide +kernel
theorem dL_notes_53 : decode cL_notes 53 = .ok (.i2l, 1) := by decide +kernel
theorem dL_notes_54 : decode cL_notes 54 = .ok (.ladd, 1) := by decide +kernel
theorem dL_notes_55 : decode cL_notes 55 = .ok (.lstore 6, 2) := by decide +kernel
theorem dL_notes_57 : decode cL_notes 57 = .ok (.iinc 8 1, 3) := by decide +kernel
theorem dL_notes_60 : decode cL_notes 60 = .ok (.goto (-43), 3) := by decide +kernel
theorem dL_notes_63 : decode cL_notes 63 = .ok (.aload 4, 2) := by decide +kernel
theorem dL_notes_65 : decode cL_notes 65 = .ok (.iload 5, 2) := by decide +kernel
theorem dL_notes_67 : decode cL_notes 67 = .ok (.lload 6, 2) := by decide +kernel
theorem dL_notes_69 : decode cL_notes 69 = .ok (.lastore, 1) := by decide +kernel
theorem dL_notes_70 : decode cL_notes 70 = .ok (.iinc 5 1, 3) := by decide +kernel
theorem dL_notes_73 : decode cL_notes 73 = .ok (.goto (-70), 3) := by decide +kernel
theorem dL_notes_76 : decode cL_notes 76 = .ok (.return_, 1) := by decide +kernel
theorem dL_unlike_0 : decode cL_unlike 0 = .ok (.iconst 0, 1) := by decide +kernel
theorem dL_unlike_1 : decode cL_unlike 1 = .ok (.istore_n 2, 1) := by decide +kernel
theorem dL_unlike_2 : decode cL_unlike 2 = .ok (.iconst 0, 1) := by decide +kernel
theorem dL_unlike_3 : decode cL_unlike 3 = .ok (.istore_n 3, 1) := by decide +kernel
theorem dL_unlike_4 : decode cL_unlike 4 = .ok (.iload_n 3, 1) := by decide +kernel
theorem dL_unlike_5 : decode cL_unlike 5 = .ok (.bipush 12, 2) := by decide +kernel
theorem dL_unlike_7 : decode cL_unlike 7 = .ok (.if_icmp .ge 53, 3) := by decide +kernel
theorem dL_unlike_10 : decode cL_unlike 10 = .ok (.iconst 0, 1) := by decide +kernel
theorem dL_unlike_11 : decode cL_unlike 11 = .ok (.istore 4, 2) := by decide +kernel
theorem dL_unlike_13 : decode cL_unlike 13 = .ok (.iload 4, 2) := by decide +kernel
theorem dL_unlike_15 : decode cL_unlike 15 = .ok (.bipush 40, 2) := by decide +kernel
theorem dL_unlike_17 : decode cL_unlike 17 = .ok (.if_icmp .ge 37, 3) := by decide +kernel
theorem dL_unlike_20 : decode cL_unlike 20 = .ok (.iload_n 2, 1) := by decide +kernel
theorem dL_unlike_21 : decode cL_unlike 21 = .ok (.aload_n 0, 1) := by decide +kernel
theorem dL_unlike_22 : decode cL_unlike 22 = .ok (.iload_n 3, 1) := by decide +kernel
theorem dL_unlike_23 : decode cL_unlike 23 = .ok (.laload, 1) := by decide +kernel
theorem dL_unlike_24 : decode cL_unlike 24 = .ok (.iload 4, 2) := by decide +kernel
theorem dL_unlike_26 : decode cL_unlike 26 = .ok (.lshr, 1) := by decide +kernel
theorem dL_unlike_27 : decode cL_unlike 27 = .ok (.lconst 1, 1) := by decide +kernel
theorem dL_unlike_28 : decode cL_unlike 28 = .ok (.land, 1) := by decide +kernel
theorem dL_unlike_29 : decode cL_unlike 29 = .ok (.aload_n 1, 1) := by decide +kernel
theorem dL_unlike_30 : decode cL_unlike 30 = .ok (.iload_n 3, 1) := by decide +kernel
theorem dL_unlike_31 : decode cL_unlike 31 = .ok (.laload, 1) := by decide +kernel
theorem dL_unlike_32 : decode cL_unlike 32 = .ok (.iload 4, 2) := by decide +kernel
theorem dL_unlike_34 : decode cL_unlike 34 = .ok (.lshr, 1) := by decide +kernel
theorem dL_unlike_35 : decode cL_unlike 35 = .ok (.lconst 1, 1) := by decide +kernel
theorem dL_unlike_36 : decode cL_unlike 36 = .ok (.land, 1) := by decide +kernel
theorem dL_unlike_37 : decode cL_unlike 37 = .ok (.lcmp, 1) := by decide +kernel
theorem dL_unlike_38 : decode cL_unlike 38 = .ok (.ifCond .eq 7, 3) := by decide +kernel
theorem dL_unlike_41 : decode cL_unlike 41 = .ok (.iconst 1, 1) := by decide +kernel
theorem dL_unlike_42 : decode cL_unlike 42 = .ok (.goto 4, 3) := by decide +kernel
theorem dL_unlike_45 : decode cL_unlike 45 = .ok (.iconst 0, 1) := by decide +kernel
theorem dL_unlike_46 : decode cL_unlike 46 = .ok (.iadd, 1) := by decide +kernel
theorem dL_unlike_47 : decode cL_unlike 47 = .ok (.istore_n 2, 1) := by decide +kernel
theorem dL_unlike_48 : decode cL_unlike 48 = .ok (.iinc 4 1, 3) := by decide +kernel
theorem dL_unlike_51 : decode cL_unlike 51 = .ok (.goto (-38), 3) := by decide +kernel
theorem dL_unlike_54 : decode cL_unlike 54 = .ok (.iinc 3 1, 3) := by decide +kernel
theorem dL_unlike_57 : decode cL_unlike 57 = .ok (.goto (-53), 3) := by decide +kernel
theorem dL_unlike_60 : decode cL_unlike 60 = .ok (.iload_n 2, 1) := by decide +kernel
theorem dL_unlike_61 : decode cL_unlike 61 = .ok (.ireturn, 1) := by decide +kernel
theorem dL_isUnder_0 : decode cL_isUnder 0 = .ok (.aload_n 0, 1) := by decide +kernel
theorem dL_isUnder_1 : decode cL_isUnder 1 = .ok (.iload_n 1, 1) := by decide +kernel
theorem dL_isUnder_2 : decode cL_isUnder 2 = .ok (.iaload, 1) := by decide +kernel
theorem dL_isUnder_3 : decode cL_isUnder 3 = .ok (.istore_n 3, 1) := by decide +kernel
theorem dL_isUnder_4 : decode cL_isUnder 4 = .ok (.iload_n 3, 1) := by decide +kernel
theorem dL_isUnder_5 : decode cL_isUnder 5 = .ok (.ifCond .lt 15, 3) := by decide +kernel
theorem dL_isUnder_8 : decode cL_isUnder 8 = .ok (.iload_n 3, 1) := by decide +kernel
theorem dL_isUnder_9 : decode cL_isUnder 9 = .ok (.iload_n 2, 1) := by decide +kernel
theorem dL_isUnder_10 : decode cL_isUnder 10 = .ok (.if_icmp .eq 10, 3) := by decide +kernel
theorem dL_isUnder_13 : decode cL_isUnder 13 = .ok (.aload_n 0, 1) := by decide +kernel
theorem dL_isUnder_14 : decode cL_isUnder 14 = .ok (.iload_n 3, 1) := by decide +kernel
theorem dL_isUnder_15 : decode cL_isUnder 15 = .ok (.iaload, 1) := by decide +kernel
theorem dL_isUnder_16 : decode cL_isUnder 16 = .ok (.istore_n 3, 1) := by decide +kernel
theorem dL_isUnder_17 : decode cL_isUnder 17 = .ok (.goto (-13), 3) := by decide +kernel
theorem dL_isUnder_20 : decode cL_isUnder 20 = .ok (.iload_n 3, 1) := by decide +kernel
theorem dL_isUnder_21 : decode cL_isUnder 21 = .ok (.iload_n 2, 1) := by decide +kernel
theorem dL_isUnder_22 : decode cL_isUnder 22 = .ok (.if_icmp .ne 7, 3) := by decide +kernel
theorem dL_isUnder_25 : decode cL_isUnder 25 = .ok (.iconst 1, 1) := by decide +kernel
theorem dL_isUnder_26 : decode cL_isUnder 26 = .ok (.goto 4, 3) := by decide +kernel
theorem dL_isUnder_29 : decode cL_isUnder 29 = .ok (.iconst 0, 1) := by decide +kernel
theorem dL_isUnder_30 : decode cL_isUnder 30 = .ok (.ireturn, 1) := by decide +kernel
theorem dL_areGroups_0 : decode cL_areGroups 0 = .ok (.aload_n 0, 1) := by decide +kernel
theorem dL_areGroups_1 : decode cL_areGroups 1 = .ok (.invokevirtual 202, 3) := by decide +kernel
theorem dL_areGroups_4 : decode cL_areGroups 4 = .ok (.aload_n 2, 1) := by decide +kernel
theorem dL_areGroups_5 : decode cL_areGroups 5 = .ok (.iconst 0, 1) := by decide +kernel
theorem dL_areGroups_6 : decode cL_areGroups 6 = .ok (.iaload, 1) := by decide +kernel
theorem dL_areGroups_7 : decode cL_areGroups 7 = .ok (.if_icmp .ne 79, 3) := by decide +kernel
theorem dL_areGroups_10 : decode cL_areGroups 10 = .ok (.aload_n 0, 1) := by decide +kernel
theorem dL_areGroups_11 : decode cL_areGroups 11 = .ok (.invokevirtual 205, 3) := by decide +kernel
theorem dL_areGroups_14 : decode cL_areGroups 14 = .ok (.aload_n 2, 1) := by decide +kernel
theorem dL_areGroups_15 : decode cL_areGroups 15 = .ok (.iconst 1, 1) := by decide +kernel
theorem dL_areGroups_16 : decode cL_areGroups 16 = .ok (.iaload, 1) := by decide +kernel
theorem dL_areGroups_17 : decode cL_areGroups 17 = .ok (.if_icmp .ne 69, 3) := by decide +kernel
theorem dL_areGroups_20 : decode cL_areGroups 20 = .ok (.aload_n 0, 1) := by decide +kernel
theorem dL_areGroups_21 : decode cL_areGroups 21 = .ok (.aload_n 2, 1) := by decide +kernel
theorem dL_areGroups_22 : decode cL_areGroups 22 = .ok (.iconst 0, 1) := by decide +kernel
theorem dL_areGroups_23 : decode cL_areGroups 23 = .ok (.iaload, 1) := by decide +kernel
theorem dL_areGroups_24 : decode cL_areGroups 24 = .ok (.iconst 0, 1) := by decide +kernel
theorem dL_areGroups_25 : decode cL_areGroups 25 = .ok (.invokestatic 208, 3) := by decide +kernel
theorem dL_areGroups_28 : decode cL_areGroups 28 = .ok (.bipush (-101), 2) := by decide +kernel
theorem dL_areGroups_30 : decode cL_areGroups 30 = .ok (.if_icmp .ne 56, 3) := by decide +kernel
theorem dL_areGroups_33 : decode cL_areGroups 33 = .ok (.aload_n 0, 1) := by decide +kernel
theorem dL_areGroups_34 : decode cL_areGroups 34 = .ok (.iconst 0, 1) := by decide +kernel
theorem dL_areGroups_35 : decode cL_areGroups 35 = .ok (.aload_n 2, 1) := by decide +kernel
theorem dL_areGroups_36 : decode cL_areGroups 36 = .ok (.iconst 1, 1) := by decide +kernel
theorem dL_areGroups_37 : decode cL_areGroups 37 = .ok (.iaload, 1) := by decide +kernel
theorem dL_areGroups_38 : decode cL_areGroups 38 = .ok (.invokestatic 208, 3) := by decide +kernel
theorem dL_areGroups_41 : decode cL_areGroups 41 = .ok (.bipush (-101), 2) := by decide +kernel
theorem dL_areGroups_43 : decode cL_areGroups 43 = .ok (.if_icmp .ne 43, 3) := by decide +kernel
theorem dL_areGroups_46 : decode cL_areGroups 46 = .ok (.aload_n 0, 1) := by decide +kernel
theorem dL_areGroups_47 : decode cL_areGroups 47 = .ok (.aload_n 2, 1) := by decide +kernel
theorem dL_areGroups_48 : decode cL_areGroups 48 = .ok (.iconst 1, 1) := by decide +kernel
theorem dL_areGroups_49 : decode cL_areGroups 49 = .ok (.iaload, 1) := by decide +kernel
theorem dL_areGroups_50 : decode cL_areGroups 50 = .ok (.iconst 0, 1) := by decide +kernel
theorem dL_areGroups_51 : decode cL_areGroups 51 = .ok (.invokestatic 212, 3) := by decide +kernel
theorem dL_areGroups_54 : decode cL_areGroups 54 = .ok (.bipush (-101), 2) := by decide +kernel
theorem dL_areGroups_56 : decode cL_areGroups 56 = .ok (.if_icmp .ne 30, 3) := by decide +kernel
theorem dL_areGroups_59 : decode cL_areGroups 59 = .ok (.aload_n 0, 1) := by decide +kernel
theorem dL_areGroups_60 : decode cL_areGroups 60 = .ok (.iconst (-1), 1) := by decide +kernel
theorem dL_areGroups_61 : decode cL_areGroups 61 = .ok (.iconst 0, 1) := by decide +kernel
theorem dL_areGroups_62 : decode cL_areGroups 62 = .ok (.invokestatic 215, 3) := by decide +kernel
theorem dL_areGroups_65 : decode cL_areGroups 65 = .ok (.bipush (-101), 2) := by decide +kernel
theorem dL_areGroups_67 : decode cL_areGroups 67 = .ok (.if_icmp .ne 19, 3) := by decide +kernel
theorem dL_areGroups_70 : decode cL_areGroups 70 = .ok (.aload_n 0, 1) := by decide +kernel
theorem dL_areGroups_71 : decode cL_areGroups 71 = .ok (.iconst 0, 1) := by decide +kernel
theorem dL_areGroups_72 : decode cL_areGroups 72 = .ok (.bipush 8, 2) := by decide +kernel
theorem dL_areGroups_74 : decode cL_areGroups 74 = .ok (.invokestatic 218, 3) := by decide +kernel
theorem dL_areGroups_77 : decode cL_areGroups 77 = .ok (.bipush (-101), 2) := by decide +kernel
theorem dL_areGroups_79 : decode cL_areGroups 79 = .ok (.if_icmp .ne 7, 3) := by decide +kernel
theorem dL_areGroups_82 : decode cL_areGroups 82 = .ok (.iconst 1, 1) := by decide +kernel
theorem dL_areGroups_83 : decode cL_areGroups 83 = .ok (.goto 4, 3) := by decide +kernel
theorem dL_areGroups_86 : decode cL_areGroups 86 = .ok (.iconst 0, 1) := by decide +kernel
theorem dL_areGroups_87 : decode cL_areGroups 87 = .ok (.istore_n 3, 1) := by decide +kernel
theorem dL_areGroups_88 : decode cL_areGroups 88 = .ok (.iconst 0, 1) := by decide +kernel
theorem dL_areGroups_89 : decode cL_areGroups 89 = .ok (.istore 4, 2) := by decide +kernel
theorem dL_areGroups_91 : decode cL_areGroups 91 = .ok (.iload 4, 2) := by decide +kernel
theorem dL_areGroups_93 : decode cL_areGroups 93 = .ok (.aload_n 2, 1) := by decide +kernel
theorem dL_areGroups_94 : decode cL_areGroups 94 = .ok (.iconst 1, 1) := by decide +kernel
theorem dL_areGroups_95 : decode cL_areGroups 95 = .ok (.iaload, 1) := by decide +kernel
theorem dL_areGroups_96 : decode cL_areGroups 96 = .ok (.if_icmp .ge 177, 3) := by decide +kernel
theorem dL_areGroups_99 : decode cL_areGroups 99 = .ok (.iload_n 3, 1) := by decide +kernel
theorem dL_areGroups_100 : decode cL_areGroups 100 = .ok (.ifCond .eq 173, 3) := by decide +kernel
theorem dL_areGroups_103 : decode cL_areGroups 103 = .ok (.aload_n 1, 1) := by decide +kernel
theorem dL_areGroups_104 : decode cL_areGroups 104 = .ok (.iload 4, 2) := by decide +kernel
theorem dL_areGroups_106 : decode cL_areGroups 106 = .ok (.invokestatic 181, 3) := by decide +kernel
theorem dL_areGroups_109 : decode cL_areGroups 109 = .ok (.istore 5, 2) := by decide +kernel
theorem dL_areGroups_111 : decode cL_areGroups 111 = .ok (.iconst 0, 1) := by decide +kernel
theorem dL_areGroups_112 : decode cL_areGroups 112 = .ok (.istore 6, 2) := by decide +kernel
theorem dL_areGroups_114 : decode cL_areGroups 114 = .ok (.iload 6, 2) := by decide +kernel
theorem dL_areGroups_116 : decode cL_areGroups 116 = .ok (.aload_n 2, 1) := by decide +kernel
theorem dL_areGroups_117 : decode cL_areGroups 117 = .ok (.iconst 0, 1) := by decide +kernel
theorem dL_areGroups_118 : decode cL_areGroups 118 = .ok (.iaload, 1) := by decide +kernel
theorem dL_areGroups_119 : decode cL_areGroups 119 = .ok (.if_icmp .ge 90, 3) := by decide +kernel
theorem dL_areGroups_122 : decode cL_areGroups 122 = .ok (.iload_n 3, 1) := by decide +kernel
theorem dL_areGroups_123 : decode cL_areGroups 123 = .ok (.ifCond .eq 86, 3) := by decide +kernel
theorem dL_areGroups_126 : decode cL_areGroups 126 = .ok (.iload 5, 2) := by decide +kernel
theorem dL_areGroups_128 : decode cL_areGroups 128 = .ok (.iload 6, 2) := by decide +kernel
theorem dL_areGroups_130 : decode cL_areGroups 130 = .ok (.invokestatic 172, 3) := by decide +kernel
theorem dL_areGroups_133 : decode cL_areGroups 133 = .ok (.ifCond .eq 7, 3) := by decide +kernel
theorem dL_areGroups_136 : decode cL_areGroups 136 = .ok (.iconst 1, 1) := by decide +kernel
theorem dL_areGroups_137 : decode cL_areGroups 137 = .ok (.goto 4, 3) := by decide +kernel
theorem dL_areGroups_140 : decode cL_areGroups 140 = .ok (.iconst 0, 1) := by decide +kernel
theorem dL_areGroups_141 : decode cL_areGroups 141 = .ok (.istore 7, 2) := by decide +kernel
theorem dL_areGroups_143 : decode cL_areGroups 143 = .ok (.aload_n 0, 1) := by decide +kernel
theorem dL_areGroups_144 : decode cL_areGroups 144 = .ok (.iload 6, 2) := by decide +kernel
theorem dL_areGroups_146 : decode cL_areGroups 146 = .ok (.iload 4, 2) := by decide +kernel
theorem dL_areGroups_148 : decode cL_areGroups 148 = .ok (.invokestatic 208, 3) := by decide +kernel
theorem dL_areGroups_151 : decode cL_areGroups 151 = .ok (.aload_n 1, 1) := by decide +kernel
theorem dL_areGroups_152 : decode cL_areGroups 152 = .ok (.iload 4, 2) := by decide +kernel
theorem dL_areGroups_154 : decode cL_areGroups 154 = .ok (.iaload, 1) := by decide +kernel
theorem dL_areGroups_155 : decode cL_areGroups 155 = .ok (.iload 6, 2) := by decide +kernel
theorem dL_areGroups_157 : decode cL_areGroups 157 = .ok (.invokestatic 172, 3) := by decide +kernel
theorem dL_areGroups_160 : decode cL_areGroups 160 = .ok (.ifCond .eq 7, 3) := by decide +kernel
theorem dL_areGroups_163 : decode cL_areGroups 163 = .ok (.iconst 1, 1) := by decide +kernel
theorem dL_areGroups_164 : decode cL_areGroups 164 = .ok (.goto 4, 3) := by decide +kernel
theorem dL_areGroups_167 : decode cL_areGroups 167 = .ok (.iconst 0, 1) := by decide +kernel
theorem dL_areGroups_168 : decode cL_areGroups 168 = .ok (.if_icmp .ne 33, 3) := by decide +kernel
theorem dL_areGroups_171 : decode cL_areGroups 171 = .ok (.aload_n 0, 1) := by decide +kernel
theorem dL_areGroups_172 : decode cL_areGroups 172 = .ok (.iload 6, 2) := by decide +kernel
theorem dL_areGroups_174 : decode cL_areGroups 174 = .ok (.iload 4, 2) := by decide +kernel
theorem dL_areGroups_176 : decode cL_areGroups 176 = .ok (.invokestatic 215, 3) := by decide +kernel
theorem dL_areGroups_179 : decode cL_areGroups 179 = .ok (.iload 7, 2) := by decide +kernel
theorem dL_areGroups_181 : decode cL_areGroups 181 = .ok (.if_icmp .ne 20, 3) := by decide +kernel
theorem dL_areGroups_184 : decode cL_areGroups 184 = .ok (.aload_n 0, 1) := by decide +kernel
theorem dL_areGroups_185 : decode cL_areGroups 185 = .ok (.iload 6, 2) := by decide +kernel
theorem dL_areGroups_187 : decode cL_areGroups 187 = .ok (.iload 4, 2) := by decide +kernel
theorem dL_areGroups_189 : decode cL_areGroups 189 = .ok (.invokestatic 218, 3) := by decide +kernel
theorem dL_areGroups_192 : decode cL_areGroups 192 = .ok (.iload 7, 2) := by decide +kernel
theorem dL_areGroups_194 : decode cL_areGroups 194 = .ok (.if_icmp .ne 7, 3) := by decide +kernel
theorem dL_areGroups_197 : decode cL_areGroups 197 = .ok (.iconst 1, 1) := by decide +kernel
theorem dL_areGroups_198 : decode cL_areGroups 198 = .ok (.goto 4, 3) := by decide +kernel
theorem dL_areGroups_201 : decode cL_areGroups 201 = .ok (.iconst 0, 1) := by decide +kernel
theorem dL_areGroups_202 : decode cL_areGroups 202 = .ok (.istore_n 3, 1) := by decide +kernel
theorem dL_areGroups_203 : decode cL_areGroups 203 = .ok (.iinc 6 1, 3) := by decide +kernel
theorem dL_areGroups_206 : decode cL_areGroups 206 = .ok (.goto (-92), 3) := by decide +kernel
theorem dL_areGroups_209 : decode cL_areGroups 209 = .ok (.iconst 0, 1) := by decide +kernel
theorem dL_areGroups_210 : decode cL_areGroups 210 = .ok (.istore 6, 2) := by decide +kernel
theorem dL_areGroups_212 : decode cL_areGroups 212 = .ok (.iload 6, 2) := by decide +kernel
theorem dL_areGroups_214 : decode cL_areGroups 214 = .ok (.aload_n 2, 1) := by decide +kernel
theorem dL_areGroups_215 : decode cL_areGroups 215 = .ok (.iconst 1, 1) := by decide +kernel
theorem dL_areGroups_216 : decode cL_areGroups 216 = .ok (.iaload, 1) := by decide +kernel
theorem dL_areGroups_217 : decode cL_areGroups 217 = .ok (.if_icmp .ge 50, 3) := by decide +kernel
theorem dL_areGroups_220 : decode cL_areGroups 220 = .ok (.iload_n 3, 1) := by decide +kernel
theorem dL_areGroups_221 : decode cL_areGroups 221 = .ok (.ifCond .eq 46, 3) := by decide +kernel
theorem dL_areGroups_224 : decode cL_areGroups 224 = .ok (.aload_n 0, 1) := by decide +kernel
theorem dL_areGroups_225 : decode cL_areGroups 225 = .ok (.iload 6, 2) := by decide +kernel
theorem dL_areGroups_227 : decode cL_areGroups 227 = .ok (.iload 4, 2) := by decide +kernel
theorem dL_areGroups_229 : decode cL_areGroups 229 = .ok (.invokestatic 212, 3) := by decide +kernel
theorem dL_areGroups_232 : decode cL_areGroups 232 = .ok (.aload_n 1, 1) := by decide +kernel
theorem dL_areGroups_233 : decode cL_areGroups 233 = .ok (.bipush 8, 2) := by decide +kernel
theorem dL_areGroups_235 : decode cL_areGroups 235 = .ok (.iload 4, 2) := by decide +kernel
theorem dL_areGroups_237 : decode cL_areGroups 237 = .ok (.iadd, 1) := by decide +kernel
theorem dL_areGroups_238 : decode cL_areGroups 238 = .ok (.iaload, 1) := by decide +kernel
theorem dL_areGroups_239 : decode cL_areGroups 239 = .ok (.iload 6, 2) := by decide +kernel
theorem dL_areGroups_241 : decode cL_areGroups 241 = .ok (.invokestatic 172, 3) := by decide +kernel
theorem dL_areGroups_244 : decode cL_areGroups 244 = .ok (.ifCond .eq 7, 3) := by decide +kernel
theorem dL_areGroups_247 : decode cL_areGroups 247 = .ok (.iconst 1, 1) := by decide +kernel
theorem dL_areGroups_248 : decode cL_areGroups 248 = .ok (.goto 4, 3) := by decide +kernel
theorem dL_areGroups_251 : decode cL_areGroups 251 = .ok (.iconst 0, 1) := by decide +kernel
theorem dL_areGroups_252 : decode cL_areGroups 252 = .ok (.if_icmp .ne 7, 3) := by decide +kernel
theorem dL_areGroups_255 : decode cL_areGroups 255 = .ok (.iconst 1, 1) := by decide +kernel
theorem dL_areGroups_256 : decode cL_areGroups 256 = .ok (.goto 4, 3) := by decide +kernel
theorem dL_areGroups_259 : decode cL_areGroups 259 = .ok (.iconst 0, 1) := by decide +kernel
theorem dL_areGroups_260 : decode cL_areGroups 260 = .ok (.istore_n 3, 1) := by decide +kernel
theorem dL_areGroups_261 : decode cL_areGroups 261 = .ok (.iinc 6 1, 3) := by decide +kernel
theorem dL_areGroups_264 : decode cL_areGroups 264 = .ok (.goto (-52), 3) := by decide +kernel
theorem dL_areGroups_267 : decode cL_areGroups 267 = .ok (.iinc 4 1, 3) := by decide +kernel
theorem dL_areGroups_270 : decode cL_areGroups 270 = .ok (.goto (-179), 3) := by decide +kernel
theorem dL_areGroups_273 : decode cL_areGroups 273 = .ok (.iload_n 3, 1) := by decide +kernel
theorem dL_areGroups_274 : decode cL_areGroups 274 = .ok (.ireturn, 1) := by decide +kernel
theorem dL_areObjects_0 : decode cL_areObjects 0 = .ok (.aload_n 0, 1) := by decide +kernel
theorem dL_areObjects_1 : decode cL_areObjects 1 = .ok (.invokevirtual 221, 3) := by decide +kernel
theorem dL_areObjects_4 : decode cL_areObjects 4 = .ok (.aload_n 3, 1) := by decide +kernel
theorem dL_areObjects_5 : decode cL_areObjects 5 = .ok (.iconst 2, 1) := by decide +kernel
theorem dL_areObjects_6 : decode cL_areObjects 6 = .ok (.iaload, 1) := by decide +kernel
theorem dL_areObjects_7 : decode cL_areObjects 7 = .ok (.if_icmp .ne 45, 3) := by decide +kernel
theorem dL_areObjects_10 : decode cL_areObjects 10 = .ok (.aload_n 0, 1) := by decide +kernel
theorem dL_areObjects_11 : decode cL_areObjects 11 = .ok (.bipush 20, 2) := by decide +kernel
