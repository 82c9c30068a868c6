theorem dX10_putObject_35 : decode cX10_putObject 35 = .ok (.invokevirtual 58, 3) := by decide +kernel
theorem dX10_putObject_38 : decode cX10_putObject 38 = .ok (.return_, 1) := by decide +kernel
theorem dX10_dropObject_0 : decode cX10_dropObject 0 = .ok (.aload_n 0, 1) := by decide +kernel
theorem dX10_dropObject_1 : decode cX10_dropObject 1 = .ok (.aload_n 0, 1) := by decide +kernel
theorem dX10_dropObject_2 : decode cX10_dropObject 2 = .ok (.getfield 9, 3) := by decide +kernel
theorem dX10_dropObject_5 : decode cX10_dropObject 5 = .ok (.iload_n 1, 1) := by decide +kernel
theorem dX10_dropObject_6 : decode cX10_dropObject 6 = .ok (.iconst 0, 1) := by decide +kernel
theorem dX10_dropObject_7 : decode cX10_dropObject 7 = .ok (.invokestatic 44, 3) := by decide +kernel
theorem dX10_dropObject_10 : decode cX10_dropObject 10 = .ok (.putfield 9, 3) := by decide +kernel
theorem dX10_dropObject_13 : decode cX10_dropObject 13 = .ok (.return_, 1) := by decide +kernel
theorem dX10_parentAt_0 : decode cX10_parentAt 0 = .ok (.aload_n 0, 1) := by decide +kernel
theorem dX10_parentAt_1 : decode cX10_parentAt 1 = .ok (.iload_n 1, 1) := by decide +kernel
theorem dX10_parentAt_2 : decode cX10_parentAt 2 = .ok (.invokevirtual 62, 3) := by decide +kernel
theorem dX10_parentAt_5 : decode cX10_parentAt 5 = .ok (.ifCond .eq 12, 3) := by decide +kernel
theorem dX10_parentAt_8 : decode cX10_parentAt 8 = .ok (.aload_n 0, 1) := by decide +kernel
theorem dX10_parentAt_9 : decode cX10_parentAt 9 = .ok (.getfield 18, 3) := by decide +kernel
theorem dX10_parentAt_12 : decode cX10_parentAt 12 = .ok (.iload_n 1, 1) := by decide +kernel
theorem dX10_parentAt_13 : decode cX10_parentAt 13 = .ok (.iaload, 1) := by decide +kernel
theorem dX10_parentAt_14 : decode cX10_parentAt 14 = .ok (.goto 4, 3) := by decide +kernel
theorem dX10_parentAt_17 : decode cX10_parentAt 17 = .ok (.iconst (-1), 1) := by decide +kernel
theorem dX10_parentAt_18 : decode cX10_parentAt 18 = .ok (.ireturn, 1) := by decide +kernel
theorem dX10_ownerAt_0 : decode cX10_ownerAt 0 = .ok (.aload_n 0, 1) := by decide +kernel
theorem dX10_ownerAt_1 : decode cX10_ownerAt 1 = .ok (.iload_n 1, 1) := by decide +kernel
theorem dX10_ownerAt_2 : decode cX10_ownerAt 2 = .ok (.invokevirtual 62, 3) := by decide +kernel
theorem dX10_ownerAt_5 : decode cX10_ownerAt 5 = .ok (.ifCond .eq 12, 3) := by decide +kernel
theorem dX10_ownerAt_8 : decode cX10_ownerAt 8 = .ok (.aload_n 0, 1) := by decide +kernel
theorem dX10_ownerAt_9 : decode cX10_ownerAt 9 = .ok (.getfield 22, 3) := by decide +kernel
theorem dX10_ownerAt_12 : decode cX10_ownerAt 12 = .ok (.iload_n 1, 1) := by decide +kernel
theorem dX10_ownerAt_13 : decode cX10_ownerAt 13 = .ok (.iaload, 1) := by decide +kernel
theorem dX10_ownerAt_14 : decode cX10_ownerAt 14 = .ok (.goto 4, 3) := by decide +kernel
theorem dX10_ownerAt_17 : decode cX10_ownerAt 17 = .ok (.iconst (-1), 1) := by decide +kernel
theorem dX10_ownerAt_18 : decode cX10_ownerAt 18 = .ok (.ireturn, 1) := by decide +kernel
theorem dX10_maskAt_0 : decode cX10_maskAt 0 = .ok (.aload_n 0, 1) := by decide +kernel
theorem dX10_maskAt_1 : decode cX10_maskAt 1 = .ok (.iload_n 1, 1) := by decide +kernel
theorem dX10_maskAt_2 : decode cX10_maskAt 2 = .ok (.invokevirtual 62, 3) := by decide +kernel
theorem dX10_maskAt_5 : decode cX10_maskAt 5 = .ok (.ifCond .eq 12, 3) := by decide +kernel
theorem dX10_maskAt_8 : decode cX10_maskAt 8 = .ok (.aload_n 0, 1) := by decide +kernel
theorem dX10_maskAt_9 : decode cX10_maskAt 9 = .ok (.getfield 25, 3) := by decide +kernel
theorem dX10_maskAt_12 : decode cX10_maskAt 12 = .ok (.iload_n 1, 1) := by decide +kernel
theorem dX10_maskAt_13 : decode cX10_maskAt 13 = .ok (.iaload, 1) := by decide +kernel
theorem dX10_maskAt_14 : decode cX10_maskAt 14 = .ok (.goto 4, 3) := by decide +kernel
theorem dX10_maskAt_17 : decode cX10_maskAt 17 = .ok (.iconst 0, 1) := by decide +kernel
theorem dX10_maskAt_18 : decode cX10_maskAt 18 = .ok (.ireturn, 1) := by decide +kernel
theorem dX10_inherits_0 : decode cX10_inherits 0 = .ok (.aload_n 0, 1) := by decide +kernel
theorem dX10_inherits_1 : decode cX10_inherits 1 = .ok (.getfield 15, 3) := by decide +kernel
theorem dX10_inherits_4 : decode cX10_inherits 4 = .ok (.iload_n 1, 1) := by decide +kernel
theorem dX10_inherits_5 : decode cX10_inherits 5 = .ok (.invokestatic 40, 3) := by decide +kernel
theorem dX10_inherits_8 : decode cX10_inherits 8 = .ok (.ireturn, 1) := by decide +kernel
theorem dX10_setParent_0 : decode cX10_setParent 0 = .ok (.iload_n 1, 1) := by decide +kernel
theorem dX10_setParent_1 : decode cX10_setParent 1 = .ok (.bipush 20, 2) := by decide +kernel
theorem dX10_setParent_3 : decode cX10_setParent 3 = .ok (.invokestatic 66, 3) := by decide +kernel
theorem dX10_setParent_6 : decode cX10_setParent 6 = .ok (.ifCond .eq 10, 3) := by decide +kernel
theorem dX10_setParent_9 : decode cX10_setParent 9 = .ok (.aload_n 0, 1) := by decide +kernel
theorem dX10_setParent_10 : decode cX10_setParent 10 = .ok (.getfield 18, 3) := by decide +kernel
theorem dX10_setParent_13 : decode cX10_setParent 13 = .ok (.iload_n 1, 1) := by decide +kernel
theorem dX10_setParent_14 : decode cX10_setParent 14 = .ok (.iload_n 2, 1) := by decide +kernel
theorem dX10_setParent_15 : decode cX10_setParent 15 = .ok (.iastore, 1) := by decide +kernel
theorem dX10_setParent_16 : decode cX10_setParent 16 = .ok (.return_, 1) := by decide +kernel
theorem dX10_setOwner_0 : decode cX10_setOwner 0 = .ok (.iload_n 1, 1) := by decide +kernel
theorem dX10_setOwner_1 : decode cX10_setOwner 1 = .ok (.bipush 20, 2) := by decide +kernel
theorem dX10_setOwner_3 : decode cX10_setOwner 3 = .ok (.invokestatic 66, 3) := by decide +kernel
theorem dX10_setOwner_6 : decode cX10_setOwner 6 = .ok (.ifCond .eq 10, 3) := by decide +kernel
theorem dX10_setOwner_9 : decode cX10_setOwner 9 = .ok (.aload_n 0, 1) := by decide +kernel
theorem dX10_setOwner_10 : decode cX10_setOwner 10 = .ok (.getfield 22, 3) := by decide +kernel
theorem dX10_setOwner_13 : decode cX10_setOwner 13 = .ok (.iload_n 1, 1) := by decide +kernel
theorem dX10_setOwner_14 : decode cX10_setOwner 14 = .ok (.iload_n 2, 1) := by decide +kernel
theorem dX10_setOwner_15 : decode cX10_setOwner 15 = .ok (.iastore, 1) := by decide +kernel
theorem dX10_setOwner_16 : decode cX10_setOwner 16 = .ok (.return_, 1) := by decide +kernel
theorem dX10_limitTo_0 : decode cX10_limitTo 0 = .ok (.iload_n 1, 1) := by decide +kernel
theorem dX10_limitTo_1 : decode cX10_limitTo 1 = .ok (.bipush 20, 2) := by decide +kernel
theorem dX10_limitTo_3 : decode cX10_limitTo 3 = .ok (.invokestatic 66, 3) := by decide +kernel
theorem dX10_limitTo_6 : decode cX10_limitTo 6 = .ok (.ifCond .eq 10, 3) := by decide +kernel
theorem dX10_limitTo_9 : decode cX10_limitTo 9 = .ok (.aload_n 0, 1) := by decide +kernel
theorem dX10_limitTo_10 : decode cX10_limitTo 10 = .ok (.getfield 25, 3) := by decide +kernel
theorem dX10_limitTo_13 : decode cX10_limitTo 13 = .ok (.iload_n 1, 1) := by decide +kernel
theorem dX10_limitTo_14 : decode cX10_limitTo 14 = .ok (.iload_n 2, 1) := by decide +kernel
theorem dX10_limitTo_15 : decode cX10_limitTo 15 = .ok (.iastore, 1) := by decide +kernel
theorem dX10_limitTo_16 : decode cX10_limitTo 16 = .ok (.return_, 1) := by decide +kernel
theorem dX10_letInherit_0 : decode cX10_letInherit 0 = .ok (.aload_n 0, 1) := by decide +kernel
theorem dX10_letInherit_1 : decode cX10_letInherit 1 = .ok (.aload_n 0, 1) := by decide +kernel
theorem dX10_letInherit_2 : decode cX10_letInherit 2 = .ok (.getfield 15, 3) := by decide +kernel
theorem dX10_letInherit_5 : decode cX10_letInherit 5 = .ok (.iload_n 1, 1) := by decide +kernel
theorem dX10_letInherit_6 : decode cX10_letInherit 6 = .ok (.iload_n 2, 1) := by decide +kernel
theorem dX10_letInherit_7 : decode cX10_letInherit 7 = .ok (.invokestatic 44, 3) := by decide +kernel
theorem dX10_letInherit_10 : decode cX10_letInherit 10 = .ok (.putfield 15, 3) := by decide +kernel
theorem dX10_letInherit_13 : decode cX10_letInherit 13 = .ok (.return_, 1) := by decide +kernel
theorem dX10_nextUp_0 : decode cX10_nextUp 0 = .ok (.aload_n 0, 1) := by decide +kernel
theorem dX10_nextUp_1 : decode cX10_nextUp 1 = .ok (.iload_n 1, 1) := by decide +kernel
theorem dX10_nextUp_2 : decode cX10_nextUp 2 = .ok (.invokevirtual 69, 3) := by decide +kernel
theorem dX10_nextUp_5 : decode cX10_nextUp 5 = .ok (.ifCond .eq 11, 3) := by decide +kernel
theorem dX10_nextUp_8 : decode cX10_nextUp 8 = .ok (.aload_n 0, 1) := by decide +kernel
theorem dX10_nextUp_9 : decode cX10_nextUp 9 = .ok (.iload_n 1, 1) := by decide +kernel
theorem dX10_nextUp_10 : decode cX10_nextUp 10 = .ok (.invokevirtual 72, 3) := by decide +kernel
theorem dX10_nextUp_13 : decode cX10_nextUp 13 = .ok (.goto 4, 3) := by decide +kernel
theorem dX10_nextUp_16 : decode cX10_nextUp 16 = .ok (.iconst (-1), 1) := by decide +kernel
theorem dX10_nextUp_17 : decode cX10_nextUp 17 = .ok (.ireturn, 1) := by decide +kernel
theorem dX10_isUnder_0 : decode cX10_isUnder 0 = .ok (.aload_n 0, 1) := by decide +kernel
theorem dX10_isUnder_1 : decode cX10_isUnder 1 = .ok (.iload_n 1, 1) := by decide +kernel
theorem dX10_isUnder_2 : decode cX10_isUnder 2 = .ok (.invokevirtual 72, 3) := by decide +kernel
theorem dX10_isUnder_5 : decode cX10_isUnder 5 = .ok (.istore_n 3, 1) := by decide +kernel
theorem dX10_isUnder_6 : decode cX10_isUnder 6 = .ok (.iconst 0, 1) := by decide +kernel
theorem dX10_isUnder_7 : decode cX10_isUnder 7 = .ok (.istore 4, 2) := by decide +kernel
theorem dX10_isUnder_9 : decode cX10_isUnder 9 = .ok (.iload 4, 2) := by decide +kernel
theorem dX10_isUnder_11 : decode cX10_isUnder 11 = .ok (.bipush 20, 2) := by decide +kernel
theorem dX10_isUnder_13 : decode cX10_isUnder 13 = .ok (.if_icmp .ge 27, 3) := by decide +kernel
theorem dX10_isUnder_16 : decode cX10_isUnder 16 = .ok (.iload_n 3, 1) := by decide +kernel
theorem dX10_isUnder_17 : decode cX10_isUnder 17 = .ok (.iconst (-1), 1) := by decide +kernel
theorem dX10_isUnder_18 : decode cX10_isUnder 18 = .ok (.if_icmp .eq 22, 3) := by decide +kernel
theorem dX10_isUnder_21 : decode cX10_isUnder 21 = .ok (.iload_n 3, 1) := by decide +kernel
theorem dX10_isUnder_22 : decode cX10_isUnder 22 = .ok (.iload_n 2, 1) := by decide +kernel
theorem dX10_isUnder_23 : decode cX10_isUnder 23 = .ok (.if_icmp .ne 5, 3) := by decide +kernel
theorem dX10_isUnder_26 : decode cX10_isUnder 26 = .ok (.iconst 1, 1) := by decide +kernel
theorem dX10_isUnder_27 : decode cX10_isUnder 27 = .ok (.ireturn, 1) := by decide +kernel
theorem dX10_isUnder_28 : decode cX10_isUnder 28 = .ok (.aload_n 0, 1) := by decide +kernel
theorem dX10_isUnder_29 : decode cX10_isUnder 29 = .ok (.iload_n 3, 1) := by decide +kernel
theorem dX10_isUnder_30 : decode cX10_isUnder 30 = .ok (.invokevirtual 72, 3) := by decide +kernel
theorem dX10_isUnder_33 : decode cX10_isUnder 33 = .ok (.istore_n 3, 1) := by decide +kernel
theorem dX10_isUnder_34 : decode cX10_isUnder 34 = .ok (.iinc 4 1, 3) := by decide +kernel
theorem dX10_isUnder_37 : decode cX10_isUnder 37 = .ok (.goto (-28), 3) := by decide +kernel
theorem dX10_isUnder_40 : decode cX10_isUnder 40 = .ok (.iconst 0, 1) := by decide +kernel
theorem dX10_isUnder_41 : decode cX10_isUnder 41 = .ok (.ireturn, 1) := by decide +kernel
theorem dX10_countUnder_0 : decode cX10_countUnder 0 = .ok (.iconst 0, 1) := by decide +kernel
theorem dX10_countUnder_1 : decode cX10_countUnder 1 = .ok (.istore_n 2, 1) := by decide +kernel
theorem dX10_countUnder_2 : decode cX10_countUnder 2 = .ok (.iconst 0, 1) := by decide +kernel
theorem dX10_countUnder_3 : decode cX10_countUnder 3 = .ok (.istore_n 3, 1) := by decide +kernel
theorem dX10_countUnder_4 : decode cX10_countUnder 4 = .ok (.iload_n 3, 1) := by decide +kernel
theorem dX10_countUnder_5 : decode cX10_countUnder 5 = .ok (.bipush 20, 2) := by decide +kernel
theorem dX10_countUnder_7 : decode cX10_countUnder 7 = .ok (.if_icmp .ge 21, 3) := by decide +kernel
theorem dX10_countUnder_10 : decode cX10_countUnder 10 = .ok (.aload_n 0, 1) := by decide +kernel
theorem dX10_countUnder_11 : decode cX10_countUnder 11 = .ok (.iload_n 3, 1) := by decide +kernel
theorem dX10_countUnder_12 : decode cX10_countUnder 12 = .ok (.iload_n 1, 1) := by decide +kernel
theorem dX10_countUnder_13 : decode cX10_countUnder 13 = .ok (.invokevirtual 75, 3) := by decide +kernel
theorem dX10_countUnder_16 : decode cX10_countUnder 16 = .ok (.ifCond .eq 6, 3) := by decide +kernel
theorem dX10_countUnder_19 : decode cX10_countUnder 19 = .ok (.iinc 2 1, 3) := by decide +kernel
theorem dX10_countUnder_22 : decode cX10_countUnder 22 = .ok (.iinc 3 1, 3) := by decide +kernel
theorem dX10_countUnder_25 : decode cX10_countUnder 25 = .ok (.goto (-21), 3) := by decide +kernel
theorem dX10_countUnder_28 : decode cX10_countUnder 28 = .ok (.iload_n 2, 1) := by decide +kernel
theorem dX10_countUnder_29 : decode cX10_countUnder 29 = .ok (.ireturn, 1) := by decide +kernel
theorem dX11_init_0 : decode cX11_init 0 = .ok (.aload_n 0, 1) := by decide +kernel
theorem dX11_init_1 : decode cX11_init 1 = .ok (.invokespecial 1, 3) := by decide +kernel
theorem dX11_init_4 : decode cX11_init 4 = .ok (.aload_n 0, 1) := by decide +kernel
theorem dX11_init_5 : decode cX11_init 5 = .ok (.new 7, 3) := by decide +kernel
theorem dX11_init_8 : decode cX11_init 8 = .ok (.dup, 1) := by decide +kernel
theorem dX11_init_9 : decode cX11_init 9 = .ok (.invokespecial 9, 3) := by decide +kernel
theorem dX11_init_12 : decode cX11_init 12 = .ok (.putfield 10, 3) := by decide +kernel
theorem dX11_init_15 : decode cX11_init 15 = .ok (.aload_n 0, 1) := by decide +kernel
theorem dX11_init_16 : decode cX11_init 16 = .ok (.new 16, 3) := by decide +kernel
theorem dX11_init_19 : decode cX11_init 19 = .ok (.dup, 1) := by decide +kernel
theorem dX11_init_20 : decode cX11_init 20 = .ok (.invokespecial 18, 3) := by decide +kernel
theorem dX11_init_23 : decode cX11_init 23 = .ok (.putfield 19, 3) := by decide +kernel
theorem dX11_init_26 : decode cX11_init 26 = .ok (.aload_n 0, 1) := by decide +kernel
theorem dX11_init_27 : decode cX11_init 27 = .ok (.iconst 2, 1) := by decide +kernel
theorem dX11_init_28 : decode cX11_init 28 = .ok (.anewarray 7, 3) := by decide +kernel
theorem dX11_init_31 : decode cX11_init 31 = .ok (.putfield 23, 3) := by decide +kernel
theorem dX11_init_34 : decode cX11_init 34 = .ok (.aload_n 0, 1) := by decide +kernel
theorem dX11_init_35 : decode cX11_init 35 = .ok (.new 27, 3) := by decide +kernel
theorem dX11_init_38 : decode cX11_init 38 = .ok (.dup, 1) := by decide +kernel
theorem dX11_init_39 : decode cX11_init 39 = .ok (.invokespecial 29, 3) := by decide +kernel
theorem dX11_init_42 : decode cX11_init 42 = .ok (.putfield 30, 3) := by decide +kernel
theorem dX11_init_45 : decode cX11_init 45 = .ok (.aload_n 0, 1) := by decide +kernel
theorem dX11_init_46 : decode cX11_init 46 = .ok (.new 34, 3) := by decide +kernel
theorem dX11_init_49 : decode cX11_init 49 = .ok (.dup, 1) := by decide +kernel
theorem dX11_init_50 : decode cX11_init 50 = .ok (.invokespecial 36, 3) := by decide +kernel
theorem dX11_init_53 : decode cX11_init 53 = .ok (.putfield 37, 3) := by decide +kernel
theorem dX11_init_56 : decode cX11_init 56 = .ok (.aload_n 0, 1) := by decide +kernel
theorem dX11_init_57 : decode cX11_init 57 = .ok (.new 41, 3) := by decide +kernel
theorem dX11_init_60 : decode cX11_init 60 = .ok (.dup, 1) := by decide +kernel
theorem dX11_init_61 : decode cX11_init 61 = .ok (.invokespecial 43, 3) := by decide +kernel
theorem dX11_init_64 : decode cX11_init 64 = .ok (.putfield 44, 3) := by decide +kernel
theorem dX11_init_67 : decode cX11_init 67 = .ok (.aload_n 0, 1) := by decide +kernel
theorem dX11_init_68 : decode cX11_init 68 = .ok (.new 48, 3) := by decide +kernel
theorem dX11_init_71 : decode cX11_init 71 = .ok (.dup, 1) := by decide +kernel
theorem dX11_init_72 : decode cX11_init 72 = .ok (.invokespecial 50, 3) := by decide +kernel
theorem dX11_init_75 : decode cX11_init 75 = .ok (.putfield 51, 3) := by decide +kernel
theorem dX11_init_78 : decode cX11_init 78 = .ok (.return_, 1) := by decide +kernel
theorem dX11_addUser_0 : decode cX11_addUser 0 = .ok (.aload_n 0, 1) := by decide +kernel
theorem dX11_addUser_1 : decode cX11_addUser 1 = .ok (.getfield 10, 3) := by decide +kernel
theorem dX11_addUser_4 : decode cX11_addUser 4 = .ok (.getfield 55, 3) := by decide +kernel
theorem dX11_addUser_7 : decode cX11_addUser 7 = .ok (.getfield 59, 3) := by decide +kernel
theorem dX11_addUser_10 : decode cX11_addUser 10 = .ok (.bipush 12, 2) := by decide +kernel
theorem dX11_addUser_12 : decode cX11_addUser 12 = .ok (.if_icmp .lt 13, 3) := by decide +kernel
theorem dX11_addUser_15 : decode cX11_addUser 15 = .ok (.new 65, 3) := by decide +kernel
theorem dX11_addUser_18 : decode cX11_addUser 18 = .ok (.dup, 1) := by decide +kernel
theorem dX11_addUser_19 : decode cX11_addUser 19 = .ok (.ldc 67, 2) := by decide +kernel
theorem dX11_addUser_21 : decode cX11_addUser 21 = .ok (.invokespecial 69, 3) := by decide +kernel
theorem dX11_addUser_24 : decode cX11_addUser 24 = .ok (.athrow, 1) := by decide +kernel
theorem dX11_addUser_25 : decode cX11_addUser 25 = .ok (.aload_n 0, 1) := by decide +kernel
theorem dX11_addUser_26 : decode cX11_addUser 26 = .ok (.getfield 19, 3) := by decide +kernel
theorem dX11_addUser_29 : decode cX11_addUser 29 = .ok (.aload_n 0, 1) := by decide +kernel
theorem dX11_addUser_30 : decode cX11_addUser 30 = .ok (.getfield 10, 3) := by decide +kernel
theorem dX11_addUser_33 : decode cX11_addUser 33 = .ok (.invokevirtual 72, 3) := by decide +kernel
theorem dX11_addUser_36 : decode cX11_addUser 36 = .ok (.aload_n 0, 1) := by decide +kernel
theorem dX11_addUser_37 : decode cX11_addUser 37 = .ok (.getfield 10, 3) := by decide +kernel
theorem dX11_addUser_40 : decode cX11_addUser 40 = .ok (.getfield 55, 3) := by decide +kernel
theorem dX11_addUser_43 : decode cX11_addUser 43 = .ok (.invokevirtual 76, 3) := by decide +kernel
theorem dX11_addUser_46 : decode cX11_addUser 46 = .ok (.ireturn, 1) := by decide +kernel
theorem dX11_addGroup_0 : decode cX11_addGroup 0 = .ok (.aload_n 0, 1) := by decide +kernel
theorem dX11_addGroup_1 : decode cX11_addGroup 1 = .ok (.getfield 10, 3) := by decide +kernel
theorem dX11_addGroup_4 : decode cX11_addGroup 4 = .ok (.getfield 55, 3) := by decide +kernel
theorem dX11_addGroup_7 : decode cX11_addGroup 7 = .ok (.getfield 80, 3) := by decide +kernel
theorem dX11_addGroup_10 : decode cX11_addGroup 10 = .ok (.bipush 8, 2) := by decide +kernel
theorem dX11_addGroup_12 : decode cX11_addGroup 12 = .ok (.if_icmp .lt 13, 3) := by decide +kernel
theorem dX11_addGroup_15 : decode cX11_addGroup 15 = .ok (.new 65, 3) := by decide +kernel
theorem dX11_addGroup_18 : decode cX11_addGroup 18 = .ok (.dup, 1) := by decide +kernel
theorem dX11_addGroup_19 : decode cX11_addGroup 19 = .ok (.ldc 83, 2) := by decide +kernel
theorem dX11_addGroup_21 : decode cX11_addGroup 21 = .ok (.invokespecial 69, 3) := by decide +kernel
theorem dX11_addGroup_24 : decode cX11_addGroup 24 = .ok (.athrow, 1) := by decide +kernel
theorem dX11_addGroup_25 : decode cX11_addGroup 25 = .ok (.aload_n 0, 1) := by decide +kernel
theorem dX11_addGroup_26 : decode cX11_addGroup 26 = .ok (.getfield 19, 3) := by decide +kernel
theorem dX11_addGroup_29 : decode cX11_addGroup 29 = .ok (.aload_n 0, 1) := by decide +kernel
theorem dX11_addGroup_30 : decode cX11_addGroup 30 = .ok (.getfield 10, 3) := by decide +kernel
theorem dX11_addGroup_33 : decode cX11_addGroup 33 = .ok (.invokevirtual 72, 3) := by decide +kernel
theorem dX11_addGroup_36 : decode cX11_addGroup 36 = .ok (.aload_n 0, 1) := by decide +kernel
theorem dX11_addGroup_37 : decode cX11_addGroup 37 = .ok (.getfield 10, 3) := by decide +kernel
theorem dX11_addGroup_40 : decode cX11_addGroup 40 = .ok (.getfield 55, 3) := by decide +kernel
theorem dX11_addGroup_43 : decode cX11_addGroup 43 = .ok (.invokevirtual 85, 3) := by decide +kernel
theorem dX11_addGroup_46 : decode cX11_addGroup 46 = .ok (.ireturn, 1) := by decide +kernel
theorem dX11_join_0 : decode cX11_join 0 = .ok (.aload_n 0, 1) := by decide +kernel
theorem dX11_join_1 : decode cX11_join 1 = .ok (.iload_n 1, 1) := by decide +kernel
theorem dX11_join_2 : decode cX11_join 2 = .ok (.invokevirtual 88, 3) := by decide +kernel
theorem dX11_join_5 : decode cX11_join 5 = .ok (.aload_n 0, 1) := by decide +kernel
theorem dX11_join_6 : decode cX11_join 6 = .ok (.iload_n 2, 1) := by decide +kernel
theorem dX11_join_7 : decode cX11_join 7 = .ok (.invokevirtual 92, 3) := by decide +kernel
theorem dX11_join_10 : decode cX11_join 10 = .ok (.aload_n 0, 1) := by decide +kernel
theorem dX11_join_11 : decode cX11_join 11 = .ok (.getfield 10, 3) := by decide +kernel
theorem dX11_join_14 : decode cX11_join 14 = .ok (.getfield 55, 3) := by decide +kernel
theorem dX11_join_17 : decode cX11_join 17 = .ok (.iload_n 2, 1) := by decide +kernel
theorem dX11_join_18 : decode cX11_join 18 = .ok (.iload_n 1, 1) := by decide +kernel
theorem dX11_join_19 : decode cX11_join 19 = .ok (.invokevirtual 95, 3) := by decide +kernel
theorem dX11_join_22 : decode cX11_join 22 = .ok (.ifCond .eq 13, 3) := by decide +kernel
theorem dX11_join_25 : decode cX11_join 25 = .ok (.new 65, 3) := by decide +kernel
theorem dX11_join_28 : decode cX11_join 28 = .ok (.dup, 1) := by decide +kernel
theorem dX11_join_29 : decode cX11_join 29 = .ok (.ldc 99, 2) := by decide +kernel
theorem dX11_join_31 : decode cX11_join 31 = .ok (.invokespecial 69, 3) := by decide +kernel
theorem dX11_join_34 : decode cX11_join 34 = .ok (.athrow, 1) := by decide +kernel
theorem dX11_join_35 : decode cX11_join 35 = .ok (.aload_n 0, 1) := by decide +kernel
theorem dX11_join_36 : decode cX11_join 36 = .ok (.getfield 19, 3) := by decide +kernel
theorem dX11_join_39 : decode cX11_join 39 = .ok (.aload_n 0, 1) := by decide +kernel
theorem dX11_join_40 : decode cX11_join 40 = .ok (.getfield 10, 3) := by decide +kernel
theorem dX11_join_43 : decode cX11_join 43 = .ok (.invokevirtual 72, 3) := by decide +kernel
theorem dX11_join_46 : decode cX11_join 46 = .ok (.aload_n 0, 1) := by decide +kernel
theorem dX11_join_47 : decode cX11_join 47 = .ok (.getfield 10, 3) := by decide +kernel
theorem dX11_join_50 : decode cX11_join 50 = .ok (.getfield 55, 3) := by decide +kernel
theorem dX11_join_53 : decode cX11_join 53 = .ok (.iload_n 2, 1) := by decide +kernel
theorem dX11_join_54 : decode cX11_join 54 = .ok (.iload_n 1, 1) := by decide +kernel
theorem dX11_join_55 : decode cX11_join 55 = .ok (.iconst 1, 1) := by decide +kernel
theorem dX11_join_56 : decode cX11_join 56 = .ok (.invokevirtual 101, 3) := by decide +kernel
theorem dX11_join_59 : decode cX11_join 59 = .ok (.aload_n 0, 1) := by decide +kernel
theorem dX11_join_60 : decode cX11_join 60 = .ok (.getfield 10, 3) := by decide +kernel
theorem dX11_join_63 : decode cX11_join 63 = .ok (.getfield 55, 3) := by decide +kernel
theorem dX11_join_66 : decode cX11_join 66 = .ok (.iload_n 2, 1) := by decide +kernel
theorem dX11_join_67 : decode cX11_join 67 = .ok (.invokevirtual 105, 3) := by decide +kernel
theorem dX11_join_70 : decode cX11_join 70 = .ok (.ireturn, 1) := by decide +kernel
theorem dX11_leave_0 : decode cX11_leave 0 = .ok (.aload_n 0, 1) := by decide +kernel
theorem dX11_leave_1 : decode cX11_leave 1 = .ok (.iload_n 1, 1) := by decide +kernel
theorem dX11_leave_2 : decode cX11_leave 2 = .ok (.invokevirtual 88, 3) := by decide +kernel
theorem dX11_leave_5 : decode cX11_leave 5 = .ok (.aload_n 0, 1) := by decide +kernel
theorem dX11_leave_6 : decode cX11_leave 6 = .ok (.iload_n 2, 1) := by decide +kernel
theorem dX11_leave_7 : decode cX11_leave 7 = .ok (.invokevirtual 92, 3) := by decide +kernel
theorem dX11_leave_10 : decode cX11_leave 10 = .ok (.aload_n 0, 1) := by decide +kernel
theorem dX11_leave_11 : decode cX11_leave 11 = .ok (.getfield 10, 3) := by decide +kernel
theorem dX11_leave_14 : decode cX11_leave 14 = .ok (.getfield 55, 3) := by decide +kernel
theorem dX11_leave_17 : decode cX11_leave 17 = .ok (.iload_n 2, 1) := by decide +kernel
theorem dX11_leave_18 : decode cX11_leave 18 = .ok (.iload_n 1, 1) := by decide +kernel
theorem dX11_leave_19 : decode cX11_leave 19 = .ok (.invokevirtual 95, 3) := by decide +kernel
theorem dX11_leave_22 : decode cX11_leave 22 = .ok (.ifCond .ne 13, 3) := by decide +kernel
theorem dX11_leave_25 : decode cX11_leave 25 = .ok (.new 65, 3) := by decide +kernel
theorem dX11_leave_28 : decode cX11_leave 28 = .ok (.dup, 1) := by decide +kernel
theorem dX11_leave_29 : decode cX11_leave 29 = .ok (.ldc 109, 2) := by decide +kernel
theorem dX11_leave_31 : decode cX11_leave 31 = .ok (.invokespecial 69, 3) := by decide +kernel
theorem dX11_leave_34 : decode cX11_leave 34 = .ok (.athrow, 1) := by decide +kernel
theorem dX11_leave_35 : decode cX11_leave 35 = .ok (.aload_n 0, 1) := by decide +kernel
theorem dX11_leave_36 : decode cX11_leave 36 = .ok (.getfield 19, 3) := by decide +kernel
theorem dX11_leave_39 : decode cX11_leave 39 = .ok (.aload_n 0, 1) := by decide +kernel
theorem dX11_leave_40 : decode cX11_leave 40 = .ok (.getfield 10, 3) := by decide +kernel
theorem dX11_leave_43 : decode cX11_leave 43 = .ok (.invokevirtual 72, 3) := by decide +kernel
theorem dX11_leave_46 : decode cX11_leave 46 = .ok (.aload_n 0, 1) := by decide +kernel
theorem dX11_leave_47 : decode cX11_leave 47 = .ok (.getfield 10, 3) := by decide +kernel
theorem dX11_leave_50 : decode cX11_leave 50 = .ok (.getfield 55, 3) := by decide +kernel
theorem dX11_leave_53 : decode cX11_leave 53 = .ok (.iload_n 2, 1) := by decide +kernel
theorem dX11_leave_54 : decode cX11_leave 54 = .ok (.iload_n 1, 1) := by decide +kernel
theorem dX11_leave_55 : decode cX11_leave 55 = .ok (.iconst 0, 1) := by decide +kernel
theorem dX11_leave_56 : decode cX11_leave 56 = .ok (.invokevirtual 101, 3) := by decide +kernel
theorem dX11_leave_59 : decode cX11_leave 59 = .ok (.aload_n 0, 1) := by decide +kernel
theorem dX11_leave_60 : decode cX11_leave 60 = .ok (.getfield 10, 3) := by decide +kernel
theorem dX11_leave_63 : decode cX11_leave 63 = .ok (.getfield 55, 3) := by decide +kernel
theorem dX11_leave_66 : decode cX11_leave 66 = .ok (.iload_n 2, 1) := by decide +kernel
theorem dX11_leave_67 : decode cX11_leave 67 = .ok (.invokevirtual 105, 3) := by decide +kernel
theorem dX11_leave_70 : decode cX11_leave 70 = .ok (.ireturn, 1) := by decide +kernel
theorem dX11_nest_0 : decode cX11_nest 0 = .ok (.aload_n 0, 1) := by decide +kernel
theorem dX11_nest_1 : decode cX11_nest 1 = .ok (.iload_n 1, 1) := by decide +kernel
theorem dX11_nest_2 : decode cX11_nest 2 = .ok (.invokevirtual 92, 3) := by decide +kernel
theorem dX11_nest_5 : decode cX11_nest 5 = .ok (.aload_n 0, 1) := by decide +kernel
theorem dX11_nest_6 : decode cX11_nest 6 = .ok (.iload_n 2, 1) := by decide +kernel
theorem dX11_nest_7 : decode cX11_nest 7 = .ok (.invokevirtual 92, 3) := by decide +kernel
theorem dX11_nest_10 : decode cX11_nest 10 = .ok (.iload_n 1, 1) := by decide +kernel
theorem dX11_nest_11 : decode cX11_nest 11 = .ok (.iload_n 2, 1) := by decide +kernel
theorem dX11_nest_12 : decode cX11_nest 12 = .ok (.if_icmp .eq 33, 3) := by decide +kernel
theorem dX11_nest_15 : decode cX11_nest 15 = .ok (.aload_n 0, 1) := by decide +kernel
theorem dX11_nest_16 : decode cX11_nest 16 = .ok (.getfield 10, 3) := by decide +kernel
theorem dX11_nest_19 : decode cX11_nest 19 = .ok (.getfield 55, 3) := by decide +kernel
theorem dX11_nest_22 : decode cX11_nest 22 = .ok (.iload_n 2, 1) := by decide +kernel
theorem dX11_nest_23 : decode cX11_nest 23 = .ok (.iload_n 1, 1) := by decide +kernel
theorem dX11_nest_24 : decode cX11_nest 24 = .ok (.invokevirtual 111, 3) := by decide +kernel
theorem dX11_nest_27 : decode cX11_nest 27 = .ok (.ifCond .ne 18, 3) := by decide +kernel
theorem dX11_nest_30 : decode cX11_nest 30 = .ok (.aload_n 0, 1) := by decide +kernel
theorem dX11_nest_31 : decode cX11_nest 31 = .ok (.getfield 10, 3) := by decide +kernel
theorem dX11_nest_34 : decode cX11_nest 34 = .ok (.getfield 55, 3) := by decide +kernel
theorem dX11_nest_37 : decode cX11_nest 37 = .ok (.iload_n 2, 1) := by decide +kernel
theorem dX11_nest_38 : decode cX11_nest 38 = .ok (.iload_n 1, 1) := by decide +kernel
theorem dX11_nest_39 : decode cX11_nest 39 = .ok (.invokevirtual 114, 3) := by decide +kernel
theorem dX11_nest_42 : decode cX11_nest 42 = .ok (.ifCond .eq 13, 3) := by decide +kernel
theorem dX11_nest_45 : decode cX11_nest 45 = .ok (.new 65, 3) := by decide +kernel
theorem dX11_nest_48 : decode cX11_nest 48 = .ok (.dup, 1) := by decide +kernel
theorem dX11_nest_49 : decode cX11_nest 49 = .ok (.ldc 117, 2) := by decide +kernel
theorem dX11_nest_51 : decode cX11_nest 51 = .ok (.invokespecial 69, 3) := by decide +kernel
theorem dX11_nest_54 : decode cX11_nest 54 = .ok (.athrow, 1) := by decide +kernel
theorem dX11_nest_55 : decode cX11_nest 55 = .ok (.aload_n 0, 1) := by decide +kernel
theorem dX11_nest_56 : decode cX11_nest 56 = .ok (.getfield 19, 3) := by decide +kernel
theorem dX11_nest_59 : decode cX11_nest 59 = .ok (.aload_n 0, 1) := by decide +kernel
theorem dX11_nest_60 : decode cX11_nest 60 = .ok (.getfield 10, 3) := by decide +kernel
theorem dX11_nest_63 : decode cX11_nest 63 = .ok (.invokevirtual 72, 3) := by decide +kernel
theorem dX11_nest_66 : decode cX11_nest 66 = .ok (.aload_n 0, 1) := by decide +kernel
theorem dX11_nest_67 : decode cX11_nest 67 = .ok (.getfield 10, 3) := by decide +kernel
theorem dX11_nest_70 : decode cX11_nest 70 = .ok (.getfield 55, 3) := by decide +kernel
theorem dX11_nest_73 : decode cX11_nest 73 = .ok (.iload_n 2, 1) := by decide +kernel
theorem dX11_nest_74 : decode cX11_nest 74 = .ok (.iload_n 1, 1) := by decide +kernel
theorem dX11_nest_75 : decode cX11_nest 75 = .ok (.iconst 1, 1) := by decide +kernel
theorem dX11_nest_76 : decode cX11_nest 76 = .ok (.invokevirtual 119, 3) := by decide +kernel
theorem dX11_nest_79 : decode cX11_nest 79 = .ok (.aload_n 0, 1) := by decide +kernel
theorem dX11_nest_80 : decode cX11_nest 80 = .ok (.getfield 10, 3) := by decide +kernel
theorem dX11_nest_83 : decode cX11_nest 83 = .ok (.getfield 55, 3) := by decide +kernel
theorem dX11_nest_86 : decode cX11_nest 86 = .ok (.iload_n 2, 1) := by decide +kernel
theorem dX11_nest_87 : decode cX11_nest 87 = .ok (.invokevirtual 105, 3) := by decide +kernel
theorem dX11_nest_90 : decode cX11_nest 90 = .ok (.ireturn, 1) := by decide +kernel
theorem dX11_unnest_0 : decode cX11_unnest 0 = .ok (.aload_n 0, 1) := by decide +kernel
theorem dX11_unnest_1 : decode cX11_unnest 1 = .ok (.iload_n 1, 1) := by decide +kernel
theorem dX11_unnest_2 : decode cX11_unnest 2 = .ok (.invokevirtual 92, 3) := by decide +kernel
theorem dX11_unnest_5 : decode cX11_unnest 5 = .ok (.aload_n 0, 1) := by decide +kernel
theorem dX11_unnest_6 : decode cX11_unnest 6 = .ok (.iload_n 2, 1) := by decide +kernel
theorem dX11_unnest_7 : decode cX11_unnest 7 = .ok (.invokevirtual 92, 3) := by decide +kernel
theorem dX11_unnest_10 : decode cX11_unnest 10 = .ok (.aload_n 0, 1) := by decide +kernel
theorem dX11_unnest_11 : decode cX11_unnest 11 = .ok (.getfield 10, 3) := by decide +kernel
theorem dX11_unnest_14 : decode cX11_unnest 14 = .ok (.getfield 55, 3) := by decide +kernel
theorem dX11_unnest_17 : decode cX11_unnest 17 = .ok (.iload_n 2, 1) := by decide +kernel
theorem dX11_unnest_18 : decode cX11_unnest 18 = .ok (.iload_n 1, 1) := by decide +kernel
theorem dX11_unnest_19 : decode cX11_unnest 19 = .ok (.invokevirtual 111, 3) := by decide +kernel
theorem dX11_unnest_22 : decode cX11_unnest 22 = .ok (.ifCond .ne 13, 3) := by decide +kernel
theorem dX11_unnest_25 : decode cX11_unnest 25 = .ok (.new 65, 3) := by decide +kernel
theorem dX11_unnest_28 : decode cX11_unnest 28 = .ok (.dup, 1) := by decide +kernel
theorem dX11_unnest_29 : decode cX11_unnest 29 = .ok (.ldc 122, 2) := by decide +kernel
theorem dX11_unnest_31 : decode cX11_unnest 31 = .ok (.invokespecial 69, 3) := by decide +kernel
theorem dX11_unnest_34 : decode cX11_unnest 34 = .ok (.athrow, 1) := by decide +kernel
theorem dX11_unnest_35 : decode cX11_unnest 35 = .ok (.aload_n 0, 1) := by decide +kernel
theorem dX11_unnest_36 : decode cX11_unnest 36 = .ok (.getfield 19, 3) := by decide +kernel
theorem dX11_unnest_39 : decode cX11_unnest 39 = .ok (.aload_n 0, 1) := by decide +kernel
theorem dX11_unnest_40 : decode cX11_unnest 40 = .ok (.getfield 10, 3) := by decide +kernel
theorem dX11_unnest_43 : decode cX11_unnest 43 = .ok (.invokevirtual 72, 3) := by decide +kernel
theorem dX11_unnest_46 : decode cX11_unnest 46 = .ok (.aload_n 0, 1) := by decide +kernel
theorem dX11_unnest_47 : decode cX11_unnest 47 = .ok (.getfield 10, 3) := by decide +kernel
theorem dX11_unnest_50 : decode cX11_unnest 50 = .ok (.getfield 55, 3) := by decide +kernel
theorem dX11_unnest_53 : decode cX11_unnest 53 = .ok (.iload_n 2, 1) := by decide +kernel
theorem dX11_unnest_54 : decode cX11_unnest 54 = .ok (.iload_n 1, 1) := by decide +kernel
theorem dX11_unnest_55 : decode cX11_unnest 55 = .ok (.iconst 0, 1) := by decide +kernel
theorem dX11_unnest_56 : decode cX11_unnest 56 = .ok (.invokevirtual 119, 3) := by decide +kernel
theorem dX11_unnest_59 : decode cX11_unnest 59 = .ok (.aload_n 0, 1) := by decide +kernel
theorem dX11_unnest_60 : decode cX11_unnest 60 = .ok (.getfield 10, 3) := by decide +kernel
theorem dX11_unnest_63 : decode cX11_unnest 63 = .ok (.getfield 55, 3) := by decide +kernel
theorem dX11_unnest_66 : decode cX11_unnest 66 = .ok (.iload_n 2, 1) := by decide +kernel
theorem dX11_unnest_67 : decode cX11_unnest 67 = .ok (.invokevirtual 105, 3) := by decide +kernel
theorem dX11_unnest_70 : decode cX11_unnest 70 = .ok (.ireturn, 1) := by decide +kernel
theorem dX11_make_0 : decode cX11_make 0 = .ok (.aload_n 0, 1) := by decide +kernel
theorem dX11_make_1 : decode cX11_make 1 = .ok (.iload_n 1, 1) := by decide +kernel
theorem dX11_make_2 : decode cX11_make 2 = .ok (.invokevirtual 124, 3) := by decide +kernel
theorem dX11_make_5 : decode cX11_make 5 = .ok (.aload_n 0, 1) := by decide +kernel
theorem dX11_make_6 : decode cX11_make 6 = .ok (.iload_n 2, 1) := by decide +kernel
theorem dX11_make_7 : decode cX11_make 7 = .ok (.invokevirtual 88, 3) := by decide +kernel
theorem dX11_make_10 : decode cX11_make 10 = .ok (.aload_n 0, 1) := by decide +kernel
theorem dX11_make_11 : decode cX11_make 11 = .ok (.getfield 10, 3) := by decide +kernel
theorem dX11_make_14 : decode cX11_make 14 = .ok (.getfield 127, 3) := by decide +kernel
theorem dX11_make_17 : decode cX11_make 17 = .ok (.invokevirtual 131, 3) := by decide +kernel
theorem dX11_make_20 : decode cX11_make 20 = .ok (.istore_n 3, 1) := by decide +kernel
theorem dX11_make_21 : decode cX11_make 21 = .ok (.iload_n 3, 1) := by decide +kernel
theorem dX11_make_22 : decode cX11_make 22 = .ok (.iconst (-1), 1) := by decide +kernel
theorem dX11_make_23 : decode cX11_make 23 = .ok (.if_icmp .ne 13, 3) := by decide +kernel
theorem dX11_make_26 : decode cX11_make 26 = .ok (.new 65, 3) := by decide +kernel
theorem dX11_make_29 : decode cX11_make 29 = .ok (.dup, 1) := by decide +kernel
theorem dX11_make_30 : decode cX11_make 30 = .ok (.ldc 136, 2) := by decide +kernel
theorem dX11_make_32 : decode cX11_make 32 = .ok (.invokespecial 69, 3) := by decide +kernel
theorem dX11_make_35 : decode cX11_make 35 = .ok (.athrow, 1) := by decide +kernel
theorem dX11_make_36 : decode cX11_make 36 = .ok (.aload_n 0, 1) := by decide +kernel
theorem dX11_make_37 : decode cX11_make 37 = .ok (.getfield 19, 3) := by decide +kernel
theorem dX11_make_40 : decode cX11_make 40 = .ok (.aload_n 0, 1) := by decide +kernel
theorem dX11_make_41 : decode cX11_make 41 = .ok (.getfield 10, 3) := by decide +kernel
theorem dX11_make_44 : decode cX11_make 44 = .ok (.invokevirtual 72, 3) := by decide +kernel
theorem dX11_make_47 : decode cX11_make 47 = .ok (.aload_n 0, 1) := by decide +kernel
theorem dX11_make_48 : decode cX11_make 48 = .ok (.getfield 10, 3) := by decide +kernel
theorem dX11_make_51 : decode cX11_make 51 = .ok (.getfield 127, 3) := by decide +kernel
theorem dX11_make_54 : decode cX11_make 54 = .ok (.iload_n 3, 1) := by decide +kernel
theorem dX11_make_55 : decode cX11_make 55 = .ok (.iload_n 1, 1) := by decide +kernel
theorem dX11_make_56 : decode cX11_make 56 = .ok (.iload_n 2, 1) := by decide +kernel
theorem dX11_make_57 : decode cX11_make 57 = .ok (.invokevirtual 138, 3) := by decide +kernel
theorem dX11_make_60 : decode cX11_make 60 = .ok (.iload_n 3, 1) := by decide +kernel
theorem dX11_make_61 : decode cX11_make 61 = .ok (.ireturn, 1) := by decide +kernel
theorem dX11_remove_0 : decode cX11_remove 0 = .ok (.aload_n 0, 1) := by decide +kernel
theorem dX11_remove_1 : decode cX11_remove 1 = .ok (.iload_n 1, 1) := by decide +kernel
theorem dX11_remove_2 : decode cX11_remove 2 = .ok (.invokevirtual 124, 3) := by decide +kernel
theorem dX11_remove_5 : decode cX11_remove 5 = .ok (.iload_n 1, 1) := by decide +kernel
theorem dX11_remove_6 : decode cX11_remove 6 = .ok (.ifCond .eq 17, 3) := by decide +kernel
theorem dX11_remove_9 : decode cX11_remove 9 = .ok (.aload_n 0, 1) := by decide +kernel
theorem dX11_remove_10 : decode cX11_remove 10 = .ok (.getfield 10, 3) := by decide +kernel
theorem dX11_remove_13 : decode cX11_remove 13 = .ok (.getfield 127, 3) := by decide +kernel
theorem dX11_remove_16 : decode cX11_remove 16 = .ok (.iload_n 1, 1) := by decide +kernel
theorem dX11_remove_17 : decode cX11_remove 17 = .ok (.invokevirtual 142, 3) := by decide +kernel
theorem dX11_remove_20 : decode cX11_remove 20 = .ok (.ifCond .le 13, 3) := by decide +kernel
theorem dX11_remove_23 : decode cX11_remove 23 = .ok (.new 65, 3) := by decide +kernel
theorem dX11_remove_26 : decode cX11_remove 26 = .ok (.dup, 1) := by decide +kernel
theorem dX11_remove_27 : decode cX11_remove 27 = .ok (.ldc 145, 2) := by decide +kernel
theorem dX11_remove_29 : decode cX11_remove 29 = .ok (.invokespecial 69, 3) := by decide +kernel
theorem dX11_remove_32 : decode cX11_remove 32 = .ok (.athrow, 1) := by decide +kernel
theorem dX11_remove_33 : decode cX11_remove 33 = .ok (.aload_n 0, 1) := by decide +kernel
theorem dX11_remove_34 : decode cX11_remove 34 = .ok (.getfield 19, 3) := by decide +kernel
theorem dX11_remove_37 : decode cX11_remove 37 = .ok (.aload_n 0, 1) := by decide +kernel
theorem dX11_remove_38 : decode cX11_remove 38 = .ok (.getfield 10, 3) := by decide +kernel
theorem dX11_remove_41 : decode cX11_remove 41 = .ok (.invokevirtual 72, 3) := by decide +kernel
theorem dX11_remove_44 : decode cX11_remove 44 = .ok (.aload_n 0, 1) := by decide +kernel
theorem dX11_remove_45 : decode cX11_remove 45 = .ok (.getfield 10, 3) := by decide +kernel
theorem dX11_remove_48 : decode cX11_remove 48 = .ok (.getfield 127, 3) := by decide +kernel
theorem dX11_remove_51 : decode cX11_remove 51 = .ok (.iload_n 1, 1) := by decide +kernel
theorem dX11_remove_52 : decode cX11_remove 52 = .ok (.invokevirtual 147, 3) := by decide +kernel
theorem dX11_remove_55 : decode cX11_remove 55 = .ok (.aload_n 0, 1) := by decide +kernel
theorem dX11_remove_56 : decode cX11_remove 56 = .ok (.getfield 10, 3) := by decide +kernel
theorem dX11_remove_59 : decode cX11_remove 59 = .ok (.getfield 150, 3) := by decide +kernel
theorem dX11_remove_62 : decode cX11_remove 62 = .ok (.iload_n 1, 1) := by decide +kernel
theorem dX11_remove_63 : decode cX11_remove 63 = .ok (.invokevirtual 154, 3) := by decide +kernel
theorem dX11_remove_66 : decode cX11_remove 66 = .ok (.aload_n 0, 1) := by decide +kernel
theorem dX11_remove_67 : decode cX11_remove 67 = .ok (.getfield 10, 3) := by decide +kernel
theorem dX11_remove_70 : decode cX11_remove 70 = .ok (.getfield 127, 3) := by decide +kernel
theorem dX11_remove_73 : decode cX11_remove 73 = .ok (.invokevirtual 159, 3) := by decide +kernel
theorem dX11_remove_76 : decode cX11_remove 76 = .ok (.ireturn, 1) := by decide +kernel
theorem dX11_move_0 : decode cX11_move 0 = .ok (.aload_n 0, 1) := by decide +kernel
theorem dX11_move_1 : decode cX11_move 1 = .ok (.iload_n 1, 1) := by decide +kernel
theorem dX11_move_2 : decode cX11_move 2 = .ok (.invokevirtual 124, 3) := by decide +kernel
theorem dX11_move_5 : decode cX11_move 5 = .ok (.aload_n 0, 1) := by decide +kernel
theorem dX11_move_6 : decode cX11_move 6 = .ok (.iload_n 2, 1) := by decide +kernel
theorem dX11_move_7 : decode cX11_move 7 = .ok (.invokevirtual 124, 3) := by decide +kernel
theorem dX11_move_10 : decode cX11_move 10 = .ok (.iload_n 1, 1) := by decide +kernel
theorem dX11_move_11 : decode cX11_move 11 = .ok (.ifCond .eq 23, 3) := by decide +kernel
theorem dX11_move_14 : decode cX11_move 14 = .ok (.iload_n 2, 1) := by decide +kernel
theorem dX11_move_15 : decode cX11_move 15 = .ok (.iload_n 1, 1) := by decide +kernel
theorem dX11_move_16 : decode cX11_move 16 = .ok (.if_icmp .eq 18, 3) := by decide +kernel
theorem dX11_move_19 : decode cX11_move 19 = .ok (.aload_n 0, 1) := by decide +kernel
theorem dX11_move_20 : decode cX11_move 20 = .ok (.getfield 10, 3) := by decide +kernel
theorem dX11_move_23 : decode cX11_move 23 = .ok (.getfield 127, 3) := by decide +kernel
theorem dX11_move_26 : decode cX11_move 26 = .ok (.iload_n 2, 1) := by decide +kernel
theorem dX11_move_27 : decode cX11_move 27 = .ok (.iload_n 1, 1) := by decide +kernel
theorem dX11_move_28 : decode cX11_move 28 = .ok (.invokevirtual 162, 3) := by decide +kernel
theorem dX11_move_31 : decode cX11_move 31 = .ok (.ifCond .eq 13, 3) := by decide +kernel
theorem dX11_move_34 : decode cX11_move 34 = .ok (.new 65, 3) := by decide +kernel
theorem dX11_move_37 : decode cX11_move 37 = .ok (.dup, 1) := by decide +kernel
theorem dX11_move_38 : decode cX11_move 38 = .ok (.ldc 165, 2) := by decide +kernel
theorem dX11_move_40 : decode cX11_move 40 = .ok (.invokespecial 69, 3) := by decide +kernel
theorem dX11_move_43 : decode cX11_move 43 = .ok (.athrow, 1) := by decide +kernel
theorem dX11_move_44 : decode cX11_move 44 = .ok (.aload_n 0, 1) := by decide +kernel
theorem dX11_move_45 : decode cX11_move 45 = .ok (.getfield 19, 3) := by decide +kernel
theorem dX11_move_48 : decode cX11_move 48 = .ok (.aload_n 0, 1) := by decide +kernel
theorem dX11_move_49 : decode cX11_move 49 = .ok (.getfield 10, 3) := by decide +kernel
theorem dX11_move_52 : decode cX11_move 52 = .ok (.invokevirtual 72, 3) := by decide +kernel
theorem dX11_move_55 : decode cX11_move 55 = .ok (.aload_n 0, 1) := by decide +kernel
theorem dX11_move_56 : decode cX11_move 56 = .ok (.getfield 10, 3) := by decide +kernel
theorem dX11_move_59 : decode cX11_move 59 = .ok (.getfield 127, 3) := by decide +kernel
theorem dX11_move_62 : decode cX11_move 62 = .ok (.iload_n 1, 1) := by decide +kernel
theorem dX11_move_63 : decode cX11_move 63 = .ok (.invokevirtual 167, 3) := by decide +kernel
theorem dX11_move_66 : decode cX11_move 66 = .ok (.istore_n 3, 1) := by decide +kernel
theorem dX11_move_67 : decode cX11_move 67 = .ok (.aload_n 0, 1) := by decide +kernel
theorem dX11_move_68 : decode cX11_move 68 = .ok (.getfield 10, 3) := by decide +kernel
theorem dX11_move_71 : decode cX11_move 71 = .ok (.getfield 127, 3) := by decide +kernel
theorem dX11_move_74 : decode cX11_move 74 = .ok (.iload_n 1, 1) := by decide +kernel
theorem dX11_move_75 : decode cX11_move 75 = .ok (.iload_n 2, 1) := by decide +kernel
theorem dX11_move_76 : decode cX11_move 76 = .ok (.invokevirtual 170, 3) := by decide +kernel
theorem dX11_move_79 : decode cX11_move 79 = .ok (.iload_n 3, 1) := by decide +kernel
theorem dX11_move_80 : decode cX11_move 80 = .ok (.ireturn, 1) := by decide +kernel
theorem dX11_giveTo_0 : decode cX11_giveTo 0 = .ok (.aload_n 0, 1) := by decide +kernel
theorem dX11_giveTo_1 : decode cX11_giveTo 1 = .ok (.iload_n 1, 1) := by decide +kernel
theorem dX11_giveTo_2 : decode cX11_giveTo 2 = .ok (.invokevirtual 124, 3) := by decide +kernel
theorem dX11_giveTo_5 : decode cX11_giveTo 5 = .ok (.aload_n 0, 1) := by decide +kernel
theorem dX11_giveTo_6 : decode cX11_giveTo 6 = .ok (.iload_n 2, 1) := by decide +kernel
theorem dX11_giveTo_7 : decode cX11_giveTo 7 = .ok (.invokevirtual 88, 3) := by decide +kernel
theorem dX11_giveTo_10 : decode cX11_giveTo 10 = .ok (.aload_n 0, 1) := by decide +kernel
theorem dX11_giveTo_11 : decode cX11_giveTo 11 = .ok (.getfield 19, 3) := by decide +kernel
theorem dX11_giveTo_14 : decode cX11_giveTo 14 = .ok (.aload_n 0, 1) := by decide +kernel
theorem dX11_giveTo_15 : decode cX11_giveTo 15 = .ok (.getfield 10, 3) := by decide +kernel
theorem dX11_giveTo_18 : decode cX11_giveTo 18 = .ok (.invokevirtual 72, 3) := by decide +kernel
theorem dX11_giveTo_21 : decode cX11_giveTo 21 = .ok (.aload_n 0, 1) := by decide +kernel
theorem dX11_giveTo_22 : decode cX11_giveTo 22 = .ok (.getfield 10, 3) := by decide +kernel
theorem dX11_giveTo_25 : decode cX11_giveTo 25 = .ok (.getfield 127, 3) := by decide +kernel
theorem dX11_giveTo_28 : decode cX11_giveTo 28 = .ok (.iload_n 1, 1) := by decide +kernel
theorem dX11_giveTo_29 : decode cX11_giveTo 29 = .ok (.invokevirtual 174, 3) := by decide +kernel
theorem dX11_giveTo_32 : decode cX11_giveTo 32 = .ok (.istore_n 3, 1) := by decide +kernel
theorem dX11_giveTo_33 : decode cX11_giveTo 33 = .ok (.aload_n 0, 1) := by decide +kernel
theorem dX11_giveTo_34 : decode cX11_giveTo 34 = .ok (.getfield 10, 3) := by decide +kernel
theorem dX11_giveTo_37 : decode cX11_giveTo 37 = .ok (.getfield 127, 3) := by decide +kernel
theorem dX11_giveTo_40 : decode cX11_giveTo 40 = .ok (.iload_n 1, 1) := by decide +kernel
theorem dX11_giveTo_41 : decode cX11_giveTo 41 = .ok (.iload_n 2, 1) := by decide +kernel
theorem dX11_giveTo_42 : decode cX11_giveTo 42 = .ok (.invokevirtual 177, 3) := by decide +kernel
theorem dX11_giveTo_45 : decode cX11_giveTo 45 = .ok (.iload_n 3, 1) := by decide +kernel
theorem dX11_giveTo_46 : decode cX11_giveTo 46 = .ok (.ireturn, 1) := by decide +kernel
theorem dX11_setMask_0 : decode cX11_setMask 0 = .ok (.aload_n 0, 1) := by decide +kernel
theorem dX11_setMask_1 : decode cX11_setMask 1 = .ok (.iload_n 1, 1) := by decide +kernel
theorem dX11_setMask_2 : decode cX11_setMask 2 = .ok (.invokevirtual 124, 3) := by decide +kernel
theorem dX11_setMask_5 : decode cX11_setMask 5 = .ok (.aload_n 0, 1) := by decide +kernel
theorem dX11_setMask_6 : decode cX11_setMask 6 = .ok (.iload_n 2, 1) := by decide +kernel
theorem dX11_setMask_7 : decode cX11_setMask 7 = .ok (.iconst 0, 1) := by decide +kernel
theorem dX11_setMask_8 : decode cX11_setMask 8 = .ok (.invokevirtual 180, 3) := by decide +kernel
theorem dX11_setMask_11 : decode cX11_setMask 11 = .ok (.aload_n 0, 1) := by decide +kernel
theorem dX11_setMask_12 : decode cX11_setMask 12 = .ok (.getfield 19, 3) := by decide +kernel
theorem dX11_setMask_15 : decode cX11_setMask 15 = .ok (.aload_n 0, 1) := by decide +kernel
theorem dX11_setMask_16 : decode cX11_setMask 16 = .ok (.getfield 10, 3) := by decide +kernel
theorem dX11_setMask_19 : decode cX11_setMask 19 = .ok (.invokevirtual 72, 3) := by decide +kernel
theorem dX11_setMask_22 : decode cX11_setMask 22 = .ok (.aload_n 0, 1) := by decide +kernel
theorem dX11_setMask_23 : decode cX11_setMask 23 = .ok (.getfield 10, 3) := by decide +kernel
theorem dX11_setMask_26 : decode cX11_setMask 26 = .ok (.getfield 127, 3) := by decide +kernel
theorem dX11_setMask_29 : decode cX11_setMask 29 = .ok (.iload_n 1, 1) := by decide +kernel
theorem dX11_setMask_30 : decode cX11_setMask 30 = .ok (.invokevirtual 183, 3) := by decide +kernel
theorem dX11_setMask_33 : decode cX11_setMask 33 = .ok (.istore_n 3, 1) := by decide +kernel
theorem dX11_setMask_34 : decode cX11_setMask 34 = .ok (.aload_n 0, 1) := by decide +kernel
theorem dX11_setMask_35 : decode cX11_setMask 35 = .ok (.getfield 10, 3) := by decide +kernel
theorem dX11_setMask_38 : decode cX11_setMask 38 = .ok (.getfield 127, 3) := by decide +kernel
theorem dX11_setMask_41 : decode cX11_setMask 41 = .ok (.iload_n 1, 1) := by decide +kernel
theorem dX11_setMask_42 : decode cX11_setMask 42 = .ok (.iload_n 2, 1) := by decide +kernel
theorem dX11_setMask_43 : decode cX11_setMask 43 = .ok (.invokevirtual 186, 3) := by decide +kernel
theorem dX11_setMask_46 : decode cX11_setMask 46 = .ok (.iload_n 3, 1) := by decide +kernel
theorem dX11_setMask_47 : decode cX11_setMask 47 = .ok (.ireturn, 1) := by decide +kernel
theorem dX11_setInheriting_0 : decode cX11_setInheriting 0 = .ok (.aload_n 0, 1) := by decide +kernel
theorem dX11_setInheriting_1 : decode cX11_setInheriting 1 = .ok (.iload_n 1, 1) := by decide +kernel
theorem dX11_setInheriting_2 : decode cX11_setInheriting 2 = .ok (.invokevirtual 124, 3) := by decide +kernel
theorem dX11_setInheriting_5 : decode cX11_setInheriting 5 = .ok (.aload_n 0, 1) := by decide +kernel
theorem dX11_setInheriting_6 : decode cX11_setInheriting 6 = .ok (.getfield 19, 3) := by decide +kernel
theorem dX11_setInheriting_9 : decode cX11_setInheriting 9 = .ok (.aload_n 0, 1) := by decide +kernel
theorem dX11_setInheriting_10 : decode cX11_setInheriting 10 = .ok (.getfield 10, 3) := by decide +kernel
theorem dX11_setInheriting_13 : decode cX11_setInheriting 13 = .ok (.invokevirtual 72, 3) := by decide +kernel
theorem dX11_setInheriting_16 : decode cX11_setInheriting 16 = .ok (.aload_n 0, 1) := by decide +kernel
theorem dX11_setInheriting_17 : decode cX11_setInheriting 17 = .ok (.getfield 10, 3) := by decide +kernel
theorem dX11_setInheriting_20 : decode cX11_setInheriting 20 = .ok (.getfield 127, 3) := by decide +kernel
theorem dX11_setInheriting_23 : decode cX11_setInheriting 23 = .ok (.iload_n 1, 1) := by decide +kernel
theorem dX11_setInheriting_24 : decode cX11_setInheriting 24 = .ok (.invokevirtual 189, 3) := by decide +kernel
theorem dX11_setInheriting_27 : decode cX11_setInheriting 27 = .ok (.istore_n 3, 1) := by decide +kernel
theorem dX11_setInheriting_28 : decode cX11_setInheriting 28 = .ok (.aload_n 0, 1) := by decide +kernel
theorem dX11_setInheriting_29 : decode cX11_setInheriting 29 = .ok (.getfield 10, 3) := by decide +kernel
theorem dX11_setInheriting_32 : decode cX11_setInheriting 32 = .ok (.getfield 127, 3) := by decide +kernel
theorem dX11_setInheriting_35 : decode cX11_setInheriting 35 = .ok (.iload_n 1, 1) := by decide +kernel
theorem dX11_setInheriting_36 : decode cX11_setInheriting 36 = .ok (.iload_n 2, 1) := by decide +kernel
theorem dX11_setInheriting_37 : decode cX11_setInheriting 37 = .ok (.invokevirtual 193, 3) := by decide +kernel
theorem dX11_setInheriting_40 : decode cX11_setInheriting 40 = .ok (.iload_n 3, 1) := by decide +kernel
theorem dX11_setInheriting_41 : decode cX11_setInheriting 41 = .ok (.ireturn, 1) := by decide +kernel
theorem dX11_addForUser_0 : decode cX11_addForUser 0 = .ok (.aload_n 0, 1) := by decide +kernel
theorem dX11_addForUser_1 : decode cX11_addForUser 1 = .ok (.iload_n 1, 1) := by decide +kernel
theorem dX11_addForUser_2 : decode cX11_addForUser 2 = .ok (.invokevirtual 124, 3) := by decide +kernel
theorem dX11_addForUser_5 : decode cX11_addForUser 5 = .ok (.aload_n 0, 1) := by decide +kernel
theorem dX11_addForUser_6 : decode cX11_addForUser 6 = .ok (.iload_n 2, 1) := by decide +kernel
theorem dX11_addForUser_7 : decode cX11_addForUser 7 = .ok (.invokevirtual 88, 3) := by decide +kernel
theorem dX11_addForUser_10 : decode cX11_addForUser 10 = .ok (.aload_n 0, 1) := by decide +kernel
theorem dX11_addForUser_11 : decode cX11_addForUser 11 = .ok (.iload_n 1, 1) := by decide +kernel
theorem dX11_addForUser_12 : decode cX11_addForUser 12 = .ok (.iconst 0, 1) := by decide +kernel
theorem dX11_addForUser_13 : decode cX11_addForUser 13 = .ok (.iload_n 2, 1) := by decide +kernel
theorem dX11_addForUser_14 : decode cX11_addForUser 14 = .ok (.iload_n 3, 1) := by decide +kernel
theorem dX11_addForUser_15 : decode cX11_addForUser 15 = .ok (.iload 4, 2) := by decide +kernel
theorem dX11_addForUser_17 : decode cX11_addForUser 17 = .ok (.iload 5, 2) := by decide +kernel
theorem dX11_addForUser_19 : decode cX11_addForUser 19 = .ok (.invokevirtual 199, 3) := by decide +kernel
theorem dX11_addForUser_22 : decode cX11_addForUser 22 = .ok (.ireturn, 1) := by decide +kernel
theorem dX11_addForGroup_0 : decode cX11_addForGroup 0 = .ok (.aload_n 0, 1) := by decide +kernel
theorem dX11_addForGroup_1 : decode cX11_addForGroup 1 = .ok (.iload_n 1, 1) := by decide +kernel
theorem dX11_addForGroup_2 : decode cX11_addForGroup 2 = .ok (.invokevirtual 124, 3) := by decide +kernel
theorem dX11_addForGroup_5 : decode cX11_addForGroup 5 = .ok (.aload_n 0, 1) := by decide +kernel
theorem dX11_addForGroup_6 : decode cX11_addForGroup 6 = .ok (.iload_n 2, 1) := by decide +kernel
theorem dX11_addForGroup_7 : decode cX11_addForGroup 7 = .ok (.invokevirtual 92, 3) := by decide +kernel
theorem dX11_addForGroup_10 : decode cX11_addForGroup 10 = .ok (.aload_n 0, 1) := by decide +kernel
theorem dX11_addForGroup_11 : decode cX11_addForGroup 11 = .ok (.iload_n 1, 1) := by decide +kernel
theorem dX11_addForGroup_12 : decode cX11_addForGroup 12 = .ok (.iconst 1, 1) := by decide +kernel
theorem dX11_addForGroup_13 : decode cX11_addForGroup 13 = .ok (.iload_n 2, 1) := by decide +kernel
theorem dX11_addForGroup_14 : decode cX11_addForGroup 14 = .ok (.iload_n 3, 1) := by decide +kernel
theorem dX11_addForGroup_15 : decode cX11_addForGroup 15 = .ok (.iload 4, 2) := by decide +kernel
theorem dX11_addForGroup_17 : decode cX11_addForGroup 17 = .ok (.iload 5, 2) := by decide +kernel
theorem dX11_addForGroup_19 : decode cX11_addForGroup 19 = .ok (.invokevirtual 199, 3) := by decide +kernel
theorem dX11_addForGroup_22 : decode cX11_addForGroup 22 = .ok (.ireturn, 1) := by decide +kernel
theorem dX11_addForOwner_0 : decode cX11_addForOwner 0 = .ok (.aload_n 0, 1) := by decide +kernel
theorem dX11_addForOwner_1 : decode cX11_addForOwner 1 = .ok (.iload_n 1, 1) := by decide +kernel
theorem dX11_addForOwner_2 : decode cX11_addForOwner 2 = .ok (.invokevirtual 124, 3) := by decide +kernel
theorem dX11_addForOwner_5 : decode cX11_addForOwner 5 = .ok (.aload_n 0, 1) := by decide +kernel
theorem dX11_addForOwner_6 : decode cX11_addForOwner 6 = .ok (.iload_n 1, 1) := by decide +kernel
theorem dX11_addForOwner_7 : decode cX11_addForOwner 7 = .ok (.iconst 2, 1) := by decide +kernel
theorem dX11_addForOwner_8 : decode cX11_addForOwner 8 = .ok (.iconst 0, 1) := by decide +kernel
theorem dX11_addForOwner_9 : decode cX11_addForOwner 9 = .ok (.iload_n 2, 1) := by decide +kernel
theorem dX11_addForOwner_10 : decode cX11_addForOwner 10 = .ok (.iload_n 3, 1) := by decide +kernel
theorem dX11_addForOwner_11 : decode cX11_addForOwner 11 = .ok (.iload 4, 2) := by decide +kernel
theorem dX11_addForOwner_13 : decode cX11_addForOwner 13 = .ok (.invokevirtual 199, 3) := by decide +kernel
theorem dX11_addForOwner_16 : decode cX11_addForOwner 16 = .ok (.ireturn, 1) := by decide +kernel
theorem dX11_addForAll_0 : decode cX11_addForAll 0 = .ok (.aload_n 0, 1) := by decide +kernel
theorem dX11_addForAll_1 : decode cX11_addForAll 1 = .ok (.iload_n 1, 1) := by decide +kernel
theorem dX11_addForAll_2 : decode cX11_addForAll 2 = .ok (.invokevirtual 124, 3) := by decide +kernel
theorem dX11_addForAll_5 : decode cX11_addForAll 5 = .ok (.aload_n 0, 1) := by decide +kernel
theorem dX11_addForAll_6 : decode cX11_addForAll 6 = .ok (.iload_n 1, 1) := by decide +kernel
theorem dX11_addForAll_7 : decode cX11_addForAll 7 = .ok (.iconst 3, 1) := by decide +kernel
theorem dX11_addForAll_8 : decode cX11_addForAll 8 = .ok (.iconst 0, 1) := by decide +kernel
theorem dX11_addForAll_9 : decode cX11_addForAll 9 = .ok (.iload_n 2, 1) := by decide +kernel
theorem dX11_addForAll_10 : decode cX11_addForAll 10 = .ok (.iload_n 3, 1) := by decide +kernel
theorem dX11_addForAll_11 : decode cX11_addForAll 11 = .ok (.iload 4, 2) := by decide +kernel
theorem dX11_addForAll_13 : decode cX11_addForAll 13 = .ok (.invokevirtual 199, 3) := by decide +kernel
theorem dX11_addForAll_16 : decode cX11_addForAll 16 = .ok (.ireturn, 1) := by decide +kernel
theorem dX11_removeEntry_0 : decode cX11_removeEntry 0 = .ok (.aload_n 0, 1) := by decide +kernel
theorem dX11_removeEntry_1 : decode cX11_removeEntry 1 = .ok (.iload_n 1, 1) := by decide +kernel
theorem dX11_removeEntry_2 : decode cX11_removeEntry 2 = .ok (.iload_n 2, 1) := by decide +kernel
theorem dX11_removeEntry_3 : decode cX11_removeEntry 3 = .ok (.invokevirtual 203, 3) := by decide +kernel
theorem dX11_removeEntry_6 : decode cX11_removeEntry 6 = .ok (.aload_n 0, 1) := by decide +kernel
theorem dX11_removeEntry_7 : decode cX11_removeEntry 7 = .ok (.getfield 19, 3) := by decide +kernel
theorem dX11_removeEntry_10 : decode cX11_removeEntry 10 = .ok (.aload_n 0, 1) := by decide +kernel
theorem dX11_removeEntry_11 : decode cX11_removeEntry 11 = .ok (.getfield 10, 3) := by decide +kernel
theorem dX11_removeEntry_14 : decode cX11_removeEntry 14 = .ok (.invokevirtual 72, 3) := by decide +kernel
theorem dX11_removeEntry_17 : decode cX11_removeEntry 17 = .ok (.aload_n 0, 1) := by decide +kernel
theorem dX11_removeEntry_18 : decode cX11_removeEntry 18 = .ok (.getfield 10, 3) := by decide +kernel
theorem dX11_removeEntry_21 : decode cX11_removeEntry 21 = .ok (.getfield 150, 3) := by decide +kernel
theorem dX11_removeEntry_24 : decode cX11_removeEntry 24 = .ok (.iload_n 1, 1) := by decide +kernel
theorem dX11_removeEntry_25 : decode cX11_removeEntry 25 = .ok (.iload_n 2, 1) := by decide +kernel
theorem dX11_removeEntry_26 : decode cX11_removeEntry 26 = .ok (.invokevirtual 206, 3) := by decide +kernel
theorem dX11_removeEntry_29 : decode cX11_removeEntry 29 = .ok (.pop, 1) := by decide +kernel
theorem dX11_removeEntry_30 : decode cX11_removeEntry 30 = .ok (.aload_n 0, 1) := by decide +kernel
theorem dX11_removeEntry_31 : decode cX11_removeEntry 31 = .ok (.getfield 10, 3) := by decide +kernel
theorem dX11_removeEntry_34 : decode cX11_removeEntry 34 = .ok (.getfield 150, 3) := by decide +kernel
theorem dX11_removeEntry_37 : decode cX11_removeEntry 37 = .ok (.iload_n 1, 1) := by decide +kernel
theorem dX11_removeEntry_38 : decode cX11_removeEntry 38 = .ok (.invokevirtual 210, 3) := by decide +kernel
theorem dX11_removeEntry_41 : decode cX11_removeEntry 41 = .ok (.ireturn, 1) := by decide +kernel
theorem dX11_moveEntry_0 : decode cX11_moveEntry 0 = .ok (.aload_n 0, 1) := by decide +kernel
theorem dX11_moveEntry_1 : decode cX11_moveEntry 1 = .ok (.iload_n 1, 1) := by decide +kernel
theorem dX11_moveEntry_2 : decode cX11_moveEntry 2 = .ok (.iload_n 2, 1) := by decide +kernel
theorem dX11_moveEntry_3 : decode cX11_moveEntry 3 = .ok (.invokevirtual 203, 3) := by decide +kernel
theorem dX11_moveEntry_6 : decode cX11_moveEntry 6 = .ok (.aload_n 0, 1) := by decide +kernel
theorem dX11_moveEntry_7 : decode cX11_moveEntry 7 = .ok (.iload_n 1, 1) := by decide +kernel
theorem dX11_moveEntry_8 : decode cX11_moveEntry 8 = .ok (.iload_n 3, 1) := by decide +kernel
theorem dX11_moveEntry_9 : decode cX11_moveEntry 9 = .ok (.invokevirtual 203, 3) := by decide +kernel
theorem dX11_moveEntry_12 : decode cX11_moveEntry 12 = .ok (.aload_n 0, 1) := by decide +kernel
theorem dX11_moveEntry_13 : decode cX11_moveEntry 13 = .ok (.getfield 19, 3) := by decide +kernel
theorem dX11_moveEntry_16 : decode cX11_moveEntry 16 = .ok (.aload_n 0, 1) := by decide +kernel
theorem dX11_moveEntry_17 : decode cX11_moveEntry 17 = .ok (.getfield 10, 3) := by decide +kernel
theorem dX11_moveEntry_20 : decode cX11_moveEntry 20 = .ok (.invokevirtual 72, 3) := by decide +kernel
theorem dX11_moveEntry_23 : decode cX11_moveEntry 23 = .ok (.aload_n 0, 1) := by decide +kernel
theorem dX11_moveEntry_24 : decode cX11_moveEntry 24 = .ok (.getfield 30, 3) := by decide +kernel
theorem dX11_moveEntry_27 : decode cX11_moveEntry 27 = .ok (.aload_n 0, 1) := by decide +kernel
theorem dX11_moveEntry_28 : decode cX11_moveEntry 28 = .ok (.getfield 10, 3) := by decide +kernel
theorem dX11_moveEntry_31 : decode cX11_moveEntry 31 = .ok (.invokevirtual 213, 3) := by decide +kernel
theorem dX11_moveEntry_34 : decode cX11_moveEntry 34 = .ok (.aload_n 0, 1) := by decide +kernel
theorem dX11_moveEntry_35 : decode cX11_moveEntry 35 = .ok (.getfield 10, 3) := by decide +kernel
theorem dX11_moveEntry_38 : decode cX11_moveEntry 38 = .ok (.getfield 150, 3) := by decide +kernel
theorem dX11_moveEntry_41 : decode cX11_moveEntry 41 = .ok (.iload_n 1, 1) := by decide +kernel
theorem dX11_moveEntry_42 : decode cX11_moveEntry 42 = .ok (.iload_n 2, 1) := by decide +kernel
theorem dX11_moveEntry_43 : decode cX11_moveEntry 43 = .ok (.invokevirtual 206, 3) := by decide +kernel
theorem dX11_moveEntry_46 : decode cX11_moveEntry 46 = .ok (.istore 4, 2) := by decide +kernel
theorem dX11_moveEntry_48 : decode cX11_moveEntry 48 = .ok (.aload_n 0, 1) := by decide +kernel
theorem dX11_moveEntry_49 : decode cX11_moveEntry 49 = .ok (.getfield 10, 3) := by decide +kernel
theorem dX11_moveEntry_52 : decode cX11_moveEntry 52 = .ok (.getfield 150, 3) := by decide +kernel
theorem dX11_moveEntry_55 : decode cX11_moveEntry 55 = .ok (.iload_n 1, 1) := by decide +kernel
theorem dX11_moveEntry_56 : decode cX11_moveEntry 56 = .ok (.iload_n 3, 1) := by decide +kernel
theorem dX11_moveEntry_57 : decode cX11_moveEntry 57 = .ok (.iload 4, 2) := by decide +kernel
theorem dX11_moveEntry_59 : decode cX11_moveEntry 59 = .ok (.invokevirtual 216, 3) := by decide +kernel
theorem dX11_moveEntry_62 : decode cX11_moveEntry 62 = .ok (.aload_n 0, 1) := by decide +kernel
theorem dX11_moveEntry_63 : decode cX11_moveEntry 63 = .ok (.getfield 30, 3) := by decide +kernel
theorem dX11_moveEntry_66 : decode cX11_moveEntry 66 = .ok (.aload_n 0, 1) := by decide +kernel
theorem dX11_moveEntry_67 : decode cX11_moveEntry 67 = .ok (.getfield 10, 3) := by decide +kernel
theorem dX11_moveEntry_70 : decode cX11_moveEntry 70 = .ok (.invokevirtual 219, 3) := by decide +kernel
theorem dX11_moveEntry_73 : decode cX11_moveEntry 73 = .ok (.ireturn, 1) := by decide +kernel
theorem dX11_ask_0 : decode cX11_ask 0 = .ok (.aload_n 0, 1) := by decide +kernel
theorem dX11_ask_1 : decode cX11_ask 1 = .ok (.iload_n 1, 1) := by decide +kernel
theorem dX11_ask_2 : decode cX11_ask 2 = .ok (.invokevirtual 88, 3) := by decide +kernel
theorem dX11_ask_5 : decode cX11_ask 5 = .ok (.aload_n 0, 1) := by decide +kernel
theorem dX11_ask_6 : decode cX11_ask 6 = .ok (.iload_n 2, 1) := by decide +kernel
theorem dX11_ask_7 : decode cX11_ask 7 = .ok (.invokevirtual 124, 3) := by decide +kernel
theorem dX11_ask_10 : decode cX11_ask 10 = .ok (.aload_n 0, 1) := by decide +kernel
theorem dX11_ask_11 : decode cX11_ask 11 = .ok (.iload_n 3, 1) := by decide +kernel
theorem dX11_ask_12 : decode cX11_ask 12 = .ok (.invokevirtual 223, 3) := by decide +kernel
theorem dX11_ask_15 : decode cX11_ask 15 = .ok (.aload_n 0, 1) := by decide +kernel
theorem dX11_ask_16 : decode cX11_ask 16 = .ok (.getfield 19, 3) := by decide +kernel
theorem dX11_ask_19 : decode cX11_ask 19 = .ok (.aload_n 0, 1) := by decide +kernel
theorem dX11_ask_20 : decode cX11_ask 20 = .ok (.getfield 10, 3) := by decide +kernel
theorem dX11_ask_23 : decode cX11_ask 23 = .ok (.invokevirtual 72, 3) := by decide +kernel
theorem dX11_ask_26 : decode cX11_ask 26 = .ok (.aload_n 0, 1) := by decide +kernel
theorem dX11_ask_27 : decode cX11_ask 27 = .ok (.getfield 30, 3) := by decide +kernel
theorem dX11_ask_30 : decode cX11_ask 30 = .ok (.aload_n 0, 1) := by decide +kernel
theorem dX11_ask_31 : decode cX11_ask 31 = .ok (.getfield 10, 3) := by decide +kernel
theorem dX11_ask_34 : decode cX11_ask 34 = .ok (.iload_n 1, 1) := by decide +kernel
theorem dX11_ask_35 : decode cX11_ask 35 = .ok (.iload_n 2, 1) := by decide +kernel
theorem dX11_ask_36 : decode cX11_ask 36 = .ok (.iload_n 3, 1) := by decide +kernel
theorem dX11_ask_37 : decode cX11_ask 37 = .ok (.invokevirtual 226, 3) := by decide +kernel
theorem dX11_ask_40 : decode cX11_ask 40 = .ok (.istore 4, 2) := by decide +kernel
theorem dX11_ask_42 : decode cX11_ask 42 = .ok (.aload_n 0, 1) := by decide +kernel
theorem dX11_ask_43 : decode cX11_ask 43 = .ok (.getfield 10, 3) := by decide +kernel
theorem dX11_ask_46 : decode cX11_ask 46 = .ok (.getfield 230, 3) := by decide +kernel
theorem dX11_ask_49 : decode cX11_ask 49 = .ok (.iload_n 1, 1) := by decide +kernel
theorem dX11_ask_50 : decode cX11_ask 50 = .ok (.iload_n 2, 1) := by decide +kernel
theorem dX11_ask_51 : decode cX11_ask 51 = .ok (.iload 4, 2) := by decide +kernel
theorem dX11_ask_53 : decode cX11_ask 53 = .ok (.invokevirtual 234, 3) := by decide +kernel
theorem dX11_ask_56 : decode cX11_ask 56 = .ok (.iload 4, 2) := by decide +kernel
theorem dX11_ask_58 : decode cX11_ask 58 = .ok (.ireturn, 1) := by decide +kernel
theorem dX11_share_0 : decode cX11_share 0 = .ok (.aload_n 0, 1) := by decide +kernel
theorem dX11_share_1 : decode cX11_share 1 = .ok (.iload_n 1, 1) := by decide +kernel
theorem dX11_share_2 : decode cX11_share 2 = .ok (.invokevirtual 88, 3) := by decide +kernel
theorem dX11_share_5 : decode cX11_share 5 = .ok (.aload_n 0, 1) := by decide +kernel
theorem dX11_share_6 : decode cX11_share 6 = .ok (.iload_n 2, 1) := by decide +kernel
theorem dX11_share_7 : decode cX11_share 7 = .ok (.invokevirtual 124, 3) := by decide +kernel
theorem dX11_share_10 : decode cX11_share 10 = .ok (.aload_n 0, 1) := by decide +kernel
theorem dX11_share_11 : decode cX11_share 11 = .ok (.iload_n 3, 1) := by decide +kernel
theorem dX11_share_12 : decode cX11_share 12 = .ok (.invokevirtual 88, 3) := by decide +kernel
theorem dX11_share_15 : decode cX11_share 15 = .ok (.aload_n 0, 1) := by decide +kernel
theorem dX11_share_16 : decode cX11_share 16 = .ok (.iload 4, 2) := by decide +kernel
theorem dX11_share_18 : decode cX11_share 18 = .ok (.iconst 1, 1) := by decide +kernel
theorem dX11_share_19 : decode cX11_share 19 = .ok (.invokevirtual 180, 3) := by decide +kernel
theorem dX11_share_22 : decode cX11_share 22 = .ok (.iload 4, 2) := by decide +kernel
theorem dX11_share_24 : decode cX11_share 24 = .ok (.bipush 8, 2) := by decide +kernel
theorem dX11_share_26 : decode cX11_share 26 = .ok (.ior, 1) := by decide +kernel
theorem dX11_share_27 : decode cX11_share 27 = .ok (.istore 5, 2) := by decide +kernel
theorem dX11_share_29 : decode cX11_share 29 = .ok (.aload_n 0, 1) := by decide +kernel
theorem dX11_share_30 : decode cX11_share 30 = .ok (.getfield 30, 3) := by decide +kernel
theorem dX11_share_33 : decode cX11_share 33 = .ok (.aload_n 0, 1) := by decide +kernel
theorem dX11_share_34 : decode cX11_share 34 = .ok (.getfield 10, 3) := by decide +kernel
theorem dX11_share_37 : decode cX11_share 37 = .ok (.iload_n 1, 1) := by decide +kernel
theorem dX11_share_38 : decode cX11_share 38 = .ok (.iload_n 2, 1) := by decide +kernel
theorem dX11_share_39 : decode cX11_share 39 = .ok (.invokevirtual 239, 3) := by decide +kernel
theorem dX11_share_42 : decode cX11_share 42 = .ok (.iload 5, 2) := by decide +kernel
theorem dX11_share_44 : decode cX11_share 44 = .ok (.iand, 1) := by decide +kernel
theorem dX11_share_45 : decode cX11_share 45 = .ok (.iload 5, 2) := by decide +kernel
theorem dX11_share_47 : decode cX11_share 47 = .ok (.if_icmp .eq 13, 3) := by decide +kernel
theorem dX11_share_50 : decode cX11_share 50 = .ok (.new 65, 3) := by decide +kernel
theorem dX11_share_53 : decode cX11_share 53 = .ok (.dup, 1) := by decide +kernel
theorem dX11_share_54 : decode cX11_share 54 = .ok (.ldc 243, 2) := by decide +kernel
theorem dX11_share_56 : decode cX11_share 56 = .ok (.invokespecial 69, 3) := by decide +kernel
theorem dX11_share_59 : decode cX11_share 59 = .ok (.athrow, 1) := by decide +kernel
theorem dX11_share_60 : decode cX11_share 60 = .ok (.aload_n 0, 1) := by decide +kernel
theorem dX11_share_61 : decode cX11_share 61 = .ok (.iload_n 2, 1) := by decide +kernel
theorem dX11_share_62 : decode cX11_share 62 = .ok (.invokevirtual 245, 3) := by decide +kernel
theorem dX11_share_65 : decode cX11_share 65 = .ok (.aload_n 0, 1) := by decide +kernel
theorem dX11_share_66 : decode cX11_share 66 = .ok (.getfield 19, 3) := by decide +kernel
theorem dX11_share_69 : decode cX11_share 69 = .ok (.aload_n 0, 1) := by decide +kernel
theorem dX11_share_70 : decode cX11_share 70 = .ok (.getfield 10, 3) := by decide +kernel
theorem dX11_share_73 : decode cX11_share 73 = .ok (.invokevirtual 72, 3) := by decide +kernel
theorem dX11_share_76 : decode cX11_share 76 = .ok (.aload_n 0, 1) := by decide +kernel
theorem dX11_share_77 : decode cX11_share 77 = .ok (.getfield 10, 3) := by decide +kernel
theorem dX11_share_80 : decode cX11_share 80 = .ok (.getfield 150, 3) := by decide +kernel
theorem dX11_share_83 : decode cX11_share 83 = .ok (.iload_n 2, 1) := by decide +kernel
theorem dX11_share_84 : decode cX11_share 84 = .ok (.iconst 0, 1) := by decide +kernel
theorem dX11_share_85 : decode cX11_share 85 = .ok (.iconst 0, 1) := by decide +kernel
theorem dX11_share_86 : decode cX11_share 86 = .ok (.iload_n 3, 1) := by decide +kernel
theorem dX11_share_87 : decode cX11_share 87 = .ok (.iload 4, 2) := by decide +kernel
theorem dX11_share_89 : decode cX11_share 89 = .ok (.iconst 1, 1) := by decide +kernel
theorem dX11_share_90 : decode cX11_share 90 = .ok (.iconst 0, 1) := by decide +kernel
theorem dX11_share_91 : decode cX11_share 91 = .ok (.invokestatic 248, 3) := by decide +kernel
theorem dX11_share_94 : decode cX11_share 94 = .ok (.invokevirtual 216, 3) := by decide +kernel
theorem dX11_share_97 : decode cX11_share 97 = .ok (.aload_n 0, 1) := by decide +kernel
theorem dX11_share_98 : decode cX11_share 98 = .ok (.getfield 30, 3) := by decide +kernel
theorem dX11_share_101 : decode cX11_share 101 = .ok (.aload_n 0, 1) := by decide +kernel
theorem dX11_share_102 : decode cX11_share 102 = .ok (.getfield 10, 3) := by decide +kernel
theorem dX11_share_105 : decode cX11_share 105 = .ok (.iload_n 3, 1) := by decide +kernel
theorem dX11_share_106 : decode cX11_share 106 = .ok (.iload_n 2, 1) := by decide +kernel
theorem dX11_share_107 : decode cX11_share 107 = .ok (.invokevirtual 239, 3) := by decide +kernel
theorem dX11_share_110 : decode cX11_share 110 = .ok (.ireturn, 1) := by decide +kernel
theorem dX11_users_0 : decode cX11_users 0 = .ok (.aload_n 0, 1) := by decide +kernel
theorem dX11_users_1 : decode cX11_users 1 = .ok (.getfield 10, 3) := by decide +kernel
theorem dX11_users_4 : decode cX11_users 4 = .ok (.getfield 55, 3) := by decide +kernel
theorem dX11_users_7 : decode cX11_users 7 = .ok (.getfield 59, 3) := by decide +kernel
theorem dX11_users_10 : decode cX11_users 10 = .ok (.ireturn, 1) := by decide +kernel
theorem dX11_groups_0 : decode cX11_groups 0 = .ok (.aload_n 0, 1) := by decide +kernel
theorem dX11_groups_1 : decode cX11_groups 1 = .ok (.getfield 10, 3) := by decide +kernel
theorem dX11_groups_4 : decode cX11_groups 4 = .ok (.getfield 55, 3) := by decide +kernel
theorem dX11_groups_7 : decode cX11_groups 7 = .ok (.getfield 80, 3) := by decide +kernel
theorem dX11_groups_10 : decode cX11_groups 10 = .ok (.ireturn, 1) := by decide +kernel
theorem dX11_isMember_0 : decode cX11_isMember 0 = .ok (.aload_n 0, 1) := by decide +kernel
theorem dX11_isMember_1 : decode cX11_isMember 1 = .ok (.iload_n 1, 1) := by decide +kernel
theorem dX11_isMember_2 : decode cX11_isMember 2 = .ok (.invokevirtual 88, 3) := by decide +kernel
theorem dX11_isMember_5 : decode cX11_isMember 5 = .ok (.aload_n 0, 1) := by decide +kernel
theorem dX11_isMember_6 : decode cX11_isMember 6 = .ok (.iload_n 2, 1) := by decide +kernel
theorem dX11_isMember_7 : decode cX11_isMember 7 = .ok (.invokevirtual 92, 3) := by decide +kernel
theorem dX11_isMember_10 : decode cX11_isMember 10 = .ok (.aload_n 0, 1) := by decide +kernel
theorem dX11_isMember_11 : decode cX11_isMember 11 = .ok (.getfield 10, 3) := by decide +kernel
theorem dX11_isMember_14 : decode cX11_isMember 14 = .ok (.getfield 55, 3) := by decide +kernel
theorem dX11_isMember_17 : decode cX11_isMember 17 = .ok (.iload_n 2, 1) := by decide +kernel
theorem dX11_isMember_18 : decode cX11_isMember 18 = .ok (.iload_n 1, 1) := by decide +kernel
theorem dX11_isMember_19 : decode cX11_isMember 19 = .ok (.invokevirtual 95, 3) := by decide +kernel
theorem dX11_isMember_22 : decode cX11_isMember 22 = .ok (.ireturn, 1) := by decide +kernel
theorem dX11_isNested_0 : decode cX11_isNested 0 = .ok (.aload_n 0, 1) := by decide +kernel
theorem dX11_isNested_1 : decode cX11_isNested 1 = .ok (.iload_n 1, 1) := by decide +kernel
theorem dX11_isNested_2 : decode cX11_isNested 2 = .ok (.invokevirtual 92, 3) := by decide +kernel
theorem dX11_isNested_5 : decode cX11_isNested 5 = .ok (.aload_n 0, 1) := by decide +kernel
theorem dX11_isNested_6 : decode cX11_isNested 6 = .ok (.iload_n 2, 1) := by decide +kernel
theorem dX11_isNested_7 : decode cX11_isNested 7 = .ok (.invokevirtual 92, 3) := by decide +kernel
theorem dX11_isNested_10 : decode cX11_isNested 10 = .ok (.aload_n 0, 1) := by decide +kernel
theorem dX11_isNested_11 : decode cX11_isNested 11 = .ok (.getfield 10, 3) := by decide +kernel
theorem dX11_isNested_14 : decode cX11_isNested 14 = .ok (.getfield 55, 3) := by decide +kernel
theorem dX11_isNested_17 : decode cX11_isNested 17 = .ok (.iload_n 2, 1) := by decide +kernel
theorem dX11_isNested_18 : decode cX11_isNested 18 = .ok (.iload_n 1, 1) := by decide +kernel
theorem dX11_isNested_19 : decode cX11_isNested 19 = .ok (.invokevirtual 111, 3) := by decide +kernel
theorem dX11_isNested_22 : decode cX11_isNested 22 = .ok (.ireturn, 1) := by decide +kernel
theorem dX11_belongs_0 : decode cX11_belongs 0 = .ok (.aload_n 0, 1) := by decide +kernel
theorem dX11_belongs_1 : decode cX11_belongs 1 = .ok (.iload_n 1, 1) := by decide +kernel
theorem dX11_belongs_2 : decode cX11_belongs 2 = .ok (.invokevirtual 88, 3) := by decide +kernel
theorem dX11_belongs_5 : decode cX11_belongs 5 = .ok (.aload_n 0, 1) := by decide +kernel
theorem dX11_belongs_6 : decode cX11_belongs 6 = .ok (.iload_n 2, 1) := by decide +kernel
theorem dX11_belongs_7 : decode cX11_belongs 7 = .ok (.invokevirtual 92, 3) := by decide +kernel
theorem dX11_belongs_10 : decode cX11_belongs 10 = .ok (.aload_n 0, 1) := by decide +kernel
theorem dX11_belongs_11 : decode cX11_belongs 11 = .ok (.getfield 10, 3) := by decide +kernel
theorem dX11_belongs_14 : decode cX11_belongs 14 = .ok (.getfield 55, 3) := by decide +kernel
theorem dX11_belongs_17 : decode cX11_belongs 17 = .ok (.iload_n 1, 1) := by decide +kernel
theorem dX11_belongs_18 : decode cX11_belongs 18 = .ok (.invokevirtual 299, 3) := by decide +kernel
theorem dX11_belongs_21 : decode cX11_belongs 21 = .ok (.iload_n 2, 1) := by decide +kernel
theorem dX11_belongs_22 : decode cX11_belongs 22 = .ok (.invokestatic 302, 3) := by decide +kernel
theorem dX11_belongs_25 : decode cX11_belongs 25 = .ok (.ireturn, 1) := by decide +kernel
theorem dX11_belongsByMembers_0 : decode cX11_belongsByMembers 0 = .ok (.aload_n 0, 1) := by decide +kernel
theorem dX11_belongsByMembers_1 : decode cX11_belongsByMembers 1 = .ok (.iload_n 1, 1) := by decide +kernel
theorem dX11_belongsByMembers_2 : decode cX11_belongsByMembers 2 = .ok (.invokevirtual 88, 3) := by decide +kernel
theorem dX11_belongsByMembers_5 : decode cX11_belongsByMembers 5 = .ok (.aload_n 0, 1) := by decide +kernel
theorem dX11_belongsByMembers_6 : decode cX11_belongsByMembers 6 = .ok (.iload_n 2, 1) := by decide +kernel
theorem dX11_belongsByMembers_7 : decode cX11_belongsByMembers 7 = .ok (.invokevirtual 92, 3) := by decide +kernel
theorem dX11_belongsByMembers_10 : decode cX11_belongsByMembers 10 = .ok (.aload_n 0, 1) := by decide +kernel
theorem dX11_belongsByMembers_11 : decode cX11_belongsByMembers 11 = .ok (.getfield 10, 3) := by decide +kernel
theorem dX11_belongsByMembers_14 : decode cX11_belongsByMembers 14 = .ok (.getfield 55, 3) := by decide +kernel
theorem dX11_belongsByMembers_17 : decode cX11_belongsByMembers 17 = .ok (.iload_n 2, 1) := by decide +kernel
theorem dX11_belongsByMembers_18 : decode cX11_belongsByMembers 18 = .ok (.invokevirtual 305, 3) := by decide +kernel
theorem dX11_belongsByMembers_21 : decode cX11_belongsByMembers 21 = .ok (.iload_n 1, 1) := by decide +kernel
theorem dX11_belongsByMembers_22 : decode cX11_belongsByMembers 22 = .ok (.invokestatic 302, 3) := by decide +kernel
theorem dX11_belongsByMembers_25 : decode cX11_belongsByMembers 25 = .ok (.ireturn, 1) := by decide +kernel
theorem dX11_objects_0 : decode cX11_objects 0 = .ok (.aload_n 0, 1) := by decide +kernel
theorem dX11_objects_1 : decode cX11_objects 1 = .ok (.getfield 10, 3) := by decide +kernel
theorem dX11_objects_4 : decode cX11_objects 4 = .ok (.getfield 127, 3) := by decide +kernel
theorem dX11_objects_7 : decode cX11_objects 7 = .ok (.invokevirtual 159, 3) := by decide +kernel
theorem dX11_objects_10 : decode cX11_objects 10 = .ok (.ireturn, 1) := by decide +kernel
theorem dX11_isThere_0 : decode cX11_isThere 0 = .ok (.aload_n 0, 1) := by decide +kernel
theorem dX11_isThere_1 : decode cX11_isThere 1 = .ok (.getfield 10, 3) := by decide +kernel
theorem dX11_isThere_4 : decode cX11_isThere 4 = .ok (.getfield 127, 3) := by decide +kernel
theorem dX11_isThere_7 : decode cX11_isThere 7 = .ok (.iload_n 1, 1) := by decide +kernel
theorem dX11_isThere_8 : decode cX11_isThere 8 = .ok (.invokevirtual 308, 3) := by decide +kernel
theorem dX11_isThere_11 : decode cX11_isThere 11 = .ok (.ireturn, 1) := by decide +kernel
theorem dX11_parentOf_0 : decode cX11_parentOf 0 = .ok (.aload_n 0, 1) := by decide +kernel
theorem dX11_parentOf_1 : decode cX11_parentOf 1 = .ok (.iload_n 1, 1) := by decide +kernel
theorem dX11_parentOf_2 : decode cX11_parentOf 2 = .ok (.invokevirtual 124, 3) := by decide +kernel
theorem dX11_parentOf_5 : decode cX11_parentOf 5 = .ok (.aload_n 0, 1) := by decide +kernel
theorem dX11_parentOf_6 : decode cX11_parentOf 6 = .ok (.getfield 10, 3) := by decide +kernel
theorem dX11_parentOf_9 : decode cX11_parentOf 9 = .ok (.getfield 127, 3) := by decide +kernel
theorem dX11_parentOf_12 : decode cX11_parentOf 12 = .ok (.iload_n 1, 1) := by decide +kernel
theorem dX11_parentOf_13 : decode cX11_parentOf 13 = .ok (.invokevirtual 167, 3) := by decide +kernel
theorem dX11_parentOf_16 : decode cX11_parentOf 16 = .ok (.ireturn, 1) := by decide +kernel
theorem dX11_ownerOf_0 : decode cX11_ownerOf 0 = .ok (.aload_n 0, 1) := by decide +kernel
theorem dX11_ownerOf_1 : decode cX11_ownerOf 1 = .ok (.iload_n 1, 1) := by decide +kernel
theorem dX11_ownerOf_2 : decode cX11_ownerOf 2 = .ok (.invokevirtual 124, 3) := by decide +kernel
theorem dX11_ownerOf_5 : decode cX11_ownerOf 5 = .ok (.aload_n 0, 1) := by decide +kernel
theorem dX11_ownerOf_6 : decode cX11_ownerOf 6 = .ok (.getfield 10, 3) := by decide +kernel
theorem dX11_ownerOf_9 : decode cX11_ownerOf 9 = .ok (.getfield 127, 3) := by decide +kernel
theorem dX11_ownerOf_12 : decode cX11_ownerOf 12 = .ok (.iload_n 1, 1) := by decide +kernel
theorem dX11_ownerOf_13 : decode cX11_ownerOf 13 = .ok (.invokevirtual 174, 3) := by decide +kernel
theorem dX11_ownerOf_16 : decode cX11_ownerOf 16 = .ok (.ireturn, 1) := by decide +kernel
theorem dX11_maskOf_0 : decode cX11_maskOf 0 = .ok (.aload_n 0, 1) := by decide +kernel
theorem dX11_maskOf_1 : decode cX11_maskOf 1 = .ok (.iload_n 1, 1) := by decide +kernel
theorem dX11_maskOf_2 : decode cX11_maskOf 2 = .ok (.invokevirtual 124, 3) := by decide +kernel
theorem dX11_maskOf_5 : decode cX11_maskOf 5 = .ok (.aload_n 0, 1) := by decide +kernel
theorem dX11_maskOf_6 : decode cX11_maskOf 6 = .ok (.getfield 10, 3) := by decide +kernel
theorem dX11_maskOf_9 : decode cX11_maskOf 9 = .ok (.getfield 127, 3) := by decide +kernel
theorem dX11_maskOf_12 : decode cX11_maskOf 12 = .ok (.iload_n 1, 1) := by decide +kernel
theorem dX11_maskOf_13 : decode cX11_maskOf 13 = .ok (.invokevirtual 183, 3) := by decide +kernel
theorem dX11_maskOf_16 : decode cX11_maskOf 16 = .ok (.ireturn, 1) := by decide +kernel
theorem dX11_isInheriting_0 : decode cX11_isInheriting 0 = .ok (.aload_n 0, 1) := by decide +kernel
theorem dX11_isInheriting_1 : decode cX11_isInheriting 1 = .ok (.iload_n 1, 1) := by decide +kernel
theorem dX11_isInheriting_2 : decode cX11_isInheriting 2 = .ok (.invokevirtual 124, 3) := by decide +kernel
theorem dX11_isInheriting_5 : decode cX11_isInheriting 5 = .ok (.aload_n 0, 1) := by decide +kernel
theorem dX11_isInheriting_6 : decode cX11_isInheriting 6 = .ok (.getfield 10, 3) := by decide +kernel
theorem dX11_isInheriting_9 : decode cX11_isInheriting 9 = .ok (.getfield 127, 3) := by decide +kernel
theorem dX11_isInheriting_12 : decode cX11_isInheriting 12 = .ok (.iload_n 1, 1) := by decide +kernel
theorem dX11_isInheriting_13 : decode cX11_isInheriting 13 = .ok (.invokevirtual 189, 3) := by decide +kernel
theorem dX11_isInheriting_16 : decode cX11_isInheriting 16 = .ok (.ireturn, 1) := by decide +kernel
theorem dX11_below_0 : decode cX11_below 0 = .ok (.aload_n 0, 1) := by decide +kernel
theorem dX11_below_1 : decode cX11_below 1 = .ok (.iload_n 1, 1) := by decide +kernel
theorem dX11_below_2 : decode cX11_below 2 = .ok (.invokevirtual 124, 3) := by decide +kernel
theorem dX11_below_5 : decode cX11_below 5 = .ok (.aload_n 0, 1) := by decide +kernel
theorem dX11_below_6 : decode cX11_below 6 = .ok (.getfield 10, 3) := by decide +kernel
theorem dX11_below_9 : decode cX11_below 9 = .ok (.getfield 127, 3) := by decide +kernel
theorem dX11_below_12 : decode cX11_below 12 = .ok (.iload_n 1, 1) := by decide +kernel
theorem dX11_below_13 : decode cX11_below 13 = .ok (.invokevirtual 142, 3) := by decide +kernel
theorem dX11_below_16 : decode cX11_below 16 = .ok (.ireturn, 1) := by decide +kernel
theorem dX11_entriesOf_0 : decode cX11_entriesOf 0 = .ok (.aload_n 0, 1) := by decide +kernel
theorem dX11_entriesOf_1 : decode cX11_entriesOf 1 = .ok (.iload_n 1, 1) := by decide +kernel
theorem dX11_entriesOf_2 : decode cX11_entriesOf 2 = .ok (.invokevirtual 124, 3) := by decide +kernel
theorem dX11_entriesOf_5 : decode cX11_entriesOf 5 = .ok (.aload_n 0, 1) := by decide +kernel
theorem dX11_entriesOf_6 : decode cX11_entriesOf 6 = .ok (.getfield 10, 3) := by decide +kernel
theorem dX11_entriesOf_9 : decode cX11_entriesOf 9 = .ok (.getfield 150, 3) := by decide +kernel
theorem dX11_entriesOf_12 : decode cX11_entriesOf 12 = .ok (.iload_n 1, 1) := by decide +kernel
theorem dX11_entriesOf_13 : decode cX11_entriesOf 13 = .ok (.invokevirtual 210, 3) := by decide +kernel
theorem dX11_entriesOf_16 : decode cX11_entriesOf 16 = .ok (.ireturn, 1) := by decide +kernel
theorem dX11_isAllowing_0 : decode cX11_isAllowing 0 = .ok (.aload_n 0, 1) := by decide +kernel
theorem dX11_isAllowing_1 : decode cX11_isAllowing 1 = .ok (.iload_n 1, 1) := by decide +kernel
theorem dX11_isAllowing_2 : decode cX11_isAllowing 2 = .ok (.iload_n 2, 1) := by decide +kernel
theorem dX11_isAllowing_3 : decode cX11_isAllowing 3 = .ok (.invokevirtual 203, 3) := by decide +kernel
theorem dX11_isAllowing_6 : decode cX11_isAllowing 6 = .ok (.aload_n 0, 1) := by decide +kernel
theorem dX11_isAllowing_7 : decode cX11_isAllowing 7 = .ok (.getfield 10, 3) := by decide +kernel
theorem dX11_isAllowing_10 : decode cX11_isAllowing 10 = .ok (.getfield 150, 3) := by decide +kernel
theorem dX11_isAllowing_13 : decode cX11_isAllowing 13 = .ok (.iload_n 1, 1) := by decide +kernel
theorem dX11_isAllowing_14 : decode cX11_isAllowing 14 = .ok (.iload_n 2, 1) := by decide +kernel
theorem dX11_isAllowing_15 : decode cX11_isAllowing 15 = .ok (.invokevirtual 311, 3) := by decide +kernel
theorem dX11_isAllowing_18 : decode cX11_isAllowing 18 = .ok (.invokestatic 313, 3) := by decide +kernel
theorem dX11_isAllowing_21 : decode cX11_isAllowing 21 = .ok (.ireturn, 1) := by decide +kernel
theorem dX11_rightsOfEntry_0 : decode cX11_rightsOfEntry 0 = .ok (.aload_n 0, 1) := by decide +kernel
theorem dX11_rightsOfEntry_1 : decode cX11_rightsOfEntry 1 = .ok (.iload_n 1, 1) := by decide +kernel
theorem dX11_rightsOfEntry_2 : decode cX11_rightsOfEntry 2 = .ok (.iload_n 2, 1) := by decide +kernel
theorem dX11_rightsOfEntry_3 : decode cX11_rightsOfEntry 3 = .ok (.invokevirtual 203, 3) := by decide +kernel
theorem dX11_rightsOfEntry_6 : decode cX11_rightsOfEntry 6 = .ok (.aload_n 0, 1) := by decide +kernel
theorem dX11_rightsOfEntry_7 : decode cX11_rightsOfEntry 7 = .ok (.getfield 10, 3) := by decide +kernel
theorem dX11_rightsOfEntry_10 : decode cX11_rightsOfEntry 10 = .ok (.getfield 150, 3) := by decide +kernel
theorem dX11_rightsOfEntry_13 : decode cX11_rightsOfEntry 13 = .ok (.iload_n 1, 1) := by decide +kernel
theorem dX11_rightsOfEntry_14 : decode cX11_rightsOfEntry 14 = .ok (.iload_n 2, 1) := by decide +kernel
theorem dX11_rightsOfEntry_15 : decode cX11_rightsOfEntry 15 = .ok (.invokevirtual 311, 3) := by decide +kernel
theorem dX11_rightsOfEntry_18 : decode cX11_rightsOfEntry 18 = .ok (.invokestatic 316, 3) := by decide +kernel
theorem dX11_rightsOfEntry_21 : decode cX11_rightsOfEntry 21 = .ok (.ireturn, 1) := by decide +kernel
theorem dX11_userOfEntry_0 : decode cX11_userOfEntry 0 = .ok (.aload_n 0, 1) := by decide +kernel
theorem dX11_userOfEntry_1 : decode cX11_userOfEntry 1 = .ok (.iload_n 1, 1) := by decide +kernel
theorem dX11_userOfEntry_2 : decode cX11_userOfEntry 2 = .ok (.iload_n 2, 1) := by decide +kernel
theorem dX11_userOfEntry_3 : decode cX11_userOfEntry 3 = .ok (.invokevirtual 203, 3) := by decide +kernel
theorem dX11_userOfEntry_6 : decode cX11_userOfEntry 6 = .ok (.aload_n 0, 1) := by decide +kernel
theorem dX11_userOfEntry_7 : decode cX11_userOfEntry 7 = .ok (.getfield 10, 3) := by decide +kernel
theorem dX11_userOfEntry_10 : decode cX11_userOfEntry 10 = .ok (.getfield 150, 3) := by decide +kernel
theorem dX11_userOfEntry_13 : decode cX11_userOfEntry 13 = .ok (.iload_n 1, 1) := by decide +kernel
theorem dX11_userOfEntry_14 : decode cX11_userOfEntry 14 = .ok (.iload_n 2, 1) := by decide +kernel
theorem dX11_userOfEntry_15 : decode cX11_userOfEntry 15 = .ok (.invokevirtual 311, 3) := by decide +kernel
theorem dX11_userOfEntry_18 : decode cX11_userOfEntry 18 = .ok (.istore_n 3, 1) := by decide +kernel
theorem dX11_userOfEntry_19 : decode cX11_userOfEntry 19 = .ok (.iload_n 3, 1) := by decide +kernel
theorem dX11_userOfEntry_20 : decode cX11_userOfEntry 20 = .ok (.invokestatic 319, 3) := by decide +kernel
theorem dX11_userOfEntry_23 : decode cX11_userOfEntry 23 = .ok (.ifCond .ne 10, 3) := by decide +kernel
theorem dX11_userOfEntry_26 : decode cX11_userOfEntry 26 = .ok (.iload_n 3, 1) := by decide +kernel
theorem dX11_userOfEntry_27 : decode cX11_userOfEntry 27 = .ok (.invokestatic 322, 3) := by decide +kernel
theorem dX11_userOfEntry_30 : decode cX11_userOfEntry 30 = .ok (.goto 4, 3) := by decide +kernel
theorem dX11_userOfEntry_33 : decode cX11_userOfEntry 33 = .ok (.iconst (-1), 1) := by decide +kernel
theorem dX11_userOfEntry_34 : decode cX11_userOfEntry 34 = .ok (.ireturn, 1) := by decide +kernel
theorem dX11_groupOfEntry_0 : decode cX11_groupOfEntry 0 = .ok (.aload_n 0, 1) := by decide +kernel
theorem dX11_groupOfEntry_1 : decode cX11_groupOfEntry 1 = .ok (.iload_n 1, 1) := by decide +kernel
theorem dX11_groupOfEntry_2 : decode cX11_groupOfEntry 2 = .ok (.iload_n 2, 1) := by decide +kernel
theorem dX11_groupOfEntry_3 : decode cX11_groupOfEntry 3 = .ok (.invokevirtual 203, 3) := by decide +kernel
theorem dX11_groupOfEntry_6 : decode cX11_groupOfEntry 6 = .ok (.aload_n 0, 1) := by decide +kernel
theorem dX11_groupOfEntry_7 : decode cX11_groupOfEntry 7 = .ok (.getfield 10, 3) := by decide +kernel
theorem dX11_groupOfEntry_10 : decode cX11_groupOfEntry 10 = .ok (.getfield 150, 3) := by decide +kernel
theorem dX11_groupOfEntry_13 : decode cX11_groupOfEntry 13 = .ok (.iload_n 1, 1) := by decide +kernel
theorem dX11_groupOfEntry_14 : decode cX11_groupOfEntry 14 = .ok (.iload_n 2, 1) := by decide +kernel
theorem dX11_groupOfEntry_15 : decode cX11_groupOfEntry 15 = .ok (.invokevirtual 311, 3) := by decide +kernel
theorem dX11_groupOfEntry_18 : decode cX11_groupOfEntry 18 = .ok (.istore_n 3, 1) := by decide +kernel
theorem dX11_groupOfEntry_19 : decode cX11_groupOfEntry 19 = .ok (.iload_n 3, 1) := by decide +kernel
theorem dX11_groupOfEntry_20 : decode cX11_groupOfEntry 20 = .ok (.invokestatic 319, 3) := by decide +kernel
theorem dX11_groupOfEntry_23 : decode cX11_groupOfEntry 23 = .ok (.iconst 1, 1) := by decide +kernel
theorem dX11_groupOfEntry_24 : decode cX11_groupOfEntry 24 = .ok (.if_icmp .ne 10, 3) := by decide +kernel
theorem dX11_groupOfEntry_27 : decode cX11_groupOfEntry 27 = .ok (.iload_n 3, 1) := by decide +kernel
theorem dX11_groupOfEntry_28 : decode cX11_groupOfEntry 28 = .ok (.invokestatic 322, 3) := by decide +kernel
theorem dX11_groupOfEntry_31 : decode cX11_groupOfEntry 31 = .ok (.goto 4, 3) := by decide +kernel
theorem dX11_groupOfEntry_34 : decode cX11_groupOfEntry 34 = .ok (.iconst (-1), 1) := by decide +kernel
theorem dX11_groupOfEntry_35 : decode cX11_groupOfEntry 35 = .ok (.ireturn, 1) := by decide +kernel
theorem dX11_isForOwner_0 : decode cX11_isForOwner 0 = .ok (.aload_n 0, 1) := by decide +kernel
theorem dX11_isForOwner_1 : decode cX11_isForOwner 1 = .ok (.iload_n 1, 1) := by decide +kernel
theorem dX11_isForOwner_2 : decode cX11_isForOwner 2 = .ok (.iload_n 2, 1) := by decide +kernel
theorem dX11_isForOwner_3 : decode cX11_isForOwner 3 = .ok (.invokevirtual 203, 3) := by decide +kernel
theorem dX11_isForOwner_6 : decode cX11_isForOwner 6 = .ok (.aload_n 0, 1) := by decide +kernel
theorem dX11_isForOwner_7 : decode cX11_isForOwner 7 = .ok (.getfield 10, 3) := by decide +kernel
theorem dX11_isForOwner_10 : decode cX11_isForOwner 10 = .ok (.getfield 150, 3) := by decide +kernel
theorem dX11_isForOwner_13 : decode cX11_isForOwner 13 = .ok (.iload_n 1, 1) := by decide +kernel
theorem dX11_isForOwner_14 : decode cX11_isForOwner 14 = .ok (.iload_n 2, 1) := by decide +kernel
theorem dX11_isForOwner_15 : decode cX11_isForOwner 15 = .ok (.invokevirtual 311, 3) := by decide +kernel
theorem dX11_isForOwner_18 : decode cX11_isForOwner 18 = .ok (.invokestatic 319, 3) := by decide +kernel
theorem dX11_isForOwner_21 : decode cX11_isForOwner 21 = .ok (.iconst 2, 1) := by decide +kernel
theorem dX11_isForOwner_22 : decode cX11_isForOwner 22 = .ok (.if_icmp .ne 7, 3) := by decide +kernel
theorem dX11_isForOwner_25 : decode cX11_isForOwner 25 = .ok (.iconst 1, 1) := by decide +kernel
theorem dX11_isForOwner_26 : decode cX11_isForOwner 26 = .ok (.goto 4, 3) := by decide +kernel
theorem dX11_isForOwner_29 : decode cX11_isForOwner 29 = .ok (.iconst 0, 1) := by decide +kernel
theorem dX11_isForOwner_30 : decode cX11_isForOwner 30 = .ok (.ireturn, 1) := by decide +kernel
theorem dX11_isForBelow_0 : decode cX11_isForBelow 0 = .ok (.aload_n 0, 1) := by decide +kernel
theorem dX11_isForBelow_1 : decode cX11_isForBelow 1 = .ok (.iload_n 1, 1) := by decide +kernel
theorem dX11_isForBelow_2 : decode cX11_isForBelow 2 = .ok (.iload_n 2, 1) := by decide +kernel
theorem dX11_isForBelow_3 : decode cX11_isForBelow 3 = .ok (.invokevirtual 203, 3) := by decide +kernel
theorem dX11_isForBelow_6 : decode cX11_isForBelow 6 = .ok (.aload_n 0, 1) := by decide +kernel
theorem dX11_isForBelow_7 : decode cX11_isForBelow 7 = .ok (.getfield 10, 3) := by decide +kernel
theorem dX11_isForBelow_10 : decode cX11_isForBelow 10 = .ok (.getfield 150, 3) := by decide +kernel
theorem dX11_isForBelow_13 : decode cX11_isForBelow 13 = .ok (.iload_n 1, 1) := by decide +kernel
theorem dX11_isForBelow_14 : decode cX11_isForBelow 14 = .ok (.iload_n 2, 1) := by decide +kernel
theorem dX11_isForBelow_15 : decode cX11_isForBelow 15 = .ok (.invokevirtual 311, 3) := by decide +kernel
theorem dX11_isForBelow_18 : decode cX11_isForBelow 18 = .ok (.invokestatic 325, 3) := by decide +kernel
theorem dX11_isForBelow_21 : decode cX11_isForBelow 21 = .ok (.ireturn, 1) := by decide +kernel
theorem dX11_isAllowed_0 : decode cX11_isAllowed 0 = .ok (.aload_n 0, 1) := by decide +kernel
theorem dX11_isAllowed_1 : decode cX11_isAllowed 1 = .ok (.iload_n 1, 1) := by decide +kernel
theorem dX11_isAllowed_2 : decode cX11_isAllowed 2 = .ok (.invokevirtual 88, 3) := by decide +kernel
theorem dX11_isAllowed_5 : decode cX11_isAllowed 5 = .ok (.aload_n 0, 1) := by decide +kernel
theorem dX11_isAllowed_6 : decode cX11_isAllowed 6 = .ok (.iload_n 2, 1) := by decide +kernel
theorem dX11_isAllowed_7 : decode cX11_isAllowed 7 = .ok (.invokevirtual 124, 3) := by decide +kernel
theorem dX11_isAllowed_10 : decode cX11_isAllowed 10 = .ok (.aload_n 0, 1) := by decide +kernel
theorem dX11_isAllowed_11 : decode cX11_isAllowed 11 = .ok (.iload_n 3, 1) := by decide +kernel
theorem dX11_isAllowed_12 : decode cX11_isAllowed 12 = .ok (.invokevirtual 223, 3) := by decide +kernel
theorem dX11_isAllowed_15 : decode cX11_isAllowed 15 = .ok (.aload_n 0, 1) := by decide +kernel
theorem dX11_isAllowed_16 : decode cX11_isAllowed 16 = .ok (.getfield 30, 3) := by decide +kernel
theorem dX11_isAllowed_19 : decode cX11_isAllowed 19 = .ok (.aload_n 0, 1) := by decide +kernel
theorem dX11_isAllowed_20 : decode cX11_isAllowed 20 = .ok (.getfield 10, 3) := by decide +kernel
theorem dX11_isAllowed_23 : decode cX11_isAllowed 23 = .ok (.iload_n 1, 1) := by decide +kernel
theorem dX11_isAllowed_24 : decode cX11_isAllowed 24 = .ok (.iload_n 2, 1) := by decide +kernel
theorem dX11_isAllowed_25 : decode cX11_isAllowed 25 = .ok (.iload_n 3, 1) := by decide +kernel
theorem dX11_isAllowed_26 : decode cX11_isAllowed 26 = .ok (.invokevirtual 226, 3) := by decide +kernel
theorem dX11_isAllowed_29 : decode cX11_isAllowed 29 = .ok (.ireturn, 1) := by decide +kernel
theorem dX11_isAllowedByHandingDown_0 : decode cX11_isAllowedByHandingDown 0 = .ok (.aload_n 0, 1) := by decide +kernel
theorem dX11_isAllowedByHandingDown_1 : decode cX11_isAllowedByHandingDown 1 = .ok (.iload_n 1, 1) := by decide +kernel
theorem dX11_isAllowedByHandingDown_2 : decode cX11_isAllowedByHandingDown 2 = .ok (.invokevirtual 88, 3) := by decide +kernel
theorem dX11_isAllowedByHandingDown_5 : decode cX11_isAllowedByHandingDown 5 = .ok (.aload_n 0, 1) := by decide +kernel
theorem dX11_isAllowedByHandingDown_6 : decode cX11_isAllowedByHandingDown 6 = .ok (.iload_n 2, 1) := by decide +kernel
theorem dX11_isAllowedByHandingDown_7 : decode cX11_isAllowedByHandingDown 7 = .ok (.invokevirtual 124, 3) := by decide +kernel
theorem dX11_isAllowedByHandingDown_10 : decode cX11_isAllowedByHandingDown 10 = .ok (.aload_n 0, 1) := by decide +kernel
theorem dX11_isAllowedByHandingDown_11 : decode cX11_isAllowedByHandingDown 11 = .ok (.iload_n 3, 1) := by decide +kernel
theorem dX11_isAllowedByHandingDown_12 : decode cX11_isAllowedByHandingDown 12 = .ok (.invokevirtual 223, 3) := by decide +kernel
theorem dX11_isAllowedByHandingDown_15 : decode cX11_isAllowedByHandingDown 15 = .ok (.aload_n 0, 1) := by decide +kernel
theorem dX11_isAllowedByHandingDown_16 : decode cX11_isAllowedByHandingDown 16 = .ok (.getfield 37, 3) := by decide +kernel
theorem dX11_isAllowedByHandingDown_19 : decode cX11_isAllowedByHandingDown 19 = .ok (.aload_n 0, 1) := by decide +kernel
theorem dX11_isAllowedByHandingDown_20 : decode cX11_isAllowedByHandingDown 20 = .ok (.getfield 10, 3) := by decide +kernel
theorem dX11_isAllowedByHandingDown_23 : decode cX11_isAllowedByHandingDown 23 = .ok (.iload_n 1, 1) := by decide +kernel
theorem dX11_isAllowedByHandingDown_24 : decode cX11_isAllowedByHandingDown 24 = .ok (.iload_n 2, 1) := by decide +kernel
theorem dX11_isAllowedByHandingDown_25 : decode cX11_isAllowedByHandingDown 25 = .ok (.iload_n 3, 1) := by decide +kernel
theorem dX11_isAllowedByHandingDown_26 : decode cX11_isAllowedByHandingDown 26 = .ok (.invokevirtual 328, 3) := by decide +kernel
theorem dX11_isAllowedByHandingDown_29 : decode cX11_isAllowedByHandingDown 29 = .ok (.ireturn, 1) := by decide +kernel
theorem dX11_rightsOf_0 : decode cX11_rightsOf 0 = .ok (.aload_n 0, 1) := by decide +kernel
theorem dX11_rightsOf_1 : decode cX11_rightsOf 1 = .ok (.iload_n 1, 1) := by decide +kernel
theorem dX11_rightsOf_2 : decode cX11_rightsOf 2 = .ok (.invokevirtual 88, 3) := by decide +kernel
theorem dX11_rightsOf_5 : decode cX11_rightsOf 5 = .ok (.aload_n 0, 1) := by decide +kernel
theorem dX11_rightsOf_6 : decode cX11_rightsOf 6 = .ok (.iload_n 2, 1) := by decide +kernel
theorem dX11_rightsOf_7 : decode cX11_rightsOf 7 = .ok (.invokevirtual 124, 3) := by decide +kernel
theorem dX11_rightsOf_10 : decode cX11_rightsOf 10 = .ok (.aload_n 0, 1) := by decide +kernel
theorem dX11_rightsOf_11 : decode cX11_rightsOf 11 = .ok (.getfield 30, 3) := by decide +kernel
theorem dX11_rightsOf_14 : decode cX11_rightsOf 14 = .ok (.aload_n 0, 1) := by decide +kernel
theorem dX11_rightsOf_15 : decode cX11_rightsOf 15 = .ok (.getfield 10, 3) := by decide +kernel
theorem dX11_rightsOf_18 : decode cX11_rightsOf 18 = .ok (.iload_n 1, 1) := by decide +kernel
theorem dX11_rightsOf_19 : decode cX11_rightsOf 19 = .ok (.iload_n 2, 1) := by decide +kernel
theorem dX11_rightsOf_20 : decode cX11_rightsOf 20 = .ok (.invokevirtual 239, 3) := by decide +kernel
theorem dX11_rightsOf_23 : decode cX11_rightsOf 23 = .ok (.ireturn, 1) := by decide +kernel
theorem dX11_decidingObject_0 : decode cX11_decidingObject 0 = .ok (.aload_n 0, 1) := by decide +kernel
theorem dX11_decidingObject_1 : decode cX11_decidingObject 1 = .ok (.iload_n 1, 1) := by decide +kernel
theorem dX11_decidingObject_2 : decode cX11_decidingObject 2 = .ok (.invokevirtual 88, 3) := by decide +kernel
theorem dX11_decidingObject_5 : decode cX11_decidingObject 5 = .ok (.aload_n 0, 1) := by decide +kernel
theorem dX11_decidingObject_6 : decode cX11_decidingObject 6 = .ok (.iload_n 2, 1) := by decide +kernel
theorem dX11_decidingObject_7 : decode cX11_decidingObject 7 = .ok (.invokevirtual 124, 3) := by decide +kernel
theorem dX11_decidingObject_10 : decode cX11_decidingObject 10 = .ok (.aload_n 0, 1) := by decide +kernel
theorem dX11_decidingObject_11 : decode cX11_decidingObject 11 = .ok (.iload_n 3, 1) := by decide +kernel
theorem dX11_decidingObject_12 : decode cX11_decidingObject 12 = .ok (.invokevirtual 223, 3) := by decide +kernel
theorem dX11_decidingObject_15 : decode cX11_decidingObject 15 = .ok (.aload_n 0, 1) := by decide +kernel
theorem dX11_decidingObject_16 : decode cX11_decidingObject 16 = .ok (.getfield 30, 3) := by decide +kernel
theorem dX11_decidingObject_19 : decode cX11_decidingObject 19 = .ok (.aload_n 0, 1) := by decide +kernel
theorem dX11_decidingObject_20 : decode cX11_decidingObject 20 = .ok (.getfield 10, 3) := by decide +kernel
theorem dX11_decidingObject_23 : decode cX11_decidingObject 23 = .ok (.iload_n 1, 1) := by decide +kernel
theorem dX11_decidingObject_24 : decode cX11_decidingObject 24 = .ok (.iload_n 2, 1) := by decide +kernel
theorem dX11_decidingObject_25 : decode cX11_decidingObject 25 = .ok (.iload_n 3, 1) := by decide +kernel
theorem dX11_decidingObject_26 : decode cX11_decidingObject 26 = .ok (.invokevirtual 329, 3) := by decide +kernel
theorem dX11_decidingObject_29 : decode cX11_decidingObject 29 = .ok (.istore 4, 2) := by decide +kernel
theorem dX11_decidingObject_31 : decode cX11_decidingObject 31 = .ok (.iload 4, 2) := by decide +kernel
theorem dX11_decidingObject_33 : decode cX11_decidingObject 33 = .ok (.iconst (-1), 1) := by decide +kernel
theorem dX11_decidingObject_34 : decode cX11_decidingObject 34 = .ok (.if_icmp .ne 7, 3) := by decide +kernel
theorem dX11_decidingObject_37 : decode cX11_decidingObject 37 = .ok (.iconst (-1), 1) := by decide +kernel
theorem dX11_decidingObject_38 : decode cX11_decidingObject 38 = .ok (.goto 8, 3) := by decide +kernel
theorem dX11_decidingObject_41 : decode cX11_decidingObject 41 = .ok (.iload 4, 2) := by decide +kernel
theorem dX11_decidingObject_43 : decode cX11_decidingObject 43 = .ok (.bipush 6, 2) := by decide +kernel
theorem dX11_decidingObject_45 : decode cX11_decidingObject 45 = .ok (.idiv, 1) := by decide +kernel
theorem dX11_decidingObject_46 : decode cX11_decidingObject 46 = .ok (.ireturn, 1) := by decide +kernel
theorem dX11_decidingEntry_0 : decode cX11_decidingEntry 0 = .ok (.aload_n 0, 1) := by decide +kernel
theorem dX11_decidingEntry_1 : decode cX11_decidingEntry 1 = .ok (.iload_n 1, 1) := by decide +kernel
theorem dX11_decidingEntry_2 : decode cX11_decidingEntry 2 = .ok (.invokevirtual 88, 3) := by decide +kernel
theorem dX11_decidingEntry_5 : decode cX11_decidingEntry 5 = .ok (.aload_n 0, 1) := by decide +kernel
theorem dX11_decidingEntry_6 : decode cX11_decidingEntry 6 = .ok (.iload_n 2, 1) := by decide +kernel
theorem dX11_decidingEntry_7 : decode cX11_decidingEntry 7 = .ok (.invokevirtual 124, 3) := by decide +kernel
theorem dX11_decidingEntry_10 : decode cX11_decidingEntry 10 = .ok (.aload_n 0, 1) := by decide +kernel
theorem dX11_decidingEntry_11 : decode cX11_decidingEntry 11 = .ok (.iload_n 3, 1) := by decide +kernel
theorem dX11_decidingEntry_12 : decode cX11_decidingEntry 12 = .ok (.invokevirtual 223, 3) := by decide +kernel
theorem dX11_decidingEntry_15 : decode cX11_decidingEntry 15 = .ok (.aload_n 0, 1) := by decide +kernel
theorem dX11_decidingEntry_16 : decode cX11_decidingEntry 16 = .ok (.getfield 30, 3) := by decide +kernel
theorem dX11_decidingEntry_19 : decode cX11_decidingEntry 19 = .ok (.aload_n 0, 1) := by decide +kernel
theorem dX11_decidingEntry_20 : decode cX11_decidingEntry 20 = .ok (.getfield 10, 3) := by decide +kernel
theorem dX11_decidingEntry_23 : decode cX11_decidingEntry 23 = .ok (.iload_n 1, 1) := by decide +kernel
theorem dX11_decidingEntry_24 : decode cX11_decidingEntry 24 = .ok (.iload_n 2, 1) := by decide +kernel
theorem dX11_decidingEntry_25 : decode cX11_decidingEntry 25 = .ok (.iload_n 3, 1) := by decide +kernel
theorem dX11_decidingEntry_26 : decode cX11_decidingEntry 26 = .ok (.invokevirtual 329, 3) := by decide +kernel
theorem dX11_decidingEntry_29 : decode cX11_decidingEntry 29 = .ok (.istore 4, 2) := by decide +kernel
theorem dX11_decidingEntry_31 : decode cX11_decidingEntry 31 = .ok (.iload 4, 2) := by decide +kernel
theorem dX11_decidingEntry_33 : decode cX11_decidingEntry 33 = .ok (.iconst (-1), 1) := by decide +kernel
theorem dX11_decidingEntry_34 : decode cX11_decidingEntry 34 = .ok (.if_icmp .ne 7, 3) := by decide +kernel
theorem dX11_decidingEntry_37 : decode cX11_decidingEntry 37 = .ok (.iconst (-1), 1) := by decide +kernel
theorem dX11_decidingEntry_38 : decode cX11_decidingEntry 38 = .ok (.goto 8, 3) := by decide +kernel
theorem dX11_decidingEntry_41 : decode cX11_decidingEntry 41 = .ok (.iload 4, 2) := by decide +kernel
theorem dX11_decidingEntry_43 : decode cX11_decidingEntry 43 = .ok (.bipush 6, 2) := by decide +kernel
theorem dX11_decidingEntry_45 : decode cX11_decidingEntry 45 = .ok (.irem, 1) := by decide +kernel
theorem dX11_decidingEntry_46 : decode cX11_decidingEntry 46 = .ok (.ireturn, 1) := by decide +kernel
theorem dX11_isStoppedByMask_0 : decode cX11_isStoppedByMask 0 = .ok (.aload_n 0, 1) := by decide +kernel
theorem dX11_isStoppedByMask_1 : decode cX11_isStoppedByMask 1 = .ok (.iload_n 1, 1) := by decide +kernel
theorem dX11_isStoppedByMask_2 : decode cX11_isStoppedByMask 2 = .ok (.invokevirtual 88, 3) := by decide +kernel
theorem dX11_isStoppedByMask_5 : decode cX11_isStoppedByMask 5 = .ok (.aload_n 0, 1) := by decide +kernel
theorem dX11_isStoppedByMask_6 : decode cX11_isStoppedByMask 6 = .ok (.iload_n 2, 1) := by decide +kernel
theorem dX11_isStoppedByMask_7 : decode cX11_isStoppedByMask 7 = .ok (.invokevirtual 124, 3) := by decide +kernel
theorem dX11_isStoppedByMask_10 : decode cX11_isStoppedByMask 10 = .ok (.aload_n 0, 1) := by decide +kernel
theorem dX11_isStoppedByMask_11 : decode cX11_isStoppedByMask 11 = .ok (.iload_n 3, 1) := by decide +kernel
theorem dX11_isStoppedByMask_12 : decode cX11_isStoppedByMask 12 = .ok (.invokevirtual 223, 3) := by decide +kernel
theorem dX11_isStoppedByMask_15 : decode cX11_isStoppedByMask 15 = .ok (.aload_n 0, 1) := by decide +kernel
theorem dX11_isStoppedByMask_16 : decode cX11_isStoppedByMask 16 = .ok (.getfield 30, 3) := by decide +kernel
theorem dX11_isStoppedByMask_19 : decode cX11_isStoppedByMask 19 = .ok (.aload_n 0, 1) := by decide +kernel
theorem dX11_isStoppedByMask_20 : decode cX11_isStoppedByMask 20 = .ok (.getfield 10, 3) := by decide +kernel
theorem dX11_isStoppedByMask_23 : decode cX11_isStoppedByMask 23 = .ok (.iload_n 1, 1) := by decide +kernel
theorem dX11_isStoppedByMask_24 : decode cX11_isStoppedByMask 24 = .ok (.iload_n 2, 1) := by decide +kernel
theorem dX11_isStoppedByMask_25 : decode cX11_isStoppedByMask 25 = .ok (.iload_n 3, 1) := by decide +kernel
theorem dX11_isStoppedByMask_26 : decode cX11_isStoppedByMask 26 = .ok (.invokevirtual 333, 3) := by decide +kernel
theorem dX11_isStoppedByMask_29 : decode cX11_isStoppedByMask 29 = .ok (.ireturn, 1) := by decide +kernel
theorem dX11_usersWith_0 : decode cX11_usersWith 0 = .ok (.aload_n 0, 1) := by decide +kernel
theorem dX11_usersWith_1 : decode cX11_usersWith 1 = .ok (.iload_n 1, 1) := by decide +kernel
theorem dX11_usersWith_2 : decode cX11_usersWith 2 = .ok (.invokevirtual 124, 3) := by decide +kernel
theorem dX11_usersWith_5 : decode cX11_usersWith 5 = .ok (.aload_n 0, 1) := by decide +kernel
theorem dX11_usersWith_6 : decode cX11_usersWith 6 = .ok (.iload_n 2, 1) := by decide +kernel
theorem dX11_usersWith_7 : decode cX11_usersWith 7 = .ok (.invokevirtual 223, 3) := by decide +kernel
theorem dX11_usersWith_10 : decode cX11_usersWith 10 = .ok (.aload_n 0, 1) := by decide +kernel
theorem dX11_usersWith_11 : decode cX11_usersWith 11 = .ok (.getfield 30, 3) := by decide +kernel
theorem dX11_usersWith_14 : decode cX11_usersWith 14 = .ok (.aload_n 0, 1) := by decide +kernel
theorem dX11_usersWith_15 : decode cX11_usersWith 15 = .ok (.getfield 10, 3) := by decide +kernel
theorem dX11_usersWith_18 : decode cX11_usersWith 18 = .ok (.iload_n 1, 1) := by decide +kernel
theorem dX11_usersWith_19 : decode cX11_usersWith 19 = .ok (.iload_n 2, 1) := by decide +kernel
theorem dX11_usersWith_20 : decode cX11_usersWith 20 = .ok (.invokevirtual 336, 3) := by decide +kernel
theorem dX11_usersWith_23 : decode cX11_usersWith 23 = .ok (.ireturn, 1) := by decide +kernel
theorem dX11_rightsThrough_0 : decode cX11_rightsThrough 0 = .ok (.aload_n 0, 1) := by decide +kernel
theorem dX11_rightsThrough_1 : decode cX11_rightsThrough 1 = .ok (.iload_n 1, 1) := by decide +kernel
theorem dX11_rightsThrough_2 : decode cX11_rightsThrough 2 = .ok (.invokevirtual 88, 3) := by decide +kernel
theorem dX11_rightsThrough_5 : decode cX11_rightsThrough 5 = .ok (.aload_n 0, 1) := by decide +kernel
theorem dX11_rightsThrough_6 : decode cX11_rightsThrough 6 = .ok (.iload_n 2, 1) := by decide +kernel
theorem dX11_rightsThrough_7 : decode cX11_rightsThrough 7 = .ok (.invokevirtual 92, 3) := by decide +kernel
theorem dX11_rightsThrough_10 : decode cX11_rightsThrough 10 = .ok (.aload_n 0, 1) := by decide +kernel
theorem dX11_rightsThrough_11 : decode cX11_rightsThrough 11 = .ok (.getfield 30, 3) := by decide +kernel
theorem dX11_rightsThrough_14 : decode cX11_rightsThrough 14 = .ok (.aload_n 0, 1) := by decide +kernel
theorem dX11_rightsThrough_15 : decode cX11_rightsThrough 15 = .ok (.getfield 10, 3) := by decide +kernel
theorem dX11_rightsThrough_18 : decode cX11_rightsThrough 18 = .ok (.iload_n 1, 1) := by decide +kernel
theorem dX11_rightsThrough_19 : decode cX11_rightsThrough 19 = .ok (.iload_n 2, 1) := by decide +kernel
theorem dX11_rightsThrough_20 : decode cX11_rightsThrough 20 = .ok (.invokevirtual 339, 3) := by decide +kernel
theorem dX11_rightsThrough_23 : decode cX11_rightsThrough 23 = .ok (.ireturn, 1) := by decide +kernel
theorem dX11_isNeedless_0 : decode cX11_isNeedless 0 = .ok (.aload_n 0, 1) := by decide +kernel
theorem dX11_isNeedless_1 : decode cX11_isNeedless 1 = .ok (.iload_n 1, 1) := by decide +kernel
theorem dX11_isNeedless_2 : decode cX11_isNeedless 2 = .ok (.iload_n 2, 1) := by decide +kernel
theorem dX11_isNeedless_3 : decode cX11_isNeedless 3 = .ok (.invokevirtual 203, 3) := by decide +kernel
theorem dX11_isNeedless_6 : decode cX11_isNeedless 6 = .ok (.aload_n 0, 1) := by decide +kernel
theorem dX11_isNeedless_7 : decode cX11_isNeedless 7 = .ok (.getfield 30, 3) := by decide +kernel
theorem dX11_isNeedless_10 : decode cX11_isNeedless 10 = .ok (.aload_n 0, 1) := by decide +kernel
theorem dX11_isNeedless_11 : decode cX11_isNeedless 11 = .ok (.getfield 10, 3) := by decide +kernel
theorem dX11_isNeedless_14 : decode cX11_isNeedless 14 = .ok (.invokevirtual 213, 3) := by decide +kernel
theorem dX11_isNeedless_17 : decode cX11_isNeedless 17 = .ok (.aload_n 0, 1) := by decide +kernel
theorem dX11_isNeedless_18 : decode cX11_isNeedless 18 = .ok (.getfield 10, 3) := by decide +kernel
theorem dX11_isNeedless_21 : decode cX11_isNeedless 21 = .ok (.getfield 150, 3) := by decide +kernel
theorem dX11_isNeedless_24 : decode cX11_isNeedless 24 = .ok (.iload_n 1, 1) := by decide +kernel
theorem dX11_isNeedless_25 : decode cX11_isNeedless 25 = .ok (.iload_n 2, 1) := by decide +kernel
theorem dX11_isNeedless_26 : decode cX11_isNeedless 26 = .ok (.invokevirtual 206, 3) := by decide +kernel
theorem dX11_isNeedless_29 : decode cX11_isNeedless 29 = .ok (.istore_n 3, 1) := by decide +kernel
theorem dX11_isNeedless_30 : decode cX11_isNeedless 30 = .ok (.aload_n 0, 1) := by decide +kernel
theorem dX11_isNeedless_31 : decode cX11_isNeedless 31 = .ok (.getfield 30, 3) := by decide +kernel
theorem dX11_isNeedless_34 : decode cX11_isNeedless 34 = .ok (.aload_n 0, 1) := by decide +kernel
theorem dX11_isNeedless_35 : decode cX11_isNeedless 35 = .ok (.getfield 10, 3) := by decide +kernel
theorem dX11_isNeedless_38 : decode cX11_isNeedless 38 = .ok (.invokevirtual 219, 3) := by decide +kernel
theorem dX11_isNeedless_41 : decode cX11_isNeedless 41 = .ok (.istore 4, 2) := by decide +kernel
theorem dX11_isNeedless_43 : decode cX11_isNeedless 43 = .ok (.aload_n 0, 1) := by decide +kernel
theorem dX11_isNeedless_44 : decode cX11_isNeedless 44 = .ok (.getfield 10, 3) := by decide +kernel
theorem dX11_isNeedless_47 : decode cX11_isNeedless 47 = .ok (.getfield 150, 3) := by decide +kernel
theorem dX11_isNeedless_50 : decode cX11_isNeedless 50 = .ok (.iload_n 1, 1) := by decide +kernel
theorem dX11_isNeedless_51 : decode cX11_isNeedless 51 = .ok (.iload_n 2, 1) := by decide +kernel
theorem dX11_isNeedless_52 : decode cX11_isNeedless 52 = .ok (.iload_n 3, 1) := by decide +kernel
theorem dX11_isNeedless_53 : decode cX11_isNeedless 53 = .ok (.invokevirtual 216, 3) := by decide +kernel
theorem dX11_isNeedless_56 : decode cX11_isNeedless 56 = .ok (.iload 4, 2) := by decide +kernel
theorem dX11_isNeedless_58 : decode cX11_isNeedless 58 = .ok (.ifCond .ne 7, 3) := by decide +kernel
theorem dX11_isNeedless_61 : decode cX11_isNeedless 61 = .ok (.iconst 1, 1) := by decide +kernel
theorem dX11_isNeedless_62 : decode cX11_isNeedless 62 = .ok (.goto 4, 3) := by decide +kernel
theorem dX11_isNeedless_65 : decode cX11_isNeedless 65 = .ok (.iconst 0, 1) := by decide +kernel
theorem dX11_isNeedless_66 : decode cX11_isNeedless 66 = .ok (.ireturn, 1) := by decide +kernel
theorem dX11_allRights_0 : decode cX11_allRights 0 = .ok (.aload_n 0, 1) := by decide +kernel
theorem dX11_allRights_1 : decode cX11_allRights 1 = .ok (.getfield 30, 3) := by decide +kernel
theorem dX11_allRights_4 : decode cX11_allRights 4 = .ok (.aload_n 0, 1) := by decide +kernel
theorem dX11_allRights_5 : decode cX11_allRights 5 = .ok (.getfield 10, 3) := by decide +kernel
theorem dX11_allRights_8 : decode cX11_allRights 8 = .ok (.invokevirtual 342, 3) := by decide +kernel
theorem dX11_allRights_11 : decode cX11_allRights 11 = .ok (.ireturn, 1) := by decide +kernel
theorem dX11_openness_0 : decode cX11_openness 0 = .ok (.iconst 4, 1) := by decide +kernel
theorem dX11_openness_1 : decode cX11_openness 1 = .ok (.aload_n 0, 1) := by decide +kernel
theorem dX11_openness_2 : decode cX11_openness 2 = .ok (.getfield 10, 3) := by decide +kernel
theorem dX11_openness_5 : decode cX11_openness 5 = .ok (.getfield 55, 3) := by decide +kernel
theorem dX11_openness_8 : decode cX11_openness 8 = .ok (.getfield 59, 3) := by decide +kernel
theorem dX11_openness_11 : decode cX11_openness 11 = .ok (.imul, 1) := by decide +kernel
theorem dX11_openness_12 : decode cX11_openness 12 = .ok (.aload_n 0, 1) := by decide +kernel
theorem dX11_openness_13 : decode cX11_openness 13 = .ok (.getfield 10, 3) := by decide +kernel
theorem dX11_openness_16 : decode cX11_openness 16 = .ok (.getfield 127, 3) := by decide +kernel
theorem dX11_openness_19 : decode cX11_openness 19 = .ok (.invokevirtual 159, 3) := by decide +kernel
theorem dX11_openness_22 : decode cX11_openness 22 = .ok (.imul, 1) := by decide +kernel
theorem dX11_openness_23 : decode cX11_openness 23 = .ok (.istore_n 1, 1) := by decide +kernel
theorem dX11_openness_24 : decode cX11_openness 24 = .ok (.iload_n 1, 1) := by decide +kernel
theorem dX11_openness_25 : decode cX11_openness 25 = .ok (.ifCond .gt 7, 3) := by decide +kernel
theorem dX11_openness_28 : decode cX11_openness 28 = .ok (.dconst 0, 1) := by decide +kernel
theorem dX11_openness_29 : decode cX11_openness 29 = .ok (.goto 18, 3) := by decide +kernel
theorem dX11_openness_32 : decode cX11_openness 32 = .ok (.aload_n 0, 1) := by decide +kernel
theorem dX11_openness_33 : decode cX11_openness 33 = .ok (.getfield 30, 3) := by decide +kernel
theorem dX11_openness_36 : decode cX11_openness 36 = .ok (.aload_n 0, 1) := by decide +kernel
theorem dX11_openness_37 : decode cX11_openness 37 = .ok (.getfield 10, 3) := by decide +kernel
theorem dX11_openness_40 : decode cX11_openness 40 = .ok (.invokevirtual 342, 3) := by decide +kernel
theorem dX11_openness_43 : decode cX11_openness 43 = .ok (.i2d, 1) := by decide +kernel
theorem dX11_openness_44 : decode cX11_openness 44 = .ok (.iload_n 1, 1) := by decide +kernel
theorem dX11_openness_45 : decode cX11_openness 45 = .ok (.i2d, 1) := by decide +kernel
theorem dX11_openness_46 : decode cX11_openness 46 = .ok (.ddiv, 1) := by decide +kernel
theorem dX11_openness_47 : decode cX11_openness 47 = .ok (.dreturn, 1) := by decide +kernel
theorem dX11_requests_0 : decode cX11_requests 0 = .ok (.aload_n 0, 1) := by decide +kernel
theorem dX11_requests_1 : decode cX11_requests 1 = .ok (.getfield 10, 3) := by decide +kernel
theorem dX11_requests_4 : decode cX11_requests 4 = .ok (.getfield 230, 3) := by decide +kernel
theorem dX11_requests_7 : decode cX11_requests 7 = .ok (.getfield 345, 3) := by decide +kernel
theorem dX11_requests_10 : decode cX11_requests 10 = .ok (.ireturn, 1) := by decide +kernel
theorem dX11_refusals_0 : decode cX11_refusals 0 = .ok (.aload_n 0, 1) := by decide +kernel
theorem dX11_refusals_1 : decode cX11_refusals 1 = .ok (.getfield 10, 3) := by decide +kernel
theorem dX11_refusals_4 : decode cX11_refusals 4 = .ok (.getfield 230, 3) := by decide +kernel
theorem dX11_refusals_7 : decode cX11_refusals 7 = .ok (.getfield 348, 3) := by decide +kernel
theorem dX11_refusals_10 : decode cX11_refusals 10 = .ok (.ireturn, 1) := by decide +kernel
theorem dX11_userOfRequest_0 : decode cX11_userOfRequest 0 = .ok (.aload_n 0, 1) := by decide +kernel
theorem dX11_userOfRequest_1 : decode cX11_userOfRequest 1 = .ok (.iload_n 1, 1) := by decide +kernel
theorem dX11_userOfRequest_2 : decode cX11_userOfRequest 2 = .ok (.invokevirtual 351, 3) := by decide +kernel
theorem dX11_userOfRequest_5 : decode cX11_userOfRequest 5 = .ok (.aload_n 0, 1) := by decide +kernel
theorem dX11_userOfRequest_6 : decode cX11_userOfRequest 6 = .ok (.getfield 10, 3) := by decide +kernel
theorem dX11_userOfRequest_9 : decode cX11_userOfRequest 9 = .ok (.getfield 230, 3) := by decide +kernel
theorem dX11_userOfRequest_12 : decode cX11_userOfRequest 12 = .ok (.iload_n 1, 1) := by decide +kernel
theorem dX11_userOfRequest_13 : decode cX11_userOfRequest 13 = .ok (.invokevirtual 354, 3) := by decide +kernel
theorem dX11_userOfRequest_16 : decode cX11_userOfRequest 16 = .ok (.ireturn, 1) := by decide +kernel
theorem dX11_objectOfRequest_0 : decode cX11_objectOfRequest 0 = .ok (.aload_n 0, 1) := by decide +kernel
theorem dX11_objectOfRequest_1 : decode cX11_objectOfRequest 1 = .ok (.iload_n 1, 1) := by decide +kernel
theorem dX11_objectOfRequest_2 : decode cX11_objectOfRequest 2 = .ok (.invokevirtual 351, 3) := by decide +kernel
theorem dX11_objectOfRequest_5 : decode cX11_objectOfRequest 5 = .ok (.aload_n 0, 1) := by decide +kernel
theorem dX11_objectOfRequest_6 : decode cX11_objectOfRequest 6 = .ok (.getfield 10, 3) := by decide +kernel
theorem dX11_objectOfRequest_9 : decode cX11_objectOfRequest 9 = .ok (.getfield 230, 3) := by decide +kernel
theorem dX11_objectOfRequest_12 : decode cX11_objectOfRequest 12 = .ok (.iload_n 1, 1) := by decide +kernel
theorem dX11_objectOfRequest_13 : decode cX11_objectOfRequest 13 = .ok (.invokevirtual 357, 3) := by decide +kernel
theorem dX11_objectOfRequest_16 : decode cX11_objectOfRequest 16 = .ok (.ireturn, 1) := by decide +kernel
theorem dX11_wasAllowed_0 : decode cX11_wasAllowed 0 = .ok (.aload_n 0, 1) := by decide +kernel
theorem dX11_wasAllowed_1 : decode cX11_wasAllowed 1 = .ok (.iload_n 1, 1) := by decide +kernel
theorem dX11_wasAllowed_2 : decode cX11_wasAllowed 2 = .ok (.invokevirtual 351, 3) := by decide +kernel
theorem dX11_wasAllowed_5 : decode cX11_wasAllowed 5 = .ok (.aload_n 0, 1) := by decide +kernel
theorem dX11_wasAllowed_6 : decode cX11_wasAllowed 6 = .ok (.getfield 10, 3) := by decide +kernel
theorem dX11_wasAllowed_9 : decode cX11_wasAllowed 9 = .ok (.getfield 230, 3) := by decide +kernel
theorem dX11_wasAllowed_12 : decode cX11_wasAllowed 12 = .ok (.iload_n 1, 1) := by decide +kernel
theorem dX11_wasAllowed_13 : decode cX11_wasAllowed 13 = .ok (.invokevirtual 360, 3) := by decide +kernel
theorem dX11_wasAllowed_16 : decode cX11_wasAllowed 16 = .ok (.ireturn, 1) := by decide +kernel
theorem dX11_requireUser_0 : decode cX11_requireUser 0 = .ok (.aload_n 0, 1) := by decide +kernel
theorem dX11_requireUser_1 : decode cX11_requireUser 1 = .ok (.getfield 10, 3) := by decide +kernel
theorem dX11_requireUser_4 : decode cX11_requireUser 4 = .ok (.getfield 55, 3) := by decide +kernel
theorem dX11_requireUser_7 : decode cX11_requireUser 7 = .ok (.iload_n 1, 1) := by decide +kernel
theorem dX11_requireUser_8 : decode cX11_requireUser 8 = .ok (.invokevirtual 379, 3) := by decide +kernel
theorem dX11_requireUser_11 : decode cX11_requireUser 11 = .ok (.ifCond .ne 14, 3) := by decide +kernel
theorem dX11_requireUser_14 : decode cX11_requireUser 14 = .ok (.new 382, 3) := by decide +kernel
theorem dX11_requireUser_17 : decode cX11_requireUser 17 = .ok (.dup, 1) := by decide +kernel
theorem dX11_requireUser_18 : decode cX11_requireUser 18 = .ok (.ldc_w 384, 3) := by decide +kernel
theorem dX11_requireUser_21 : decode cX11_requireUser 21 = .ok (.invokespecial 386, 3) := by decide +kernel
theorem dX11_requireUser_24 : decode cX11_requireUser 24 = .ok (.athrow, 1) := by decide +kernel
theorem dX11_requireUser_25 : decode cX11_requireUser 25 = .ok (.return_, 1) := by decide +kernel
theorem dX11_requireGroup_0 : decode cX11_requireGroup 0 = .ok (.aload_n 0, 1) := by decide +kernel
theorem dX11_requireGroup_1 : decode cX11_requireGroup 1 = .ok (.getfield 10, 3) := by decide +kernel
theorem dX11_requireGroup_4 : decode cX11_requireGroup 4 = .ok (.getfield 55, 3) := by decide +kernel
theorem dX11_requireGroup_7 : decode cX11_requireGroup 7 = .ok (.iload_n 1, 1) := by decide +kernel
theorem dX11_requireGroup_8 : decode cX11_requireGroup 8 = .ok (.invokevirtual 387, 3) := by decide +kernel
theorem dX11_requireGroup_11 : decode cX11_requireGroup 11 = .ok (.ifCond .ne 14, 3) := by decide +kernel
theorem dX11_requireGroup_14 : decode cX11_requireGroup 14 = .ok (.new 382, 3) := by decide +kernel
theorem dX11_requireGroup_17 : decode cX11_requireGroup 17 = .ok (.dup, 1) := by decide +kernel
theorem dX11_requireGroup_18 : decode cX11_requireGroup 18 = .ok (.ldc_w 390, 3) := by decide +kernel
theorem dX11_requireGroup_21 : decode cX11_requireGroup 21 = .ok (.invokespecial 386, 3) := by decide +kernel
theorem dX11_requireGroup_24 : decode cX11_requireGroup 24 = .ok (.athrow, 1) := by decide +kernel
theorem dX11_requireGroup_25 : decode cX11_requireGroup 25 = .ok (.return_, 1) := by decide +kernel
theorem dX11_requireObject_0 : decode cX11_requireObject 0 = .ok (.aload_n 0, 1) := by decide +kernel
theorem dX11_requireObject_1 : decode cX11_requireObject 1 = .ok (.getfield 10, 3) := by decide +kernel
theorem dX11_requireObject_4 : decode cX11_requireObject 4 = .ok (.getfield 127, 3) := by decide +kernel
theorem dX11_requireObject_7 : decode cX11_requireObject 7 = .ok (.iload_n 1, 1) := by decide +kernel
theorem dX11_requireObject_8 : decode cX11_requireObject 8 = .ok (.invokevirtual 308, 3) := by decide +kernel
theorem dX11_requireObject_11 : decode cX11_requireObject 11 = .ok (.ifCond .ne 14, 3) := by decide +kernel
theorem dX11_requireObject_14 : decode cX11_requireObject 14 = .ok (.new 382, 3) := by decide +kernel
theorem dX11_requireObject_17 : decode cX11_requireObject 17 = .ok (.dup, 1) := by decide +kernel
theorem dX11_requireObject_18 : decode cX11_requireObject 18 = .ok (.ldc_w 392, 3) := by decide +kernel
theorem dX11_requireObject_21 : decode cX11_requireObject 21 = .ok (.invokespecial 386, 3) := by decide +kernel
theorem dX11_requireObject_24 : decode cX11_requireObject 24 = .ok (.athrow, 1) := by decide +kernel
theorem dX11_requireObject_25 : decode cX11_requireObject 25 = .ok (.return_, 1) := by decide +kernel
theorem dX11_requireEntry_0 : decode cX11_requireEntry 0 = .ok (.aload_n 0, 1) := by decide +kernel
theorem dX11_requireEntry_1 : decode cX11_requireEntry 1 = .ok (.iload_n 1, 1) := by decide +kernel
theorem dX11_requireEntry_2 : decode cX11_requireEntry 2 = .ok (.invokevirtual 124, 3) := by decide +kernel
theorem dX11_requireEntry_5 : decode cX11_requireEntry 5 = .ok (.iload_n 2, 1) := by decide +kernel
theorem dX11_requireEntry_6 : decode cX11_requireEntry 6 = .ok (.aload_n 0, 1) := by decide +kernel
theorem dX11_requireEntry_7 : decode cX11_requireEntry 7 = .ok (.getfield 10, 3) := by decide +kernel
theorem dX11_requireEntry_10 : decode cX11_requireEntry 10 = .ok (.getfield 150, 3) := by decide +kernel
theorem dX11_requireEntry_13 : decode cX11_requireEntry 13 = .ok (.iload_n 1, 1) := by decide +kernel
theorem dX11_requireEntry_14 : decode cX11_requireEntry 14 = .ok (.invokevirtual 210, 3) := by decide +kernel
theorem dX11_requireEntry_17 : decode cX11_requireEntry 17 = .ok (.invokestatic 394, 3) := by decide +kernel
theorem dX11_requireEntry_20 : decode cX11_requireEntry 20 = .ok (.ifCond .ne 14, 3) := by decide +kernel
theorem dX11_requireEntry_23 : decode cX11_requireEntry 23 = .ok (.new 382, 3) := by decide +kernel
theorem dX11_requireEntry_26 : decode cX11_requireEntry 26 = .ok (.dup, 1) := by decide +kernel
theorem dX11_requireEntry_27 : decode cX11_requireEntry 27 = .ok (.ldc_w 397, 3) := by decide +kernel
theorem dX11_requireEntry_30 : decode cX11_requireEntry 30 = .ok (.invokespecial 386, 3) := by decide +kernel
theorem dX11_requireEntry_33 : decode cX11_requireEntry 33 = .ok (.athrow, 1) := by decide +kernel
theorem dX11_requireEntry_34 : decode cX11_requireEntry 34 = .ok (.return_, 1) := by decide +kernel
theorem dX11_requireRequest_0 : decode cX11_requireRequest 0 = .ok (.iload_n 1, 1) := by decide +kernel
theorem dX11_requireRequest_1 : decode cX11_requireRequest 1 = .ok (.aload_n 0, 1) := by decide +kernel
theorem dX11_requireRequest_2 : decode cX11_requireRequest 2 = .ok (.getfield 10, 3) := by decide +kernel
theorem dX11_requireRequest_5 : decode cX11_requireRequest 5 = .ok (.getfield 230, 3) := by decide +kernel
theorem dX11_requireRequest_8 : decode cX11_requireRequest 8 = .ok (.invokevirtual 399, 3) := by decide +kernel
theorem dX11_requireRequest_11 : decode cX11_requireRequest 11 = .ok (.invokestatic 394, 3) := by decide +kernel
theorem dX11_requireRequest_14 : decode cX11_requireRequest 14 = .ok (.ifCond .ne 14, 3) := by decide +kernel
theorem dX11_requireRequest_17 : decode cX11_requireRequest 17 = .ok (.new 382, 3) := by decide +kernel
theorem dX11_requireRequest_20 : decode cX11_requireRequest 20 = .ok (.dup, 1) := by decide +kernel
theorem dX11_requireRequest_21 : decode cX11_requireRequest 21 = .ok (.ldc_w 402, 3) := by decide +kernel
theorem dX11_requireRequest_24 : decode cX11_requireRequest 24 = .ok (.invokespecial 386, 3) := by decide +kernel
theorem dX11_requireRequest_27 : decode cX11_requireRequest 27 = .ok (.athrow, 1) := by decide +kernel
theorem dX11_requireRequest_28 : decode cX11_requireRequest 28 = .ok (.return_, 1) := by decide +kernel
theorem dX11_requireRight_0 : decode cX11_requireRight 0 = .ok (.iload_n 1, 1) := by decide +kernel
theorem dX11_requireRight_1 : decode cX11_requireRight 1 = .ok (.iconst 4, 1) := by decide +kernel
theorem dX11_requireRight_2 : decode cX11_requireRight 2 = .ok (.invokestatic 394, 3) := by decide +kernel
theorem dX11_requireRight_5 : decode cX11_requireRight 5 = .ok (.ifCond .ne 14, 3) := by decide +kernel
theorem dX11_requireRight_8 : decode cX11_requireRight 8 = .ok (.new 252, 3) := by decide +kernel
theorem dX11_requireRight_11 : decode cX11_requireRight 11 = .ok (.dup, 1) := by decide +kernel
theorem dX11_requireRight_12 : decode cX11_requireRight 12 = .ok (.ldc_w 404, 3) := by decide +kernel
theorem dX11_requireRight_15 : decode cX11_requireRight 15 = .ok (.invokespecial 256, 3) := by decide +kernel
theorem dX11_requireRight_18 : decode cX11_requireRight 18 = .ok (.athrow, 1) := by decide +kernel
theorem dX11_requireRight_19 : decode cX11_requireRight 19 = .ok (.return_, 1) := by decide +kernel
theorem dX11_requireRights_0 : decode cX11_requireRights 0 = .ok (.iload_n 1, 1) := by decide +kernel
theorem dX11_requireRights_1 : decode cX11_requireRights 1 = .ok (.iload_n 2, 1) := by decide +kernel
theorem dX11_requireRights_2 : decode cX11_requireRights 2 = .ok (.if_icmp .lt 9, 3) := by decide +kernel
theorem dX11_requireRights_5 : decode cX11_requireRights 5 = .ok (.iload_n 1, 1) := by decide +kernel
theorem dX11_requireRights_6 : decode cX11_requireRights 6 = .ok (.bipush 15, 2) := by decide +kernel
theorem dX11_requireRights_8 : decode cX11_requireRights 8 = .ok (.if_icmp .le 14, 3) := by decide +kernel
theorem dX11_requireRights_11 : decode cX11_requireRights 11 = .ok (.new 252, 3) := by decide +kernel
theorem dX11_requireRights_14 : decode cX11_requireRights 14 = .ok (.dup, 1) := by decide +kernel
theorem dX11_requireRights_15 : decode cX11_requireRights 15 = .ok (.ldc_w 406, 3) := by decide +kernel
theorem dX11_requireRights_18 : decode cX11_requireRights 18 = .ok (.invokespecial 256, 3) := by decide +kernel
theorem dX11_requireRights_21 : decode cX11_requireRights 21 = .ok (.athrow, 1) := by decide +kernel
theorem dX11_requireRights_22 : decode cX11_requireRights 22 = .ok (.return_, 1) := by decide +kernel
theorem dX11_requireRoom_0 : decode cX11_requireRoom 0 = .ok (.aload_n 0, 1) := by decide +kernel
theorem dX11_requireRoom_1 : decode cX11_requireRoom 1 = .ok (.getfield 10, 3) := by decide +kernel
theorem dX11_requireRoom_4 : decode cX11_requireRoom 4 = .ok (.getfield 150, 3) := by decide +kernel
theorem dX11_requireRoom_7 : decode cX11_requireRoom 7 = .ok (.iload_n 1, 1) := by decide +kernel
theorem dX11_requireRoom_8 : decode cX11_requireRoom 8 = .ok (.invokevirtual 210, 3) := by decide +kernel
theorem dX11_requireRoom_11 : decode cX11_requireRoom 11 = .ok (.bipush 6, 2) := by decide +kernel
theorem dX11_requireRoom_13 : decode cX11_requireRoom 13 = .ok (.if_icmp .lt 14, 3) := by decide +kernel
theorem dX11_requireRoom_16 : decode cX11_requireRoom 16 = .ok (.new 65, 3) := by decide +kernel
theorem dX11_requireRoom_19 : decode cX11_requireRoom 19 = .ok (.dup, 1) := by decide +kernel
theorem dX11_requireRoom_20 : decode cX11_requireRoom 20 = .ok (.ldc_w 410, 3) := by decide +kernel
theorem dX11_requireRoom_23 : decode cX11_requireRoom 23 = .ok (.invokespecial 69, 3) := by decide +kernel
theorem dX11_requireRoom_26 : decode cX11_requireRoom 26 = .ok (.athrow, 1) := by decide +kernel
theorem dX11_requireRoom_27 : decode cX11_requireRoom 27 = .ok (.return_, 1) := by decide +kernel
theorem dX11_addLast_0 : decode cX11_addLast 0 = .ok (.aload_n 0, 1) := by decide +kernel
theorem dX11_addLast_1 : decode cX11_addLast 1 = .ok (.iload 4, 2) := by decide +kernel
theorem dX11_addLast_3 : decode cX11_addLast 3 = .ok (.iconst 1, 1) := by decide +kernel
theorem dX11_addLast_4 : decode cX11_addLast 4 = .ok (.invokevirtual 180, 3) := by decide +kernel
theorem dX11_addLast_7 : decode cX11_addLast 7 = .ok (.aload_n 0, 1) := by decide +kernel
theorem dX11_addLast_8 : decode cX11_addLast 8 = .ok (.iload_n 1, 1) := by decide +kernel
theorem dX11_addLast_9 : decode cX11_addLast 9 = .ok (.invokevirtual 245, 3) := by decide +kernel
theorem dX11_addLast_12 : decode cX11_addLast 12 = .ok (.aload_n 0, 1) := by decide +kernel
theorem dX11_addLast_13 : decode cX11_addLast 13 = .ok (.getfield 19, 3) := by decide +kernel
theorem dX11_addLast_16 : decode cX11_addLast 16 = .ok (.aload_n 0, 1) := by decide +kernel
theorem dX11_addLast_17 : decode cX11_addLast 17 = .ok (.getfield 10, 3) := by decide +kernel
theorem dX11_addLast_20 : decode cX11_addLast 20 = .ok (.invokevirtual 72, 3) := by decide +kernel
theorem dX11_addLast_23 : decode cX11_addLast 23 = .ok (.iload_n 2, 1) := by decide +kernel
theorem dX11_addLast_24 : decode cX11_addLast 24 = .ok (.iload_n 3, 1) := by decide +kernel
theorem dX11_addLast_25 : decode cX11_addLast 25 = .ok (.iload 4, 2) := by decide +kernel
theorem dX11_addLast_27 : decode cX11_addLast 27 = .ok (.iload 5, 2) := by decide +kernel
theorem dX11_addLast_29 : decode cX11_addLast 29 = .ok (.iload 6, 2) := by decide +kernel
theorem dX11_addLast_31 : decode cX11_addLast 31 = .ok (.invokestatic 248, 3) := by decide +kernel
theorem dX11_addLast_34 : decode cX11_addLast 34 = .ok (.istore 7, 2) := by decide +kernel
theorem dX11_addLast_36 : decode cX11_addLast 36 = .ok (.aload_n 0, 1) := by decide +kernel
theorem dX11_addLast_37 : decode cX11_addLast 37 = .ok (.getfield 10, 3) := by decide +kernel
theorem dX11_addLast_40 : decode cX11_addLast 40 = .ok (.getfield 150, 3) := by decide +kernel
theorem dX11_addLast_43 : decode cX11_addLast 43 = .ok (.iload_n 1, 1) := by decide +kernel
theorem dX11_addLast_44 : decode cX11_addLast 44 = .ok (.aload_n 0, 1) := by decide +kernel
theorem dX11_addLast_45 : decode cX11_addLast 45 = .ok (.getfield 10, 3) := by decide +kernel
theorem dX11_addLast_48 : decode cX11_addLast 48 = .ok (.getfield 150, 3) := by decide +kernel
theorem dX11_addLast_51 : decode cX11_addLast 51 = .ok (.iload_n 1, 1) := by decide +kernel
theorem dX11_addLast_52 : decode cX11_addLast 52 = .ok (.invokevirtual 210, 3) := by decide +kernel
theorem dX11_addLast_55 : decode cX11_addLast 55 = .ok (.iload 7, 2) := by decide +kernel
theorem dX11_addLast_57 : decode cX11_addLast 57 = .ok (.invokevirtual 216, 3) := by decide +kernel
theorem dX11_addLast_60 : decode cX11_addLast 60 = .ok (.aload_n 0, 1) := by decide +kernel
theorem dX11_addLast_61 : decode cX11_addLast 61 = .ok (.getfield 10, 3) := by decide +kernel
theorem dX11_addLast_64 : decode cX11_addLast 64 = .ok (.getfield 150, 3) := by decide +kernel
theorem dX11_addLast_67 : decode cX11_addLast 67 = .ok (.iload_n 1, 1) := by decide +kernel
theorem dX11_addLast_68 : decode cX11_addLast 68 = .ok (.invokevirtual 210, 3) := by decide +kernel
theorem dX11_addLast_71 : decode cX11_addLast 71 = .ok (.ireturn, 1) := by decide +kernel
theorem dX11_isIndex_0 : decode cX11_isIndex 0 = .ok (.iload_n 0, 1) := by decide +kernel
theorem dX11_isIndex_1 : decode cX11_isIndex 1 = .ok (.ifCond .lt 12, 3) := by decide +kernel
theorem dX11_isIndex_4 : decode cX11_isIndex 4 = .ok (.iload_n 0, 1) := by decide +kernel
theorem dX11_isIndex_5 : decode cX11_isIndex 5 = .ok (.iload_n 1, 1) := by decide +kernel
theorem dX11_isIndex_6 : decode cX11_isIndex 6 = .ok (.if_icmp .ge 7, 3) := by decide +kernel
theorem dX11_isIndex_9 : decode cX11_isIndex 9 = .ok (.iconst 1, 1) := by decide +kernel
theorem dX11_isIndex_10 : decode cX11_isIndex 10 = .ok (.goto 4, 3) := by decide +kernel
theorem dX11_isIndex_13 : decode cX11_isIndex 13 = .ok (.iconst 0, 1) := by decide +kernel
theorem dX11_isIndex_14 : decode cX11_isIndex 14 = .ok (.ireturn, 1) := by decide +kernel
theorem dX11_has_0 : decode cX11_has 0 = .ok (.iload_n 1, 1) := by decide +kernel
theorem dX11_has_1 : decode cX11_has 1 = .ok (.ifCond .lt 22, 3) := by decide +kernel
theorem dX11_has_4 : decode cX11_has 4 = .ok (.iload_n 1, 1) := by decide +kernel
theorem dX11_has_5 : decode cX11_has 5 = .ok (.bipush 32, 2) := by decide +kernel
theorem dX11_has_7 : decode cX11_has 7 = .ok (.if_icmp .ge 16, 3) := by decide +kernel
theorem dX11_has_10 : decode cX11_has 10 = .ok (.iload_n 0, 1) := by decide +kernel
theorem dX11_has_11 : decode cX11_has 11 = .ok (.iload_n 1, 1) := by decide +kernel
theorem dX11_has_12 : decode cX11_has 12 = .ok (.iushr, 1) := by decide +kernel
theorem dX11_has_13 : decode cX11_has 13 = .ok (.iconst 1, 1) := by decide +kernel
theorem dX11_has_14 : decode cX11_has 14 = .ok (.iand, 1) := by decide +kernel
theorem dX11_has_15 : decode cX11_has 15 = .ok (.iconst 1, 1) := by decide +kernel
theorem dX11_has_16 : decode cX11_has 16 = .ok (.if_icmp .ne 7, 3) := by decide +kernel
theorem dX11_has_19 : decode cX11_has 19 = .ok (.iconst 1, 1) := by decide +kernel
theorem dX11_has_20 : decode cX11_has 20 = .ok (.goto 4, 3) := by decide +kernel
theorem dX11_has_23 : decode cX11_has 23 = .ok (.iconst 0, 1) := by decide +kernel
theorem dX11_has_24 : decode cX11_has 24 = .ok (.ireturn, 1) := by decide +kernel
theorem dX11_changed_0 : decode cX11_changed 0 = .ok (.iload_n 2, 1) := by decide +kernel
theorem dX11_changed_1 : decode cX11_changed 1 = .ok (.ifCond .eq 11, 3) := by decide +kernel
theorem dX11_changed_4 : decode cX11_changed 4 = .ok (.iload_n 0, 1) := by decide +kernel
theorem dX11_changed_5 : decode cX11_changed 5 = .ok (.iconst 1, 1) := by decide +kernel
theorem dX11_changed_6 : decode cX11_changed 6 = .ok (.iload_n 1, 1) := by decide +kernel
theorem dX11_changed_7 : decode cX11_changed 7 = .ok (.ishl, 1) := by decide +kernel
theorem dX11_changed_8 : decode cX11_changed 8 = .ok (.ior, 1) := by decide +kernel
theorem dX11_changed_9 : decode cX11_changed 9 = .ok (.goto 10, 3) := by decide +kernel
theorem dX11_changed_12 : decode cX11_changed 12 = .ok (.iload_n 0, 1) := by decide +kernel
theorem dX11_changed_13 : decode cX11_changed 13 = .ok (.iconst 1, 1) := by decide +kernel
theorem dX11_changed_14 : decode cX11_changed 14 = .ok (.iload_n 1, 1) := by decide +kernel
theorem dX11_changed_15 : decode cX11_changed 15 = .ok (.ishl, 1) := by decide +kernel
theorem dX11_changed_16 : decode cX11_changed 16 = .ok (.iconst (-1), 1) := by decide +kernel
theorem dX11_changed_17 : decode cX11_changed 17 = .ok (.ixor, 1) := by decide +kernel
theorem dX11_changed_18 : decode cX11_changed 18 = .ok (.iand, 1) := by decide +kernel
theorem dX11_changed_19 : decode cX11_changed 19 = .ok (.ireturn, 1) := by decide +kernel
