theorem dX0_init_0 : decode cX0_init 0 = .ok (.aload_n 0, 1) := by decide +kernel
theorem dX0_init_1 : decode cX0_init 1 = .ok (.invokespecial 3, 3) := by decide +kernel
theorem dX0_init_4 : decode cX0_init 4 = .ok (.aload_n 0, 1) := by decide +kernel
theorem dX0_init_5 : decode cX0_init 5 = .ok (.iconst 1, 1) := by decide +kernel
theorem dX0_init_6 : decode cX0_init 6 = .ok (.putfield 9, 3) := by decide +kernel
theorem dX0_init_9 : decode cX0_init 9 = .ok (.aload_n 0, 1) := by decide +kernel
theorem dX0_init_10 : decode cX0_init 10 = .ok (.iconst 0, 1) := by decide +kernel
theorem dX0_init_11 : decode cX0_init 11 = .ok (.putfield 15, 3) := by decide +kernel
theorem dX0_init_14 : decode cX0_init 14 = .ok (.aload_n 0, 1) := by decide +kernel
theorem dX0_init_15 : decode cX0_init 15 = .ok (.bipush 12, 2) := by decide +kernel
theorem dX0_init_17 : decode cX0_init 17 = .ok (.newarray .int, 2) := by decide +kernel
theorem dX0_init_19 : decode cX0_init 19 = .ok (.putfield 18, 3) := by decide +kernel
theorem dX0_init_22 : decode cX0_init 22 = .ok (.aload_n 0, 1) := by decide +kernel
theorem dX0_init_23 : decode cX0_init 23 = .ok (.bipush 8, 2) := by decide +kernel
theorem dX0_init_25 : decode cX0_init 25 = .ok (.newarray .int, 2) := by decide +kernel
theorem dX0_init_27 : decode cX0_init 27 = .ok (.putfield 22, 3) := by decide +kernel
theorem dX0_init_30 : decode cX0_init 30 = .ok (.return_, 1) := by decide +kernel
theorem dX0_copyFrom_0 : decode cX0_copyFrom 0 = .ok (.aload_n 0, 1) := by decide +kernel
theorem dX0_copyFrom_1 : decode cX0_copyFrom 1 = .ok (.aload_n 1, 1) := by decide +kernel
theorem dX0_copyFrom_2 : decode cX0_copyFrom 2 = .ok (.getfield 9, 3) := by decide +kernel
theorem dX0_copyFrom_5 : decode cX0_copyFrom 5 = .ok (.putfield 9, 3) := by decide +kernel
theorem dX0_copyFrom_8 : decode cX0_copyFrom 8 = .ok (.aload_n 0, 1) := by decide +kernel
theorem dX0_copyFrom_9 : decode cX0_copyFrom 9 = .ok (.aload_n 1, 1) := by decide +kernel
theorem dX0_copyFrom_10 : decode cX0_copyFrom 10 = .ok (.getfield 15, 3) := by decide +kernel
theorem dX0_copyFrom_13 : decode cX0_copyFrom 13 = .ok (.putfield 15, 3) := by decide +kernel
theorem dX0_copyFrom_16 : decode cX0_copyFrom 16 = .ok (.aload_n 1, 1) := by decide +kernel
theorem dX0_copyFrom_17 : decode cX0_copyFrom 17 = .ok (.getfield 18, 3) := by decide +kernel
theorem dX0_copyFrom_20 : decode cX0_copyFrom 20 = .ok (.iconst 0, 1) := by decide +kernel
theorem dX0_copyFrom_21 : decode cX0_copyFrom 21 = .ok (.aload_n 0, 1) := by decide +kernel
theorem dX0_copyFrom_22 : decode cX0_copyFrom 22 = .ok (.getfield 18, 3) := by decide +kernel
theorem dX0_copyFrom_25 : decode cX0_copyFrom 25 = .ok (.iconst 0, 1) := by decide +kernel
theorem dX0_copyFrom_26 : decode cX0_copyFrom 26 = .ok (.bipush 12, 2) := by decide +kernel
theorem dX0_copyFrom_28 : decode cX0_copyFrom 28 = .ok (.invokestatic 25, 3) := by decide +kernel
theorem dX0_copyFrom_31 : decode cX0_copyFrom 31 = .ok (.aload_n 1, 1) := by decide +kernel
theorem dX0_copyFrom_32 : decode cX0_copyFrom 32 = .ok (.getfield 22, 3) := by decide +kernel
theorem dX0_copyFrom_35 : decode cX0_copyFrom 35 = .ok (.iconst 0, 1) := by decide +kernel
theorem dX0_copyFrom_36 : decode cX0_copyFrom 36 = .ok (.aload_n 0, 1) := by decide +kernel
theorem dX0_copyFrom_37 : decode cX0_copyFrom 37 = .ok (.getfield 22, 3) := by decide +kernel
theorem dX0_copyFrom_40 : decode cX0_copyFrom 40 = .ok (.iconst 0, 1) := by decide +kernel
theorem dX0_copyFrom_41 : decode cX0_copyFrom 41 = .ok (.bipush 8, 2) := by decide +kernel
theorem dX0_copyFrom_43 : decode cX0_copyFrom 43 = .ok (.invokestatic 25, 3) := by decide +kernel
theorem dX0_copyFrom_46 : decode cX0_copyFrom 46 = .ok (.return_, 1) := by decide +kernel
theorem dX0_hasUser_0 : decode cX0_hasUser 0 = .ok (.iload_n 1, 1) := by decide +kernel
theorem dX0_hasUser_1 : decode cX0_hasUser 1 = .ok (.aload_n 0, 1) := by decide +kernel
theorem dX0_hasUser_2 : decode cX0_hasUser 2 = .ok (.getfield 9, 3) := by decide +kernel
theorem dX0_hasUser_5 : decode cX0_hasUser 5 = .ok (.invokestatic 31, 3) := by decide +kernel
theorem dX0_hasUser_8 : decode cX0_hasUser 8 = .ok (.ireturn, 1) := by decide +kernel
theorem dX0_hasGroup_0 : decode cX0_hasGroup 0 = .ok (.iload_n 1, 1) := by decide +kernel
theorem dX0_hasGroup_1 : decode cX0_hasGroup 1 = .ok (.aload_n 0, 1) := by decide +kernel
theorem dX0_hasGroup_2 : decode cX0_hasGroup 2 = .ok (.getfield 15, 3) := by decide +kernel
theorem dX0_hasGroup_5 : decode cX0_hasGroup 5 = .ok (.invokestatic 31, 3) := by decide +kernel
theorem dX0_hasGroup_8 : decode cX0_hasGroup 8 = .ok (.ireturn, 1) := by decide +kernel
theorem dX0_takeUser_0 : decode cX0_takeUser 0 = .ok (.aload_n 0, 1) := by decide +kernel
theorem dX0_takeUser_1 : decode cX0_takeUser 1 = .ok (.getfield 9, 3) := by decide +kernel
theorem dX0_takeUser_4 : decode cX0_takeUser 4 = .ok (.istore_n 1, 1) := by decide +kernel
theorem dX0_takeUser_5 : decode cX0_takeUser 5 = .ok (.aload_n 0, 1) := by decide +kernel
theorem dX0_takeUser_6 : decode cX0_takeUser 6 = .ok (.dup, 1) := by decide +kernel
theorem dX0_takeUser_7 : decode cX0_takeUser 7 = .ok (.getfield 9, 3) := by decide +kernel
theorem dX0_takeUser_10 : decode cX0_takeUser 10 = .ok (.iconst 1, 1) := by decide +kernel
theorem dX0_takeUser_11 : decode cX0_takeUser 11 = .ok (.iadd, 1) := by decide +kernel
theorem dX0_takeUser_12 : decode cX0_takeUser 12 = .ok (.putfield 9, 3) := by decide +kernel
theorem dX0_takeUser_15 : decode cX0_takeUser 15 = .ok (.iload_n 1, 1) := by decide +kernel
theorem dX0_takeUser_16 : decode cX0_takeUser 16 = .ok (.ireturn, 1) := by decide +kernel
theorem dX0_takeGroup_0 : decode cX0_takeGroup 0 = .ok (.aload_n 0, 1) := by decide +kernel
theorem dX0_takeGroup_1 : decode cX0_takeGroup 1 = .ok (.getfield 15, 3) := by decide +kernel
theorem dX0_takeGroup_4 : decode cX0_takeGroup 4 = .ok (.istore_n 1, 1) := by decide +kernel
theorem dX0_takeGroup_5 : decode cX0_takeGroup 5 = .ok (.aload_n 0, 1) := by decide +kernel
theorem dX0_takeGroup_6 : decode cX0_takeGroup 6 = .ok (.dup, 1) := by decide +kernel
theorem dX0_takeGroup_7 : decode cX0_takeGroup 7 = .ok (.getfield 15, 3) := by decide +kernel
theorem dX0_takeGroup_10 : decode cX0_takeGroup 10 = .ok (.iconst 1, 1) := by decide +kernel
theorem dX0_takeGroup_11 : decode cX0_takeGroup 11 = .ok (.iadd, 1) := by decide +kernel
theorem dX0_takeGroup_12 : decode cX0_takeGroup 12 = .ok (.putfield 15, 3) := by decide +kernel
theorem dX0_takeGroup_15 : decode cX0_takeGroup 15 = .ok (.iload_n 1, 1) := by decide +kernel
theorem dX0_takeGroup_16 : decode cX0_takeGroup 16 = .ok (.ireturn, 1) := by decide +kernel
theorem dX0_hasMember_0 : decode cX0_hasMember 0 = .ok (.iload_n 2, 1) := by decide +kernel
theorem dX0_hasMember_1 : decode cX0_hasMember 1 = .ok (.bipush 12, 2) := by decide +kernel
theorem dX0_hasMember_3 : decode cX0_hasMember 3 = .ok (.invokestatic 31, 3) := by decide +kernel
theorem dX0_hasMember_6 : decode cX0_hasMember 6 = .ok (.ifCond .eq 20, 3) := by decide +kernel
theorem dX0_hasMember_9 : decode cX0_hasMember 9 = .ok (.aload_n 0, 1) := by decide +kernel
theorem dX0_hasMember_10 : decode cX0_hasMember 10 = .ok (.getfield 18, 3) := by decide +kernel
theorem dX0_hasMember_13 : decode cX0_hasMember 13 = .ok (.iload_n 2, 1) := by decide +kernel
theorem dX0_hasMember_14 : decode cX0_hasMember 14 = .ok (.iaload, 1) := by decide +kernel
theorem dX0_hasMember_15 : decode cX0_hasMember 15 = .ok (.iload_n 1, 1) := by decide +kernel
theorem dX0_hasMember_16 : decode cX0_hasMember 16 = .ok (.invokestatic 35, 3) := by decide +kernel
theorem dX0_hasMember_19 : decode cX0_hasMember 19 = .ok (.ifCond .eq 7, 3) := by decide +kernel
theorem dX0_hasMember_22 : decode cX0_hasMember 22 = .ok (.iconst 1, 1) := by decide +kernel
theorem dX0_hasMember_23 : decode cX0_hasMember 23 = .ok (.goto 4, 3) := by decide +kernel
theorem dX0_hasMember_26 : decode cX0_hasMember 26 = .ok (.iconst 0, 1) := by decide +kernel
theorem dX0_hasMember_27 : decode cX0_hasMember 27 = .ok (.ireturn, 1) := by decide +kernel
theorem dX0_setMember_0 : decode cX0_setMember 0 = .ok (.iload_n 2, 1) := by decide +kernel
theorem dX0_setMember_1 : decode cX0_setMember 1 = .ok (.bipush 12, 2) := by decide +kernel
theorem dX0_setMember_3 : decode cX0_setMember 3 = .ok (.invokestatic 31, 3) := by decide +kernel
theorem dX0_setMember_6 : decode cX0_setMember 6 = .ok (.ifCond .eq 20, 3) := by decide +kernel
theorem dX0_setMember_9 : decode cX0_setMember 9 = .ok (.aload_n 0, 1) := by decide +kernel
theorem dX0_setMember_10 : decode cX0_setMember 10 = .ok (.getfield 18, 3) := by decide +kernel
theorem dX0_setMember_13 : decode cX0_setMember 13 = .ok (.iload_n 2, 1) := by decide +kernel
theorem dX0_setMember_14 : decode cX0_setMember 14 = .ok (.aload_n 0, 1) := by decide +kernel
theorem dX0_setMember_15 : decode cX0_setMember 15 = .ok (.getfield 18, 3) := by decide +kernel
theorem dX0_setMember_18 : decode cX0_setMember 18 = .ok (.iload_n 2, 1) := by decide +kernel
theorem dX0_setMember_19 : decode cX0_setMember 19 = .ok (.iaload, 1) := by decide +kernel
theorem dX0_setMember_20 : decode cX0_setMember 20 = .ok (.iload_n 1, 1) := by decide +kernel
theorem dX0_setMember_21 : decode cX0_setMember 21 = .ok (.iload_n 3, 1) := by decide +kernel
theorem dX0_setMember_22 : decode cX0_setMember 22 = .ok (.invokestatic 38, 3) := by decide +kernel
theorem dX0_setMember_25 : decode cX0_setMember 25 = .ok (.iastore, 1) := by decide +kernel
theorem dX0_setMember_26 : decode cX0_setMember 26 = .ok (.return_, 1) := by decide +kernel
theorem dX0_hasInner_0 : decode cX0_hasInner 0 = .ok (.iload_n 2, 1) := by decide +kernel
theorem dX0_hasInner_1 : decode cX0_hasInner 1 = .ok (.bipush 8, 2) := by decide +kernel
theorem dX0_hasInner_3 : decode cX0_hasInner 3 = .ok (.invokestatic 31, 3) := by decide +kernel
theorem dX0_hasInner_6 : decode cX0_hasInner 6 = .ok (.ifCond .eq 20, 3) := by decide +kernel
theorem dX0_hasInner_9 : decode cX0_hasInner 9 = .ok (.aload_n 0, 1) := by decide +kernel
theorem dX0_hasInner_10 : decode cX0_hasInner 10 = .ok (.getfield 22, 3) := by decide +kernel
theorem dX0_hasInner_13 : decode cX0_hasInner 13 = .ok (.iload_n 2, 1) := by decide +kernel
theorem dX0_hasInner_14 : decode cX0_hasInner 14 = .ok (.iaload, 1) := by decide +kernel
theorem dX0_hasInner_15 : decode cX0_hasInner 15 = .ok (.iload_n 1, 1) := by decide +kernel
theorem dX0_hasInner_16 : decode cX0_hasInner 16 = .ok (.invokestatic 35, 3) := by decide +kernel
theorem dX0_hasInner_19 : decode cX0_hasInner 19 = .ok (.ifCond .eq 7, 3) := by decide +kernel
theorem dX0_hasInner_22 : decode cX0_hasInner 22 = .ok (.iconst 1, 1) := by decide +kernel
theorem dX0_hasInner_23 : decode cX0_hasInner 23 = .ok (.goto 4, 3) := by decide +kernel
theorem dX0_hasInner_26 : decode cX0_hasInner 26 = .ok (.iconst 0, 1) := by decide +kernel
theorem dX0_hasInner_27 : decode cX0_hasInner 27 = .ok (.ireturn, 1) := by decide +kernel
theorem dX0_setInner_0 : decode cX0_setInner 0 = .ok (.iload_n 2, 1) := by decide +kernel
theorem dX0_setInner_1 : decode cX0_setInner 1 = .ok (.bipush 8, 2) := by decide +kernel
theorem dX0_setInner_3 : decode cX0_setInner 3 = .ok (.invokestatic 31, 3) := by decide +kernel
theorem dX0_setInner_6 : decode cX0_setInner 6 = .ok (.ifCond .eq 20, 3) := by decide +kernel
theorem dX0_setInner_9 : decode cX0_setInner 9 = .ok (.aload_n 0, 1) := by decide +kernel
theorem dX0_setInner_10 : decode cX0_setInner 10 = .ok (.getfield 22, 3) := by decide +kernel
theorem dX0_setInner_13 : decode cX0_setInner 13 = .ok (.iload_n 2, 1) := by decide +kernel
theorem dX0_setInner_14 : decode cX0_setInner 14 = .ok (.aload_n 0, 1) := by decide +kernel
theorem dX0_setInner_15 : decode cX0_setInner 15 = .ok (.getfield 22, 3) := by decide +kernel
theorem dX0_setInner_18 : decode cX0_setInner 18 = .ok (.iload_n 2, 1) := by decide +kernel
theorem dX0_setInner_19 : decode cX0_setInner 19 = .ok (.iaload, 1) := by decide +kernel
theorem dX0_setInner_20 : decode cX0_setInner 20 = .ok (.iload_n 1, 1) := by decide +kernel
theorem dX0_setInner_21 : decode cX0_setInner 21 = .ok (.iload_n 3, 1) := by decide +kernel
theorem dX0_setInner_22 : decode cX0_setInner 22 = .ok (.invokestatic 38, 3) := by decide +kernel
theorem dX0_setInner_25 : decode cX0_setInner 25 = .ok (.iastore, 1) := by decide +kernel
theorem dX0_setInner_26 : decode cX0_setInner 26 = .ok (.return_, 1) := by decide +kernel
theorem dX0_isWithin_0 : decode cX0_isWithin 0 = .ok (.iload_n 1, 1) := by decide +kernel
theorem dX0_isWithin_1 : decode cX0_isWithin 1 = .ok (.bipush 8, 2) := by decide +kernel
theorem dX0_isWithin_3 : decode cX0_isWithin 3 = .ok (.invokestatic 31, 3) := by decide +kernel
theorem dX0_isWithin_6 : decode cX0_isWithin 6 = .ok (.ifCond .eq 24, 3) := by decide +kernel
theorem dX0_isWithin_9 : decode cX0_isWithin 9 = .ok (.aload_n 0, 1) := by decide +kernel
theorem dX0_isWithin_10 : decode cX0_isWithin 10 = .ok (.aload_n 0, 1) := by decide +kernel
theorem dX0_isWithin_11 : decode cX0_isWithin 11 = .ok (.getfield 22, 3) := by decide +kernel
theorem dX0_isWithin_14 : decode cX0_isWithin 14 = .ok (.iload_n 1, 1) := by decide +kernel
theorem dX0_isWithin_15 : decode cX0_isWithin 15 = .ok (.iaload, 1) := by decide +kernel
theorem dX0_isWithin_16 : decode cX0_isWithin 16 = .ok (.invokevirtual 42, 3) := by decide +kernel
theorem dX0_isWithin_19 : decode cX0_isWithin 19 = .ok (.iload_n 2, 1) := by decide +kernel
theorem dX0_isWithin_20 : decode cX0_isWithin 20 = .ok (.invokestatic 35, 3) := by decide +kernel
theorem dX0_isWithin_23 : decode cX0_isWithin 23 = .ok (.ifCond .eq 7, 3) := by decide +kernel
theorem dX0_isWithin_26 : decode cX0_isWithin 26 = .ok (.iconst 1, 1) := by decide +kernel
theorem dX0_isWithin_27 : decode cX0_isWithin 27 = .ok (.goto 4, 3) := by decide +kernel
theorem dX0_isWithin_30 : decode cX0_isWithin 30 = .ok (.iconst 0, 1) := by decide +kernel
theorem dX0_isWithin_31 : decode cX0_isWithin 31 = .ok (.ireturn, 1) := by decide +kernel
theorem dX0_groupsOver_0 : decode cX0_groupsOver 0 = .ok (.iload_n 1, 1) := by decide +kernel
theorem dX0_groupsOver_1 : decode cX0_groupsOver 1 = .ok (.bipush 12, 2) := by decide +kernel
theorem dX0_groupsOver_3 : decode cX0_groupsOver 3 = .ok (.invokestatic 31, 3) := by decide +kernel
theorem dX0_groupsOver_6 : decode cX0_groupsOver 6 = .ok (.ifCond .eq 16, 3) := by decide +kernel
theorem dX0_groupsOver_9 : decode cX0_groupsOver 9 = .ok (.aload_n 0, 1) := by decide +kernel
theorem dX0_groupsOver_10 : decode cX0_groupsOver 10 = .ok (.aload_n 0, 1) := by decide +kernel
theorem dX0_groupsOver_11 : decode cX0_groupsOver 11 = .ok (.getfield 18, 3) := by decide +kernel
theorem dX0_groupsOver_14 : decode cX0_groupsOver 14 = .ok (.iload_n 1, 1) := by decide +kernel
theorem dX0_groupsOver_15 : decode cX0_groupsOver 15 = .ok (.iaload, 1) := by decide +kernel
theorem dX0_groupsOver_16 : decode cX0_groupsOver 16 = .ok (.invokevirtual 42, 3) := by decide +kernel
theorem dX0_groupsOver_19 : decode cX0_groupsOver 19 = .ok (.goto 4, 3) := by decide +kernel
theorem dX0_groupsOver_22 : decode cX0_groupsOver 22 = .ok (.iconst 0, 1) := by decide +kernel
theorem dX0_groupsOver_23 : decode cX0_groupsOver 23 = .ok (.ireturn, 1) := by decide +kernel
theorem dX0_climbFrom_0 : decode cX0_climbFrom 0 = .ok (.iload_n 1, 1) := by decide +kernel
theorem dX0_climbFrom_1 : decode cX0_climbFrom 1 = .ok (.istore_n 2, 1) := by decide +kernel
theorem dX0_climbFrom_2 : decode cX0_climbFrom 2 = .ok (.iconst 0, 1) := by decide +kernel
theorem dX0_climbFrom_3 : decode cX0_climbFrom 3 = .ok (.istore_n 3, 1) := by decide +kernel
theorem dX0_climbFrom_4 : decode cX0_climbFrom 4 = .ok (.iload_n 3, 1) := by decide +kernel
theorem dX0_climbFrom_5 : decode cX0_climbFrom 5 = .ok (.aload_n 0, 1) := by decide +kernel
theorem dX0_climbFrom_6 : decode cX0_climbFrom 6 = .ok (.getfield 15, 3) := by decide +kernel
theorem dX0_climbFrom_9 : decode cX0_climbFrom 9 = .ok (.if_icmp .ge 56, 3) := by decide +kernel
theorem dX0_climbFrom_12 : decode cX0_climbFrom 12 = .ok (.iload_n 2, 1) := by decide +kernel
theorem dX0_climbFrom_13 : decode cX0_climbFrom 13 = .ok (.istore 4, 2) := by decide +kernel
theorem dX0_climbFrom_15 : decode cX0_climbFrom 15 = .ok (.iconst 0, 1) := by decide +kernel
theorem dX0_climbFrom_16 : decode cX0_climbFrom 16 = .ok (.istore 5, 2) := by decide +kernel
theorem dX0_climbFrom_18 : decode cX0_climbFrom 18 = .ok (.iload 5, 2) := by decide +kernel
theorem dX0_climbFrom_20 : decode cX0_climbFrom 20 = .ok (.bipush 8, 2) := by decide +kernel
theorem dX0_climbFrom_22 : decode cX0_climbFrom 22 = .ok (.if_icmp .ge 29, 3) := by decide +kernel
theorem dX0_climbFrom_25 : decode cX0_climbFrom 25 = .ok (.iload 4, 2) := by decide +kernel
theorem dX0_climbFrom_27 : decode cX0_climbFrom 27 = .ok (.iload 5, 2) := by decide +kernel
theorem dX0_climbFrom_29 : decode cX0_climbFrom 29 = .ok (.invokestatic 35, 3) := by decide +kernel
theorem dX0_climbFrom_32 : decode cX0_climbFrom 32 = .ok (.ifCond .eq 13, 3) := by decide +kernel
theorem dX0_climbFrom_35 : decode cX0_climbFrom 35 = .ok (.iload_n 2, 1) := by decide +kernel
theorem dX0_climbFrom_36 : decode cX0_climbFrom 36 = .ok (.aload_n 0, 1) := by decide +kernel
theorem dX0_climbFrom_37 : decode cX0_climbFrom 37 = .ok (.getfield 22, 3) := by decide +kernel
theorem dX0_climbFrom_40 : decode cX0_climbFrom 40 = .ok (.iload 5, 2) := by decide +kernel
theorem dX0_climbFrom_42 : decode cX0_climbFrom 42 = .ok (.iaload, 1) := by decide +kernel
theorem dX0_climbFrom_43 : decode cX0_climbFrom 43 = .ok (.ior, 1) := by decide +kernel
theorem dX0_climbFrom_44 : decode cX0_climbFrom 44 = .ok (.istore_n 2, 1) := by decide +kernel
theorem dX0_climbFrom_45 : decode cX0_climbFrom 45 = .ok (.iinc 5 1, 3) := by decide +kernel
theorem dX0_climbFrom_48 : decode cX0_climbFrom 48 = .ok (.goto (-30), 3) := by decide +kernel
theorem dX0_climbFrom_51 : decode cX0_climbFrom 51 = .ok (.iload_n 2, 1) := by decide +kernel
theorem dX0_climbFrom_52 : decode cX0_climbFrom 52 = .ok (.iload 4, 2) := by decide +kernel
theorem dX0_climbFrom_54 : decode cX0_climbFrom 54 = .ok (.if_icmp .ne 5, 3) := by decide +kernel
theorem dX0_climbFrom_57 : decode cX0_climbFrom 57 = .ok (.iload_n 2, 1) := by decide +kernel
theorem dX0_climbFrom_58 : decode cX0_climbFrom 58 = .ok (.ireturn, 1) := by decide +kernel
theorem dX0_climbFrom_59 : decode cX0_climbFrom 59 = .ok (.iinc 3 1, 3) := by decide +kernel
theorem dX0_climbFrom_62 : decode cX0_climbFrom 62 = .ok (.goto (-58), 3) := by decide +kernel
theorem dX0_climbFrom_65 : decode cX0_climbFrom 65 = .ok (.iload_n 2, 1) := by decide +kernel
theorem dX0_climbFrom_66 : decode cX0_climbFrom 66 = .ok (.ireturn, 1) := by decide +kernel
theorem dX0_usersIn_0 : decode cX0_usersIn 0 = .ok (.aload_n 0, 1) := by decide +kernel
theorem dX0_usersIn_1 : decode cX0_usersIn 1 = .ok (.iload_n 1, 1) := by decide +kernel
theorem dX0_usersIn_2 : decode cX0_usersIn 2 = .ok (.invokevirtual 46, 3) := by decide +kernel
theorem dX0_usersIn_5 : decode cX0_usersIn 5 = .ok (.istore_n 2, 1) := by decide +kernel
theorem dX0_usersIn_6 : decode cX0_usersIn 6 = .ok (.iconst 0, 1) := by decide +kernel
theorem dX0_usersIn_7 : decode cX0_usersIn 7 = .ok (.istore_n 3, 1) := by decide +kernel
theorem dX0_usersIn_8 : decode cX0_usersIn 8 = .ok (.iconst 0, 1) := by decide +kernel
theorem dX0_usersIn_9 : decode cX0_usersIn 9 = .ok (.istore 4, 2) := by decide +kernel
theorem dX0_usersIn_11 : decode cX0_usersIn 11 = .ok (.iload 4, 2) := by decide +kernel
theorem dX0_usersIn_13 : decode cX0_usersIn 13 = .ok (.bipush 12, 2) := by decide +kernel
theorem dX0_usersIn_15 : decode cX0_usersIn 15 = .ok (.if_icmp .ge 28, 3) := by decide +kernel
theorem dX0_usersIn_18 : decode cX0_usersIn 18 = .ok (.aload_n 0, 1) := by decide +kernel
theorem dX0_usersIn_19 : decode cX0_usersIn 19 = .ok (.getfield 18, 3) := by decide +kernel
theorem dX0_usersIn_22 : decode cX0_usersIn 22 = .ok (.iload 4, 2) := by decide +kernel
theorem dX0_usersIn_24 : decode cX0_usersIn 24 = .ok (.iaload, 1) := by decide +kernel
theorem dX0_usersIn_25 : decode cX0_usersIn 25 = .ok (.iload_n 2, 1) := by decide +kernel
theorem dX0_usersIn_26 : decode cX0_usersIn 26 = .ok (.iand, 1) := by decide +kernel
theorem dX0_usersIn_27 : decode cX0_usersIn 27 = .ok (.ifCond .eq 10, 3) := by decide +kernel
theorem dX0_usersIn_30 : decode cX0_usersIn 30 = .ok (.iload_n 3, 1) := by decide +kernel
theorem dX0_usersIn_31 : decode cX0_usersIn 31 = .ok (.iconst 1, 1) := by decide +kernel
theorem dX0_usersIn_32 : decode cX0_usersIn 32 = .ok (.iload 4, 2) := by decide +kernel
theorem dX0_usersIn_34 : decode cX0_usersIn 34 = .ok (.ishl, 1) := by decide +kernel
theorem dX0_usersIn_35 : decode cX0_usersIn 35 = .ok (.ior, 1) := by decide +kernel
theorem dX0_usersIn_36 : decode cX0_usersIn 36 = .ok (.istore_n 3, 1) := by decide +kernel
theorem dX0_usersIn_37 : decode cX0_usersIn 37 = .ok (.iinc 4 1, 3) := by decide +kernel
theorem dX0_usersIn_40 : decode cX0_usersIn 40 = .ok (.goto (-29), 3) := by decide +kernel
theorem dX0_usersIn_43 : decode cX0_usersIn 43 = .ok (.iload_n 3, 1) := by decide +kernel
theorem dX0_usersIn_44 : decode cX0_usersIn 44 = .ok (.ireturn, 1) := by decide +kernel
theorem dX0_groupsUnder_0 : decode cX0_groupsUnder 0 = .ok (.iconst 1, 1) := by decide +kernel
theorem dX0_groupsUnder_1 : decode cX0_groupsUnder 1 = .ok (.iload_n 1, 1) := by decide +kernel
theorem dX0_groupsUnder_2 : decode cX0_groupsUnder 2 = .ok (.ishl, 1) := by decide +kernel
theorem dX0_groupsUnder_3 : decode cX0_groupsUnder 3 = .ok (.istore_n 2, 1) := by decide +kernel
theorem dX0_groupsUnder_4 : decode cX0_groupsUnder 4 = .ok (.iconst 0, 1) := by decide +kernel
theorem dX0_groupsUnder_5 : decode cX0_groupsUnder 5 = .ok (.istore_n 3, 1) := by decide +kernel
theorem dX0_groupsUnder_6 : decode cX0_groupsUnder 6 = .ok (.iload_n 3, 1) := by decide +kernel
theorem dX0_groupsUnder_7 : decode cX0_groupsUnder 7 = .ok (.aload_n 0, 1) := by decide +kernel
theorem dX0_groupsUnder_8 : decode cX0_groupsUnder 8 = .ok (.getfield 15, 3) := by decide +kernel
theorem dX0_groupsUnder_11 : decode cX0_groupsUnder 11 = .ok (.if_icmp .ge 56, 3) := by decide +kernel
theorem dX0_groupsUnder_14 : decode cX0_groupsUnder 14 = .ok (.iload_n 2, 1) := by decide +kernel
theorem dX0_groupsUnder_15 : decode cX0_groupsUnder 15 = .ok (.istore 4, 2) := by decide +kernel
theorem dX0_groupsUnder_17 : decode cX0_groupsUnder 17 = .ok (.iconst 0, 1) := by decide +kernel
theorem dX0_groupsUnder_18 : decode cX0_groupsUnder 18 = .ok (.istore 5, 2) := by decide +kernel
theorem dX0_groupsUnder_20 : decode cX0_groupsUnder 20 = .ok (.iload 5, 2) := by decide +kernel
theorem dX0_groupsUnder_22 : decode cX0_groupsUnder 22 = .ok (.bipush 8, 2) := by decide +kernel
theorem dX0_groupsUnder_24 : decode cX0_groupsUnder 24 = .ok (.if_icmp .ge 29, 3) := by decide +kernel
theorem dX0_groupsUnder_27 : decode cX0_groupsUnder 27 = .ok (.aload_n 0, 1) := by decide +kernel
theorem dX0_groupsUnder_28 : decode cX0_groupsUnder 28 = .ok (.getfield 22, 3) := by decide +kernel
theorem dX0_groupsUnder_31 : decode cX0_groupsUnder 31 = .ok (.iload 5, 2) := by decide +kernel
theorem dX0_groupsUnder_33 : decode cX0_groupsUnder 33 = .ok (.iaload, 1) := by decide +kernel
theorem dX0_groupsUnder_34 : decode cX0_groupsUnder 34 = .ok (.iload 4, 2) := by decide +kernel
theorem dX0_groupsUnder_36 : decode cX0_groupsUnder 36 = .ok (.iand, 1) := by decide +kernel
theorem dX0_groupsUnder_37 : decode cX0_groupsUnder 37 = .ok (.ifCond .eq 10, 3) := by decide +kernel
theorem dX0_groupsUnder_40 : decode cX0_groupsUnder 40 = .ok (.iload_n 2, 1) := by decide +kernel
theorem dX0_groupsUnder_41 : decode cX0_groupsUnder 41 = .ok (.iconst 1, 1) := by decide +kernel
theorem dX0_groupsUnder_42 : decode cX0_groupsUnder 42 = .ok (.iload 5, 2) := by decide +kernel
theorem dX0_groupsUnder_44 : decode cX0_groupsUnder 44 = .ok (.ishl, 1) := by decide +kernel
theorem dX0_groupsUnder_45 : decode cX0_groupsUnder 45 = .ok (.ior, 1) := by decide +kernel
theorem dX0_groupsUnder_46 : decode cX0_groupsUnder 46 = .ok (.istore_n 2, 1) := by decide +kernel
theorem dX0_groupsUnder_47 : decode cX0_groupsUnder 47 = .ok (.iinc 5 1, 3) := by decide +kernel
theorem dX0_groupsUnder_50 : decode cX0_groupsUnder 50 = .ok (.goto (-30), 3) := by decide +kernel
theorem dX0_groupsUnder_53 : decode cX0_groupsUnder 53 = .ok (.iload_n 2, 1) := by decide +kernel
theorem dX0_groupsUnder_54 : decode cX0_groupsUnder 54 = .ok (.iload 4, 2) := by decide +kernel
theorem dX0_groupsUnder_56 : decode cX0_groupsUnder 56 = .ok (.if_icmp .ne 5, 3) := by decide +kernel
theorem dX0_groupsUnder_59 : decode cX0_groupsUnder 59 = .ok (.iload_n 2, 1) := by decide +kernel
theorem dX0_groupsUnder_60 : decode cX0_groupsUnder 60 = .ok (.ireturn, 1) := by decide +kernel
theorem dX0_groupsUnder_61 : decode cX0_groupsUnder 61 = .ok (.iinc 3 1, 3) := by decide +kernel
theorem dX0_groupsUnder_64 : decode cX0_groupsUnder 64 = .ok (.goto (-58), 3) := by decide +kernel
theorem dX0_groupsUnder_67 : decode cX0_groupsUnder 67 = .ok (.iload_n 2, 1) := by decide +kernel
theorem dX0_groupsUnder_68 : decode cX0_groupsUnder 68 = .ok (.ireturn, 1) := by decide +kernel
theorem dX0_countUsersIn_0 : decode cX0_countUsersIn 0 = .ok (.aload_n 0, 1) := by decide +kernel
theorem dX0_countUsersIn_1 : decode cX0_countUsersIn 1 = .ok (.iload_n 1, 1) := by decide +kernel
theorem dX0_countUsersIn_2 : decode cX0_countUsersIn 2 = .ok (.invokevirtual 49, 3) := by decide +kernel
theorem dX0_countUsersIn_5 : decode cX0_countUsersIn 5 = .ok (.invokestatic 52, 3) := by decide +kernel
theorem dX0_countUsersIn_8 : decode cX0_countUsersIn 8 = .ok (.ireturn, 1) := by decide +kernel
theorem dX1_code_0 : decode cX1_code 0 = .ok (.iload_n 3, 1) := by decide +kernel
theorem dX1_code_1 : decode cX1_code 1 = .ok (.ifCond .eq 8, 3) := by decide +kernel
theorem dX1_code_4 : decode cX1_code 4 = .ok (.bipush 16, 2) := by decide +kernel
theorem dX1_code_6 : decode cX1_code 6 = .ok (.goto 4, 3) := by decide +kernel
theorem dX1_code_9 : decode cX1_code 9 = .ok (.iconst 0, 1) := by decide +kernel
theorem dX1_code_10 : decode cX1_code 10 = .ok (.iload 4, 2) := by decide +kernel
theorem dX1_code_12 : decode cX1_code 12 = .ok (.ifCond .eq 8, 3) := by decide +kernel
theorem dX1_code_15 : decode cX1_code 15 = .ok (.bipush 32, 2) := by decide +kernel
theorem dX1_code_17 : decode cX1_code 17 = .ok (.goto 4, 3) := by decide +kernel
theorem dX1_code_20 : decode cX1_code 20 = .ok (.iconst 0, 1) := by decide +kernel
theorem dX1_code_21 : decode cX1_code 21 = .ok (.ior, 1) := by decide +kernel
theorem dX1_code_22 : decode cX1_code 22 = .ok (.istore 5, 2) := by decide +kernel
theorem dX1_code_24 : decode cX1_code 24 = .ok (.iload_n 2, 1) := by decide +kernel
theorem dX1_code_25 : decode cX1_code 25 = .ok (.iload 5, 2) := by decide +kernel
theorem dX1_code_27 : decode cX1_code 27 = .ok (.ior, 1) := by decide +kernel
theorem dX1_code_28 : decode cX1_code 28 = .ok (.iload_n 0, 1) := by decide +kernel
theorem dX1_code_29 : decode cX1_code 29 = .ok (.bipush 6, 2) := by decide +kernel
theorem dX1_code_31 : decode cX1_code 31 = .ok (.ishl, 1) := by decide +kernel
theorem dX1_code_32 : decode cX1_code 32 = .ok (.ior, 1) := by decide +kernel
theorem dX1_code_33 : decode cX1_code 33 = .ok (.iload_n 1, 1) := by decide +kernel
theorem dX1_code_34 : decode cX1_code 34 = .ok (.bipush 8, 2) := by decide +kernel
theorem dX1_code_36 : decode cX1_code 36 = .ok (.ishl, 1) := by decide +kernel
theorem dX1_code_37 : decode cX1_code 37 = .ok (.ior, 1) := by decide +kernel
theorem dX1_code_38 : decode cX1_code 38 = .ok (.ireturn, 1) := by decide +kernel
theorem dX1_rights_0 : decode cX1_rights 0 = .ok (.iload_n 0, 1) := by decide +kernel
theorem dX1_rights_1 : decode cX1_rights 1 = .ok (.bipush 15, 2) := by decide +kernel
theorem dX1_rights_3 : decode cX1_rights 3 = .ok (.iand, 1) := by decide +kernel
theorem dX1_rights_4 : decode cX1_rights 4 = .ok (.ireturn, 1) := by decide +kernel
theorem dX1_allows_0 : decode cX1_allows 0 = .ok (.iload_n 0, 1) := by decide +kernel
theorem dX1_allows_1 : decode cX1_allows 1 = .ok (.bipush 16, 2) := by decide +kernel
theorem dX1_allows_3 : decode cX1_allows 3 = .ok (.iand, 1) := by decide +kernel
theorem dX1_allows_4 : decode cX1_allows 4 = .ok (.ifCond .eq 7, 3) := by decide +kernel
theorem dX1_allows_7 : decode cX1_allows 7 = .ok (.iconst 1, 1) := by decide +kernel
theorem dX1_allows_8 : decode cX1_allows 8 = .ok (.goto 4, 3) := by decide +kernel
theorem dX1_allows_11 : decode cX1_allows 11 = .ok (.iconst 0, 1) := by decide +kernel
theorem dX1_allows_12 : decode cX1_allows 12 = .ok (.ireturn, 1) := by decide +kernel
theorem dX1_countsBelow_0 : decode cX1_countsBelow 0 = .ok (.iload_n 0, 1) := by decide +kernel
theorem dX1_countsBelow_1 : decode cX1_countsBelow 1 = .ok (.bipush 32, 2) := by decide +kernel
theorem dX1_countsBelow_3 : decode cX1_countsBelow 3 = .ok (.iand, 1) := by decide +kernel
theorem dX1_countsBelow_4 : decode cX1_countsBelow 4 = .ok (.ifCond .eq 7, 3) := by decide +kernel
theorem dX1_countsBelow_7 : decode cX1_countsBelow 7 = .ok (.iconst 1, 1) := by decide +kernel
theorem dX1_countsBelow_8 : decode cX1_countsBelow 8 = .ok (.goto 4, 3) := by decide +kernel
theorem dX1_countsBelow_11 : decode cX1_countsBelow 11 = .ok (.iconst 0, 1) := by decide +kernel
theorem dX1_countsBelow_12 : decode cX1_countsBelow 12 = .ok (.ireturn, 1) := by decide +kernel
theorem dX1_kind_0 : decode cX1_kind 0 = .ok (.iload_n 0, 1) := by decide +kernel
theorem dX1_kind_1 : decode cX1_kind 1 = .ok (.bipush 6, 2) := by decide +kernel
theorem dX1_kind_3 : decode cX1_kind 3 = .ok (.iushr, 1) := by decide +kernel
theorem dX1_kind_4 : decode cX1_kind 4 = .ok (.iconst 3, 1) := by decide +kernel
theorem dX1_kind_5 : decode cX1_kind 5 = .ok (.iand, 1) := by decide +kernel
theorem dX1_kind_6 : decode cX1_kind 6 = .ok (.ireturn, 1) := by decide +kernel
theorem dX1_number_0 : decode cX1_number 0 = .ok (.iload_n 0, 1) := by decide +kernel
theorem dX1_number_1 : decode cX1_number 1 = .ok (.bipush 8, 2) := by decide +kernel
theorem dX1_number_3 : decode cX1_number 3 = .ok (.iushr, 1) := by decide +kernel
theorem dX1_number_4 : decode cX1_number 4 = .ok (.ireturn, 1) := by decide +kernel
theorem dX1_isFor_0 : decode cX1_isFor 0 = .ok (.iload_n 0, 1) := by decide +kernel
theorem dX1_isFor_1 : decode cX1_isFor 1 = .ok (.invokestatic 11, 3) := by decide +kernel
theorem dX1_isFor_4 : decode cX1_isFor 4 = .ok (.tableswitch 53 0 2 #[28, 42, 51], 28) := by decide +kernel
theorem dX1_isFor_32 : decode cX1_isFor 32 = .ok (.iload_n 0, 1) := by decide +kernel
theorem dX1_isFor_33 : decode cX1_isFor 33 = .ok (.invokestatic 15, 3) := by decide +kernel
theorem dX1_isFor_36 : decode cX1_isFor 36 = .ok (.iload_n 1, 1) := by decide +kernel
theorem dX1_isFor_37 : decode cX1_isFor 37 = .ok (.if_icmp .ne 7, 3) := by decide +kernel
theorem dX1_isFor_40 : decode cX1_isFor 40 = .ok (.iconst 1, 1) := by decide +kernel
theorem dX1_isFor_41 : decode cX1_isFor 41 = .ok (.goto 4, 3) := by decide +kernel
theorem dX1_isFor_44 : decode cX1_isFor 44 = .ok (.iconst 0, 1) := by decide +kernel
theorem dX1_isFor_45 : decode cX1_isFor 45 = .ok (.ireturn, 1) := by decide +kernel
theorem dX1_isFor_46 : decode cX1_isFor 46 = .ok (.iload_n 2, 1) := by decide +kernel
theorem dX1_isFor_47 : decode cX1_isFor 47 = .ok (.iload_n 0, 1) := by decide +kernel
theorem dX1_isFor_48 : decode cX1_isFor 48 = .ok (.invokestatic 15, 3) := by decide +kernel
theorem dX1_isFor_51 : decode cX1_isFor 51 = .ok (.invokestatic 18, 3) := by decide +kernel
theorem dX1_isFor_54 : decode cX1_isFor 54 = .ok (.ireturn, 1) := by decide +kernel
theorem dX1_isFor_55 : decode cX1_isFor 55 = .ok (.iload_n 3, 1) := by decide +kernel
theorem dX1_isFor_56 : decode cX1_isFor 56 = .ok (.ireturn, 1) := by decide +kernel
theorem dX1_isFor_57 : decode cX1_isFor 57 = .ok (.iconst 1, 1) := by decide +kernel
theorem dX1_isFor_58 : decode cX1_isFor 58 = .ok (.ireturn, 1) := by decide +kernel
theorem dX2_init_0 : decode cX2_init 0 = .ok (.aload_n 0, 1) := by decide +kernel
theorem dX2_init_1 : decode cX2_init 1 = .ok (.invokespecial 3, 3) := by decide +kernel
theorem dX2_init_4 : decode cX2_init 4 = .ok (.aload_n 0, 1) := by decide +kernel
theorem dX2_init_5 : decode cX2_init 5 = .ok (.iconst 0, 1) := by decide +kernel
theorem dX2_init_6 : decode cX2_init 6 = .ok (.putfield 9, 3) := by decide +kernel
theorem dX2_init_9 : decode cX2_init 9 = .ok (.aload_n 0, 1) := by decide +kernel
theorem dX2_init_10 : decode cX2_init 10 = .ok (.bipush 20, 2) := by decide +kernel
theorem dX2_init_12 : decode cX2_init 12 = .ok (.newarray .int, 2) := by decide +kernel
theorem dX2_init_14 : decode cX2_init 14 = .ok (.putfield 15, 3) := by decide +kernel
theorem dX2_init_17 : decode cX2_init 17 = .ok (.aload_n 0, 1) := by decide +kernel
theorem dX2_init_18 : decode cX2_init 18 = .ok (.sipush 2400, 3) := by decide +kernel
theorem dX2_init_21 : decode cX2_init 21 = .ok (.newarray .int, 2) := by decide +kernel
theorem dX2_init_23 : decode cX2_init 23 = .ok (.putfield 19, 3) := by decide +kernel
theorem dX2_init_26 : decode cX2_init 26 = .ok (.return_, 1) := by decide +kernel
theorem dX2_grants_0 : decode cX2_grants 0 = .ok (.aload_n 0, 1) := by decide +kernel
theorem dX2_grants_1 : decode cX2_grants 1 = .ok (.aload_n 1, 1) := by decide +kernel
theorem dX2_grants_2 : decode cX2_grants 2 = .ok (.invokevirtual 22, 3) := by decide +kernel
theorem dX2_grants_5 : decode cX2_grants 5 = .ok (.aload_n 1, 1) := by decide +kernel
theorem dX2_grants_6 : decode cX2_grants 6 = .ok (.iload_n 2, 1) := by decide +kernel
theorem dX2_grants_7 : decode cX2_grants 7 = .ok (.iload_n 3, 1) := by decide +kernel
theorem dX2_grants_8 : decode cX2_grants 8 = .ok (.iload 4, 2) := by decide +kernel
theorem dX2_grants_10 : decode cX2_grants 10 = .ok (.aload_n 0, 1) := by decide +kernel
theorem dX2_grants_11 : decode cX2_grants 11 = .ok (.aload_n 1, 1) := by decide +kernel
theorem dX2_grants_12 : decode cX2_grants 12 = .ok (.iload_n 2, 1) := by decide +kernel
theorem dX2_grants_13 : decode cX2_grants 13 = .ok (.iload_n 3, 1) := by decide +kernel
theorem dX2_grants_14 : decode cX2_grants 14 = .ok (.iload 4, 2) := by decide +kernel
theorem dX2_grants_16 : decode cX2_grants 16 = .ok (.invokevirtual 26, 3) := by decide +kernel
theorem dX2_grants_19 : decode cX2_grants 19 = .ok (.invokevirtual 30, 3) := by decide +kernel
theorem dX2_grants_22 : decode cX2_grants 22 = .ok (.ireturn, 1) := by decide +kernel
theorem dX2_decider_0 : decode cX2_decider 0 = .ok (.aload_n 1, 1) := by decide +kernel
theorem dX2_decider_1 : decode cX2_decider 1 = .ok (.getfield 36, 3) := by decide +kernel
theorem dX2_decider_4 : decode cX2_decider 4 = .ok (.iload_n 2, 1) := by decide +kernel
theorem dX2_decider_5 : decode cX2_decider 5 = .ok (.invokevirtual 40, 3) := by decide +kernel
theorem dX2_decider_8 : decode cX2_decider 8 = .ok (.istore 5, 2) := by decide +kernel
theorem dX2_decider_10 : decode cX2_decider 10 = .ok (.aload_n 1, 1) := by decide +kernel
theorem dX2_decider_11 : decode cX2_decider 11 = .ok (.getfield 46, 3) := by decide +kernel
theorem dX2_decider_14 : decode cX2_decider 14 = .ok (.iload_n 3, 1) := by decide +kernel
theorem dX2_decider_15 : decode cX2_decider 15 = .ok (.invokevirtual 50, 3) := by decide +kernel
theorem dX2_decider_18 : decode cX2_decider 18 = .ok (.iload_n 2, 1) := by decide +kernel
theorem dX2_decider_19 : decode cX2_decider 19 = .ok (.if_icmp .ne 7, 3) := by decide +kernel
theorem dX2_decider_22 : decode cX2_decider 22 = .ok (.iconst 1, 1) := by decide +kernel
theorem dX2_decider_23 : decode cX2_decider 23 = .ok (.goto 4, 3) := by decide +kernel
theorem dX2_decider_26 : decode cX2_decider 26 = .ok (.iconst 0, 1) := by decide +kernel
theorem dX2_decider_27 : decode cX2_decider 27 = .ok (.istore 6, 2) := by decide +kernel
theorem dX2_decider_29 : decode cX2_decider 29 = .ok (.iconst 0, 1) := by decide +kernel
theorem dX2_decider_30 : decode cX2_decider 30 = .ok (.istore 7, 2) := by decide +kernel
theorem dX2_decider_32 : decode cX2_decider 32 = .ok (.iload 7, 2) := by decide +kernel
theorem dX2_decider_34 : decode cX2_decider 34 = .ok (.bipush 120, 2) := by decide +kernel
theorem dX2_decider_36 : decode cX2_decider 36 = .ok (.if_icmp .ge 57, 3) := by decide +kernel
theorem dX2_decider_39 : decode cX2_decider 39 = .ok (.iload 7, 2) := by decide +kernel
theorem dX2_decider_41 : decode cX2_decider 41 = .ok (.aload_n 0, 1) := by decide +kernel
theorem dX2_decider_42 : decode cX2_decider 42 = .ok (.iload_n 3, 1) := by decide +kernel
theorem dX2_decider_43 : decode cX2_decider 43 = .ok (.invokevirtual 55, 3) := by decide +kernel
theorem dX2_decider_46 : decode cX2_decider 46 = .ok (.if_icmp .ge 47, 3) := by decide +kernel
theorem dX2_decider_49 : decode cX2_decider 49 = .ok (.aload_n 0, 1) := by decide +kernel
theorem dX2_decider_50 : decode cX2_decider 50 = .ok (.iload_n 3, 1) := by decide +kernel
theorem dX2_decider_51 : decode cX2_decider 51 = .ok (.iload 7, 2) := by decide +kernel
theorem dX2_decider_53 : decode cX2_decider 53 = .ok (.invokevirtual 58, 3) := by decide +kernel
theorem dX2_decider_56 : decode cX2_decider 56 = .ok (.istore 8, 2) := by decide +kernel
theorem dX2_decider_58 : decode cX2_decider 58 = .ok (.iload 8, 2) := by decide +kernel
theorem dX2_decider_60 : decode cX2_decider 60 = .ok (.invokestatic 62, 3) := by decide +kernel
theorem dX2_decider_63 : decode cX2_decider 63 = .ok (.iload 4, 2) := by decide +kernel
theorem dX2_decider_65 : decode cX2_decider 65 = .ok (.invokestatic 67, 3) := by decide +kernel
theorem dX2_decider_68 : decode cX2_decider 68 = .ok (.ifCond .eq 19, 3) := by decide +kernel
theorem dX2_decider_71 : decode cX2_decider 71 = .ok (.iload 8, 2) := by decide +kernel
theorem dX2_decider_73 : decode cX2_decider 73 = .ok (.iload_n 2, 1) := by decide +kernel
theorem dX2_decider_74 : decode cX2_decider 74 = .ok (.iload 5, 2) := by decide +kernel
theorem dX2_decider_76 : decode cX2_decider 76 = .ok (.iload 6, 2) := by decide +kernel
theorem dX2_decider_78 : decode cX2_decider 78 = .ok (.invokestatic 71, 3) := by decide +kernel
theorem dX2_decider_81 : decode cX2_decider 81 = .ok (.ifCond .eq 6, 3) := by decide +kernel
theorem dX2_decider_84 : decode cX2_decider 84 = .ok (.iload 8, 2) := by decide +kernel
theorem dX2_decider_86 : decode cX2_decider 86 = .ok (.ireturn, 1) := by decide +kernel
theorem dX2_decider_87 : decode cX2_decider 87 = .ok (.iinc 7 1, 3) := by decide +kernel
theorem dX2_decider_90 : decode cX2_decider 90 = .ok (.goto (-58), 3) := by decide +kernel
theorem dX2_decider_93 : decode cX2_decider 93 = .ok (.iconst 0, 1) := by decide +kernel
theorem dX2_decider_94 : decode cX2_decider 94 = .ok (.ireturn, 1) := by decide +kernel
theorem dX2_handAllDown_0 : decode cX2_handAllDown 0 = .ok (.aload_n 0, 1) := by decide +kernel
theorem dX2_handAllDown_1 : decode cX2_handAllDown 1 = .ok (.iconst 0, 1) := by decide +kernel
theorem dX2_handAllDown_2 : decode cX2_handAllDown 2 = .ok (.putfield 9, 3) := by decide +kernel
theorem dX2_handAllDown_5 : decode cX2_handAllDown 5 = .ok (.aload_n 0, 1) := by decide +kernel
theorem dX2_handAllDown_6 : decode cX2_handAllDown 6 = .ok (.getfield 15, 3) := by decide +kernel
theorem dX2_handAllDown_9 : decode cX2_handAllDown 9 = .ok (.iconst 0, 1) := by decide +kernel
theorem dX2_handAllDown_10 : decode cX2_handAllDown 10 = .ok (.invokestatic 75, 3) := by decide +kernel
theorem dX2_handAllDown_13 : decode cX2_handAllDown 13 = .ok (.aload_n 0, 1) := by decide +kernel
theorem dX2_handAllDown_14 : decode cX2_handAllDown 14 = .ok (.aload_n 1, 1) := by decide +kernel
theorem dX2_handAllDown_15 : decode cX2_handAllDown 15 = .ok (.getfield 81, 3) := by decide +kernel
theorem dX2_handAllDown_18 : decode cX2_handAllDown 18 = .ok (.iconst 0, 1) := by decide +kernel
theorem dX2_handAllDown_19 : decode cX2_handAllDown 19 = .ok (.invokevirtual 84, 3) := by decide +kernel
theorem dX2_handAllDown_22 : decode cX2_handAllDown 22 = .ok (.iconst 1, 1) := by decide +kernel
theorem dX2_handAllDown_23 : decode cX2_handAllDown 23 = .ok (.istore_n 2, 1) := by decide +kernel
theorem dX2_handAllDown_24 : decode cX2_handAllDown 24 = .ok (.iload_n 2, 1) := by decide +kernel
theorem dX2_handAllDown_25 : decode cX2_handAllDown 25 = .ok (.bipush 20, 2) := by decide +kernel
theorem dX2_handAllDown_27 : decode cX2_handAllDown 27 = .ok (.if_icmp .ge 80, 3) := by decide +kernel
theorem dX2_handAllDown_30 : decode cX2_handAllDown 30 = .ok (.iconst 1, 1) := by decide +kernel
theorem dX2_handAllDown_31 : decode cX2_handAllDown 31 = .ok (.istore_n 3, 1) := by decide +kernel
theorem dX2_handAllDown_32 : decode cX2_handAllDown 32 = .ok (.iload_n 3, 1) := by decide +kernel
theorem dX2_handAllDown_33 : decode cX2_handAllDown 33 = .ok (.bipush 20, 2) := by decide +kernel
theorem dX2_handAllDown_35 : decode cX2_handAllDown 35 = .ok (.if_icmp .ge 66, 3) := by decide +kernel
theorem dX2_handAllDown_38 : decode cX2_handAllDown 38 = .ok (.aload_n 1, 1) := by decide +kernel
theorem dX2_handAllDown_39 : decode cX2_handAllDown 39 = .ok (.getfield 46, 3) := by decide +kernel
theorem dX2_handAllDown_42 : decode cX2_handAllDown 42 = .ok (.iload_n 3, 1) := by decide +kernel
theorem dX2_handAllDown_43 : decode cX2_handAllDown 43 = .ok (.invokevirtual 88, 3) := by decide +kernel
theorem dX2_handAllDown_46 : decode cX2_handAllDown 46 = .ok (.istore 4, 2) := by decide +kernel
theorem dX2_handAllDown_48 : decode cX2_handAllDown 48 = .ok (.aload_n 0, 1) := by decide +kernel
theorem dX2_handAllDown_49 : decode cX2_handAllDown 49 = .ok (.getfield 9, 3) := by decide +kernel
theorem dX2_handAllDown_52 : decode cX2_handAllDown 52 = .ok (.iload_n 3, 1) := by decide +kernel
theorem dX2_handAllDown_53 : decode cX2_handAllDown 53 = .ok (.invokestatic 67, 3) := by decide +kernel
theorem dX2_handAllDown_56 : decode cX2_handAllDown 56 = .ok (.ifCond .ne 39, 3) := by decide +kernel
theorem dX2_handAllDown_59 : decode cX2_handAllDown 59 = .ok (.aload_n 0, 1) := by decide +kernel
theorem dX2_handAllDown_60 : decode cX2_handAllDown 60 = .ok (.getfield 9, 3) := by decide +kernel
theorem dX2_handAllDown_63 : decode cX2_handAllDown 63 = .ok (.iload 4, 2) := by decide +kernel
theorem dX2_handAllDown_65 : decode cX2_handAllDown 65 = .ok (.invokestatic 67, 3) := by decide +kernel
theorem dX2_handAllDown_68 : decode cX2_handAllDown 68 = .ok (.ifCond .eq 27, 3) := by decide +kernel
theorem dX2_handAllDown_71 : decode cX2_handAllDown 71 = .ok (.aload_n 0, 1) := by decide +kernel
theorem dX2_handAllDown_72 : decode cX2_handAllDown 72 = .ok (.aload_n 1, 1) := by decide +kernel
theorem dX2_handAllDown_73 : decode cX2_handAllDown 73 = .ok (.getfield 81, 3) := by decide +kernel
theorem dX2_handAllDown_76 : decode cX2_handAllDown 76 = .ok (.iload_n 3, 1) := by decide +kernel
theorem dX2_handAllDown_77 : decode cX2_handAllDown 77 = .ok (.invokevirtual 84, 3) := by decide +kernel
theorem dX2_handAllDown_80 : decode cX2_handAllDown 80 = .ok (.aload_n 0, 1) := by decide +kernel
theorem dX2_handAllDown_81 : decode cX2_handAllDown 81 = .ok (.iload 4, 2) := by decide +kernel
theorem dX2_handAllDown_83 : decode cX2_handAllDown 83 = .ok (.iload_n 3, 1) := by decide +kernel
theorem dX2_handAllDown_84 : decode cX2_handAllDown 84 = .ok (.aload_n 1, 1) := by decide +kernel
theorem dX2_handAllDown_85 : decode cX2_handAllDown 85 = .ok (.getfield 46, 3) := by decide +kernel
theorem dX2_handAllDown_88 : decode cX2_handAllDown 88 = .ok (.iload_n 3, 1) := by decide +kernel
theorem dX2_handAllDown_89 : decode cX2_handAllDown 89 = .ok (.invokevirtual 91, 3) := by decide +kernel
theorem dX2_handAllDown_92 : decode cX2_handAllDown 92 = .ok (.invokevirtual 95, 3) := by decide +kernel
theorem dX2_handAllDown_95 : decode cX2_handAllDown 95 = .ok (.iinc 3 1, 3) := by decide +kernel
theorem dX2_handAllDown_98 : decode cX2_handAllDown 98 = .ok (.goto (-66), 3) := by decide +kernel
theorem dX2_handAllDown_101 : decode cX2_handAllDown 101 = .ok (.iinc 2 1, 3) := by decide +kernel
theorem dX2_handAllDown_104 : decode cX2_handAllDown 104 = .ok (.goto (-80), 3) := by decide +kernel
theorem dX2_handAllDown_107 : decode cX2_handAllDown 107 = .ok (.return_, 1) := by decide +kernel
theorem dX2_takeOwn_0 : decode cX2_takeOwn 0 = .ok (.aload_n 0, 1) := by decide +kernel
theorem dX2_takeOwn_1 : decode cX2_takeOwn 1 = .ok (.aload_n 0, 1) := by decide +kernel
theorem dX2_takeOwn_2 : decode cX2_takeOwn 2 = .ok (.getfield 9, 3) := by decide +kernel
theorem dX2_takeOwn_5 : decode cX2_takeOwn 5 = .ok (.iload_n 2, 1) := by decide +kernel
theorem dX2_takeOwn_6 : decode cX2_takeOwn 6 = .ok (.iconst 1, 1) := by decide +kernel
theorem dX2_takeOwn_7 : decode cX2_takeOwn 7 = .ok (.invokestatic 99, 3) := by decide +kernel
theorem dX2_takeOwn_10 : decode cX2_takeOwn 10 = .ok (.putfield 9, 3) := by decide +kernel
theorem dX2_takeOwn_13 : decode cX2_takeOwn 13 = .ok (.aload_n 1, 1) := by decide +kernel
theorem dX2_takeOwn_14 : decode cX2_takeOwn 14 = .ok (.iload_n 2, 1) := by decide +kernel
theorem dX2_takeOwn_15 : decode cX2_takeOwn 15 = .ok (.invokevirtual 103, 3) := by decide +kernel
theorem dX2_takeOwn_18 : decode cX2_takeOwn 18 = .ok (.istore_n 3, 1) := by decide +kernel
theorem dX2_takeOwn_19 : decode cX2_takeOwn 19 = .ok (.iconst 0, 1) := by decide +kernel
theorem dX2_takeOwn_20 : decode cX2_takeOwn 20 = .ok (.istore 4, 2) := by decide +kernel
theorem dX2_takeOwn_22 : decode cX2_takeOwn 22 = .ok (.iload 4, 2) := by decide +kernel
theorem dX2_takeOwn_24 : decode cX2_takeOwn 24 = .ok (.bipush 6, 2) := by decide +kernel
theorem dX2_takeOwn_26 : decode cX2_takeOwn 26 = .ok (.if_icmp .ge 27, 3) := by decide +kernel
theorem dX2_takeOwn_29 : decode cX2_takeOwn 29 = .ok (.iload 4, 2) := by decide +kernel
theorem dX2_takeOwn_31 : decode cX2_takeOwn 31 = .ok (.iload_n 3, 1) := by decide +kernel
theorem dX2_takeOwn_32 : decode cX2_takeOwn 32 = .ok (.if_icmp .ge 21, 3) := by decide +kernel
theorem dX2_takeOwn_35 : decode cX2_takeOwn 35 = .ok (.aload_n 0, 1) := by decide +kernel
theorem dX2_takeOwn_36 : decode cX2_takeOwn 36 = .ok (.iload_n 2, 1) := by decide +kernel
theorem dX2_takeOwn_37 : decode cX2_takeOwn 37 = .ok (.aload_n 1, 1) := by decide +kernel
theorem dX2_takeOwn_38 : decode cX2_takeOwn 38 = .ok (.iload_n 2, 1) := by decide +kernel
theorem dX2_takeOwn_39 : decode cX2_takeOwn 39 = .ok (.iload 4, 2) := by decide +kernel
theorem dX2_takeOwn_41 : decode cX2_takeOwn 41 = .ok (.invokevirtual 108, 3) := by decide +kernel
theorem dX2_takeOwn_44 : decode cX2_takeOwn 44 = .ok (.invokevirtual 111, 3) := by decide +kernel
theorem dX2_takeOwn_47 : decode cX2_takeOwn 47 = .ok (.iinc 4 1, 3) := by decide +kernel
theorem dX2_takeOwn_50 : decode cX2_takeOwn 50 = .ok (.goto (-28), 3) := by decide +kernel
theorem dX2_takeOwn_53 : decode cX2_takeOwn 53 = .ok (.return_, 1) := by decide +kernel
theorem dX2_takeHanded_0 : decode cX2_takeHanded 0 = .ok (.iconst 0, 1) := by decide +kernel
theorem dX2_takeHanded_1 : decode cX2_takeHanded 1 = .ok (.istore 4, 2) := by decide +kernel
theorem dX2_takeHanded_3 : decode cX2_takeHanded 3 = .ok (.iload_n 3, 1) := by decide +kernel
theorem dX2_takeHanded_4 : decode cX2_takeHanded 4 = .ok (.ifCond .eq 50, 3) := by decide +kernel
theorem dX2_takeHanded_7 : decode cX2_takeHanded 7 = .ok (.iload 4, 2) := by decide +kernel
theorem dX2_takeHanded_9 : decode cX2_takeHanded 9 = .ok (.bipush 120, 2) := by decide +kernel
theorem dX2_takeHanded_11 : decode cX2_takeHanded 11 = .ok (.if_icmp .ge 43, 3) := by decide +kernel
theorem dX2_takeHanded_14 : decode cX2_takeHanded 14 = .ok (.iload 4, 2) := by decide +kernel
theorem dX2_takeHanded_16 : decode cX2_takeHanded 16 = .ok (.aload_n 0, 1) := by decide +kernel
theorem dX2_takeHanded_17 : decode cX2_takeHanded 17 = .ok (.iload_n 1, 1) := by decide +kernel
theorem dX2_takeHanded_18 : decode cX2_takeHanded 18 = .ok (.invokevirtual 55, 3) := by decide +kernel
theorem dX2_takeHanded_21 : decode cX2_takeHanded 21 = .ok (.if_icmp .ge 33, 3) := by decide +kernel
theorem dX2_takeHanded_24 : decode cX2_takeHanded 24 = .ok (.aload_n 0, 1) := by decide +kernel
theorem dX2_takeHanded_25 : decode cX2_takeHanded 25 = .ok (.iload_n 1, 1) := by decide +kernel
theorem dX2_takeHanded_26 : decode cX2_takeHanded 26 = .ok (.iload 4, 2) := by decide +kernel
theorem dX2_takeHanded_28 : decode cX2_takeHanded 28 = .ok (.invokevirtual 58, 3) := by decide +kernel
theorem dX2_takeHanded_31 : decode cX2_takeHanded 31 = .ok (.istore 5, 2) := by decide +kernel
theorem dX2_takeHanded_33 : decode cX2_takeHanded 33 = .ok (.iload 5, 2) := by decide +kernel
theorem dX2_takeHanded_35 : decode cX2_takeHanded 35 = .ok (.invokestatic 115, 3) := by decide +kernel
theorem dX2_takeHanded_38 : decode cX2_takeHanded 38 = .ok (.ifCond .eq 10, 3) := by decide +kernel
theorem dX2_takeHanded_41 : decode cX2_takeHanded 41 = .ok (.aload_n 0, 1) := by decide +kernel
theorem dX2_takeHanded_42 : decode cX2_takeHanded 42 = .ok (.iload_n 2, 1) := by decide +kernel
theorem dX2_takeHanded_43 : decode cX2_takeHanded 43 = .ok (.iload 5, 2) := by decide +kernel
theorem dX2_takeHanded_45 : decode cX2_takeHanded 45 = .ok (.invokevirtual 111, 3) := by decide +kernel
theorem dX2_takeHanded_48 : decode cX2_takeHanded 48 = .ok (.iinc 4 1, 3) := by decide +kernel
theorem dX2_takeHanded_51 : decode cX2_takeHanded 51 = .ok (.goto (-48), 3) := by decide +kernel
theorem dX2_takeHanded_54 : decode cX2_takeHanded 54 = .ok (.return_, 1) := by decide +kernel
theorem dX2_lengthAt_0 : decode cX2_lengthAt 0 = .ok (.iload_n 1, 1) := by decide +kernel
theorem dX2_lengthAt_1 : decode cX2_lengthAt 1 = .ok (.bipush 20, 2) := by decide +kernel
theorem dX2_lengthAt_3 : decode cX2_lengthAt 3 = .ok (.invokestatic 118, 3) := by decide +kernel
theorem dX2_lengthAt_6 : decode cX2_lengthAt 6 = .ok (.ifCond .eq 12, 3) := by decide +kernel
theorem dX2_lengthAt_9 : decode cX2_lengthAt 9 = .ok (.aload_n 0, 1) := by decide +kernel
theorem dX2_lengthAt_10 : decode cX2_lengthAt 10 = .ok (.getfield 15, 3) := by decide +kernel
theorem dX2_lengthAt_13 : decode cX2_lengthAt 13 = .ok (.iload_n 1, 1) := by decide +kernel
theorem dX2_lengthAt_14 : decode cX2_lengthAt 14 = .ok (.iaload, 1) := by decide +kernel
theorem dX2_lengthAt_15 : decode cX2_lengthAt 15 = .ok (.goto 4, 3) := by decide +kernel
theorem dX2_lengthAt_18 : decode cX2_lengthAt 18 = .ok (.iconst 0, 1) := by decide +kernel
theorem dX2_lengthAt_19 : decode cX2_lengthAt 19 = .ok (.ireturn, 1) := by decide +kernel
theorem dX2_codeIn_0 : decode cX2_codeIn 0 = .ok (.iload_n 1, 1) := by decide +kernel
theorem dX2_codeIn_1 : decode cX2_codeIn 1 = .ok (.bipush 20, 2) := by decide +kernel
theorem dX2_codeIn_3 : decode cX2_codeIn 3 = .ok (.invokestatic 118, 3) := by decide +kernel
theorem dX2_codeIn_6 : decode cX2_codeIn 6 = .ok (.ifCond .eq 12, 3) := by decide +kernel
theorem dX2_codeIn_9 : decode cX2_codeIn 9 = .ok (.iload_n 2, 1) := by decide +kernel
theorem dX2_codeIn_10 : decode cX2_codeIn 10 = .ok (.bipush 120, 2) := by decide +kernel
theorem dX2_codeIn_12 : decode cX2_codeIn 12 = .ok (.invokestatic 118, 3) := by decide +kernel
theorem dX2_codeIn_15 : decode cX2_codeIn 15 = .ok (.ifCond .ne 5, 3) := by decide +kernel
theorem dX2_codeIn_18 : decode cX2_codeIn 18 = .ok (.iconst 0, 1) := by decide +kernel
theorem dX2_codeIn_19 : decode cX2_codeIn 19 = .ok (.ireturn, 1) := by decide +kernel
theorem dX2_codeIn_20 : decode cX2_codeIn 20 = .ok (.aload_n 0, 1) := by decide +kernel
theorem dX2_codeIn_21 : decode cX2_codeIn 21 = .ok (.getfield 19, 3) := by decide +kernel
theorem dX2_codeIn_24 : decode cX2_codeIn 24 = .ok (.iload_n 1, 1) := by decide +kernel
theorem dX2_codeIn_25 : decode cX2_codeIn 25 = .ok (.bipush 120, 2) := by decide +kernel
theorem dX2_codeIn_27 : decode cX2_codeIn 27 = .ok (.imul, 1) := by decide +kernel
theorem dX2_codeIn_28 : decode cX2_codeIn 28 = .ok (.iload_n 2, 1) := by decide +kernel
theorem dX2_codeIn_29 : decode cX2_codeIn 29 = .ok (.iadd, 1) := by decide +kernel
theorem dX2_codeIn_30 : decode cX2_codeIn 30 = .ok (.iaload, 1) := by decide +kernel
theorem dX2_codeIn_31 : decode cX2_codeIn 31 = .ok (.ireturn, 1) := by decide +kernel
theorem dX2_putLast_0 : decode cX2_putLast 0 = .ok (.iload_n 1, 1) := by decide +kernel
theorem dX2_putLast_1 : decode cX2_putLast 1 = .ok (.bipush 20, 2) := by decide +kernel
theorem dX2_putLast_3 : decode cX2_putLast 3 = .ok (.invokestatic 118, 3) := by decide +kernel
theorem dX2_putLast_6 : decode cX2_putLast 6 = .ok (.ifCond .eq 44, 3) := by decide +kernel
theorem dX2_putLast_9 : decode cX2_putLast 9 = .ok (.aload_n 0, 1) := by decide +kernel
theorem dX2_putLast_10 : decode cX2_putLast 10 = .ok (.getfield 15, 3) := by decide +kernel
theorem dX2_putLast_13 : decode cX2_putLast 13 = .ok (.iload_n 1, 1) := by decide +kernel
theorem dX2_putLast_14 : decode cX2_putLast 14 = .ok (.iaload, 1) := by decide +kernel
theorem dX2_putLast_15 : decode cX2_putLast 15 = .ok (.bipush 120, 2) := by decide +kernel
theorem dX2_putLast_17 : decode cX2_putLast 17 = .ok (.invokestatic 118, 3) := by decide +kernel
theorem dX2_putLast_20 : decode cX2_putLast 20 = .ok (.ifCond .eq 30, 3) := by decide +kernel
theorem dX2_putLast_23 : decode cX2_putLast 23 = .ok (.aload_n 0, 1) := by decide +kernel
theorem dX2_putLast_24 : decode cX2_putLast 24 = .ok (.getfield 19, 3) := by decide +kernel
theorem dX2_putLast_27 : decode cX2_putLast 27 = .ok (.iload_n 1, 1) := by decide +kernel
theorem dX2_putLast_28 : decode cX2_putLast 28 = .ok (.bipush 120, 2) := by decide +kernel
theorem dX2_putLast_30 : decode cX2_putLast 30 = .ok (.imul, 1) := by decide +kernel
theorem dX2_putLast_31 : decode cX2_putLast 31 = .ok (.aload_n 0, 1) := by decide +kernel
theorem dX2_putLast_32 : decode cX2_putLast 32 = .ok (.getfield 15, 3) := by decide +kernel
theorem dX2_putLast_35 : decode cX2_putLast 35 = .ok (.iload_n 1, 1) := by decide +kernel
theorem dX2_putLast_36 : decode cX2_putLast 36 = .ok (.iaload, 1) := by decide +kernel
theorem dX2_putLast_37 : decode cX2_putLast 37 = .ok (.iadd, 1) := by decide +kernel
theorem dX2_putLast_38 : decode cX2_putLast 38 = .ok (.iload_n 2, 1) := by decide +kernel
theorem dX2_putLast_39 : decode cX2_putLast 39 = .ok (.iastore, 1) := by decide +kernel
theorem dX2_putLast_40 : decode cX2_putLast 40 = .ok (.aload_n 0, 1) := by decide +kernel
theorem dX2_putLast_41 : decode cX2_putLast 41 = .ok (.getfield 15, 3) := by decide +kernel
theorem dX2_putLast_44 : decode cX2_putLast 44 = .ok (.iload_n 1, 1) := by decide +kernel
theorem dX2_putLast_45 : decode cX2_putLast 45 = .ok (.dup2, 1) := by decide +kernel
theorem dX2_putLast_46 : decode cX2_putLast 46 = .ok (.iaload, 1) := by decide +kernel
theorem dX2_putLast_47 : decode cX2_putLast 47 = .ok (.iconst 1, 1) := by decide +kernel
theorem dX2_putLast_48 : decode cX2_putLast 48 = .ok (.iadd, 1) := by decide +kernel
theorem dX2_putLast_49 : decode cX2_putLast 49 = .ok (.iastore, 1) := by decide +kernel
theorem dX2_putLast_50 : decode cX2_putLast 50 = .ok (.return_, 1) := by decide +kernel
theorem dX3_init_0 : decode cX3_init 0 = .ok (.aload_n 0, 1) := by decide +kernel
theorem dX3_init_1 : decode cX3_init 1 = .ok (.invokespecial 3, 3) := by decide +kernel
theorem dX3_init_4 : decode cX3_init 4 = .ok (.aload_n 0, 1) := by decide +kernel
theorem dX3_init_5 : decode cX3_init 5 = .ok (.iconst 0, 1) := by decide +kernel
theorem dX3_init_6 : decode cX3_init 6 = .ok (.putfield 9, 3) := by decide +kernel
theorem dX3_init_9 : decode cX3_init 9 = .ok (.aload_n 0, 1) := by decide +kernel
theorem dX3_init_10 : decode cX3_init 10 = .ok (.iconst 0, 1) := by decide +kernel
theorem dX3_init_11 : decode cX3_init 11 = .ok (.putfield 15, 3) := by decide +kernel
theorem dX3_init_14 : decode cX3_init 14 = .ok (.aload_n 0, 1) := by decide +kernel
theorem dX3_init_15 : decode cX3_init 15 = .ok (.iconst 5, 1) := by decide +kernel
theorem dX3_init_16 : decode cX3_init 16 = .ok (.anewarray 18, 3) := by decide +kernel
theorem dX3_init_19 : decode cX3_init 19 = .ok (.putfield 20, 3) := by decide +kernel
theorem dX3_init_22 : decode cX3_init 22 = .ok (.iconst 0, 1) := by decide +kernel
theorem dX3_init_23 : decode cX3_init 23 = .ok (.istore_n 1, 1) := by decide +kernel
theorem dX3_init_24 : decode cX3_init 24 = .ok (.iload_n 1, 1) := by decide +kernel
theorem dX3_init_25 : decode cX3_init 25 = .ok (.iconst 5, 1) := by decide +kernel
theorem dX3_init_26 : decode cX3_init 26 = .ok (.if_icmp .ge 22, 3) := by decide +kernel
theorem dX3_init_29 : decode cX3_init 29 = .ok (.aload_n 0, 1) := by decide +kernel
theorem dX3_init_30 : decode cX3_init 30 = .ok (.getfield 20, 3) := by decide +kernel
theorem dX3_init_33 : decode cX3_init 33 = .ok (.iload_n 1, 1) := by decide +kernel
theorem dX3_init_34 : decode cX3_init 34 = .ok (.new 18, 3) := by decide +kernel
theorem dX3_init_37 : decode cX3_init 37 = .ok (.dup, 1) := by decide +kernel
theorem dX3_init_38 : decode cX3_init 38 = .ok (.invokespecial 24, 3) := by decide +kernel
theorem dX3_init_41 : decode cX3_init 41 = .ok (.aastore, 1) := by decide +kernel
theorem dX3_init_42 : decode cX3_init 42 = .ok (.iinc 1 1, 3) := by decide +kernel
theorem dX3_init_45 : decode cX3_init 45 = .ok (.goto (-21), 3) := by decide +kernel
theorem dX3_init_48 : decode cX3_init 48 = .ok (.return_, 1) := by decide +kernel
theorem dX3_keep_0 : decode cX3_keep 0 = .ok (.aload_n 0, 1) := by decide +kernel
theorem dX3_keep_1 : decode cX3_keep 1 = .ok (.getfield 9, 3) := by decide +kernel
theorem dX3_keep_4 : decode cX3_keep 4 = .ok (.iconst 5, 1) := by decide +kernel
theorem dX3_keep_5 : decode cX3_keep 5 = .ok (.if_icmp .lt 27, 3) := by decide +kernel
theorem dX3_keep_8 : decode cX3_keep 8 = .ok (.aload_n 0, 1) := by decide +kernel
theorem dX3_keep_9 : decode cX3_keep 9 = .ok (.aload_n 0, 1) := by decide +kernel
theorem dX3_keep_10 : decode cX3_keep 10 = .ok (.getfield 15, 3) := by decide +kernel
theorem dX3_keep_13 : decode cX3_keep 13 = .ok (.iconst 1, 1) := by decide +kernel
theorem dX3_keep_14 : decode cX3_keep 14 = .ok (.iadd, 1) := by decide +kernel
theorem dX3_keep_15 : decode cX3_keep 15 = .ok (.iconst 5, 1) := by decide +kernel
theorem dX3_keep_16 : decode cX3_keep 16 = .ok (.invokestatic 25, 3) := by decide +kernel
theorem dX3_keep_19 : decode cX3_keep 19 = .ok (.putfield 15, 3) := by decide +kernel
theorem dX3_keep_22 : decode cX3_keep 22 = .ok (.aload_n 0, 1) := by decide +kernel
theorem dX3_keep_23 : decode cX3_keep 23 = .ok (.dup, 1) := by decide +kernel
theorem dX3_keep_24 : decode cX3_keep 24 = .ok (.getfield 9, 3) := by decide +kernel
theorem dX3_keep_27 : decode cX3_keep 27 = .ok (.iconst 1, 1) := by decide +kernel
theorem dX3_keep_28 : decode cX3_keep 28 = .ok (.isub, 1) := by decide +kernel
theorem dX3_keep_29 : decode cX3_keep 29 = .ok (.putfield 9, 3) := by decide +kernel
theorem dX3_keep_32 : decode cX3_keep 32 = .ok (.aload_n 0, 1) := by decide +kernel
theorem dX3_keep_33 : decode cX3_keep 33 = .ok (.getfield 20, 3) := by decide +kernel
theorem dX3_keep_36 : decode cX3_keep 36 = .ok (.aload_n 0, 1) := by decide +kernel
theorem dX3_keep_37 : decode cX3_keep 37 = .ok (.getfield 15, 3) := by decide +kernel
theorem dX3_keep_40 : decode cX3_keep 40 = .ok (.aload_n 0, 1) := by decide +kernel
theorem dX3_keep_41 : decode cX3_keep 41 = .ok (.getfield 9, 3) := by decide +kernel
theorem dX3_keep_44 : decode cX3_keep 44 = .ok (.iadd, 1) := by decide +kernel
theorem dX3_keep_45 : decode cX3_keep 45 = .ok (.iconst 5, 1) := by decide +kernel
theorem dX3_keep_46 : decode cX3_keep 46 = .ok (.invokestatic 25, 3) := by decide +kernel
theorem dX3_keep_49 : decode cX3_keep 49 = .ok (.aaload, 1) := by decide +kernel
theorem dX3_keep_50 : decode cX3_keep 50 = .ok (.astore_n 2, 1) := by decide +kernel
theorem dX3_keep_51 : decode cX3_keep 51 = .ok (.aload_n 2, 1) := by decide +kernel
theorem dX3_keep_52 : decode cX3_keep 52 = .ok (.ifnull 8, 3) := by decide +kernel
theorem dX3_keep_55 : decode cX3_keep 55 = .ok (.aload_n 2, 1) := by decide +kernel
theorem dX3_keep_56 : decode cX3_keep 56 = .ok (.aload_n 1, 1) := by decide +kernel
theorem dX3_keep_57 : decode cX3_keep 57 = .ok (.invokevirtual 31, 3) := by decide +kernel
theorem dX3_keep_60 : decode cX3_keep 60 = .ok (.aload_n 0, 1) := by decide +kernel
theorem dX3_keep_61 : decode cX3_keep 61 = .ok (.dup, 1) := by decide +kernel
theorem dX3_keep_62 : decode cX3_keep 62 = .ok (.getfield 9, 3) := by decide +kernel
theorem dX3_keep_65 : decode cX3_keep 65 = .ok (.iconst 1, 1) := by decide +kernel
theorem dX3_keep_66 : decode cX3_keep 66 = .ok (.iadd, 1) := by decide +kernel
theorem dX3_keep_67 : decode cX3_keep 67 = .ok (.putfield 9, 3) := by decide +kernel
theorem dX3_keep_70 : decode cX3_keep 70 = .ok (.return_, 1) := by decide +kernel
theorem dX4_init_0 : decode cX4_init 0 = .ok (.aload_n 0, 1) := by decide +kernel
theorem dX4_init_1 : decode cX4_init 1 = .ok (.invokespecial 3, 3) := by decide +kernel
theorem dX4_init_4 : decode cX4_init 4 = .ok (.aload_n 0, 1) := by decide +kernel
theorem dX4_init_5 : decode cX4_init 5 = .ok (.iconst 4, 1) := by decide +kernel
theorem dX4_init_6 : decode cX4_init 6 = .ok (.newarray .int, 2) := by decide +kernel
theorem dX4_init_8 : decode cX4_init 8 = .ok (.putfield 9, 3) := by decide +kernel
theorem dX4_init_11 : decode cX4_init 11 = .ok (.aload_n 0, 1) := by decide +kernel
theorem dX4_init_12 : decode cX4_init 12 = .ok (.iconst 4, 1) := by decide +kernel
theorem dX4_init_13 : decode cX4_init 13 = .ok (.newarray .int, 2) := by decide +kernel
theorem dX4_init_15 : decode cX4_init 15 = .ok (.putfield 15, 3) := by decide +kernel
theorem dX4_init_18 : decode cX4_init 18 = .ok (.aload_n 0, 1) := by decide +kernel
theorem dX4_init_19 : decode cX4_init 19 = .ok (.sipush 240, 3) := by decide +kernel
theorem dX4_init_22 : decode cX4_init 22 = .ok (.newarray .int, 2) := by decide +kernel
theorem dX4_init_24 : decode cX4_init 24 = .ok (.putfield 18, 3) := by decide +kernel
theorem dX4_init_27 : decode cX4_init 27 = .ok (.return_, 1) := by decide +kernel
theorem dX4_grants_0 : decode cX4_grants 0 = .ok (.aload_n 0, 1) := by decide +kernel
theorem dX4_grants_1 : decode cX4_grants 1 = .ok (.aload_n 1, 1) := by decide +kernel
theorem dX4_grants_2 : decode cX4_grants 2 = .ok (.iload_n 2, 1) := by decide +kernel
theorem dX4_grants_3 : decode cX4_grants 3 = .ok (.iload_n 3, 1) := by decide +kernel
theorem dX4_grants_4 : decode cX4_grants 4 = .ok (.invokevirtual 21, 3) := by decide +kernel
theorem dX4_grants_7 : decode cX4_grants 7 = .ok (.iload 4, 2) := by decide +kernel
theorem dX4_grants_9 : decode cX4_grants 9 = .ok (.invokestatic 25, 3) := by decide +kernel
theorem dX4_grants_12 : decode cX4_grants 12 = .ok (.ireturn, 1) := by decide +kernel
theorem dX4_rightsAt_0 : decode cX4_rightsAt 0 = .ok (.aload_n 1, 1) := by decide +kernel
theorem dX4_rightsAt_1 : decode cX4_rightsAt 1 = .ok (.getfield 29, 3) := by decide +kernel
theorem dX4_rightsAt_4 : decode cX4_rightsAt 4 = .ok (.iload_n 2, 1) := by decide +kernel
theorem dX4_rightsAt_5 : decode cX4_rightsAt 5 = .ok (.invokevirtual 35, 3) := by decide +kernel
theorem dX4_rightsAt_8 : decode cX4_rightsAt 8 = .ok (.ifCond .eq 14, 3) := by decide +kernel
theorem dX4_rightsAt_11 : decode cX4_rightsAt 11 = .ok (.aload_n 1, 1) := by decide +kernel
theorem dX4_rightsAt_12 : decode cX4_rightsAt 12 = .ok (.getfield 41, 3) := by decide +kernel
theorem dX4_rightsAt_15 : decode cX4_rightsAt 15 = .ok (.iload_n 3, 1) := by decide +kernel
theorem dX4_rightsAt_16 : decode cX4_rightsAt 16 = .ok (.invokevirtual 45, 3) := by decide +kernel
theorem dX4_rightsAt_19 : decode cX4_rightsAt 19 = .ok (.ifCond .ne 5, 3) := by decide +kernel
theorem dX4_rightsAt_22 : decode cX4_rightsAt 22 = .ok (.iconst 0, 1) := by decide +kernel
theorem dX4_rightsAt_23 : decode cX4_rightsAt 23 = .ok (.ireturn, 1) := by decide +kernel
theorem dX4_rightsAt_24 : decode cX4_rightsAt 24 = .ok (.aload_n 0, 1) := by decide +kernel
theorem dX4_rightsAt_25 : decode cX4_rightsAt 25 = .ok (.aload_n 1, 1) := by decide +kernel
theorem dX4_rightsAt_26 : decode cX4_rightsAt 26 = .ok (.iload_n 2, 1) := by decide +kernel
theorem dX4_rightsAt_27 : decode cX4_rightsAt 27 = .ok (.iload_n 3, 1) := by decide +kernel
theorem dX4_rightsAt_28 : decode cX4_rightsAt 28 = .ok (.invokevirtual 50, 3) := by decide +kernel
theorem dX4_rightsAt_31 : decode cX4_rightsAt 31 = .ok (.iconst 0, 1) := by decide +kernel
theorem dX4_rightsAt_32 : decode cX4_rightsAt 32 = .ok (.istore 4, 2) := by decide +kernel
theorem dX4_rightsAt_34 : decode cX4_rightsAt 34 = .ok (.iconst 0, 1) := by decide +kernel
theorem dX4_rightsAt_35 : decode cX4_rightsAt 35 = .ok (.istore 5, 2) := by decide +kernel
theorem dX4_rightsAt_37 : decode cX4_rightsAt 37 = .ok (.iload 5, 2) := by decide +kernel
theorem dX4_rightsAt_39 : decode cX4_rightsAt 39 = .ok (.iconst 4, 1) := by decide +kernel
theorem dX4_rightsAt_40 : decode cX4_rightsAt 40 = .ok (.if_icmp .ge 36, 3) := by decide +kernel
theorem dX4_rightsAt_43 : decode cX4_rightsAt 43 = .ok (.aload_n 1, 1) := by decide +kernel
theorem dX4_rightsAt_44 : decode cX4_rightsAt 44 = .ok (.iload_n 2, 1) := by decide +kernel
theorem dX4_rightsAt_45 : decode cX4_rightsAt 45 = .ok (.iload_n 3, 1) := by decide +kernel
theorem dX4_rightsAt_46 : decode cX4_rightsAt 46 = .ok (.iload 5, 2) := by decide +kernel
theorem dX4_rightsAt_48 : decode cX4_rightsAt 48 = .ok (.aload_n 0, 1) := by decide +kernel
theorem dX4_rightsAt_49 : decode cX4_rightsAt 49 = .ok (.getfield 15, 3) := by decide +kernel
theorem dX4_rightsAt_52 : decode cX4_rightsAt 52 = .ok (.iload 5, 2) := by decide +kernel
theorem dX4_rightsAt_54 : decode cX4_rightsAt 54 = .ok (.iaload, 1) := by decide +kernel
theorem dX4_rightsAt_55 : decode cX4_rightsAt 55 = .ok (.invokevirtual 54, 3) := by decide +kernel
theorem dX4_rightsAt_58 : decode cX4_rightsAt 58 = .ok (.ifCond .eq 12, 3) := by decide +kernel
theorem dX4_rightsAt_61 : decode cX4_rightsAt 61 = .ok (.iload 4, 2) := by decide +kernel
theorem dX4_rightsAt_63 : decode cX4_rightsAt 63 = .ok (.iconst 1, 1) := by decide +kernel
theorem dX4_rightsAt_64 : decode cX4_rightsAt 64 = .ok (.iload 5, 2) := by decide +kernel
theorem dX4_rightsAt_66 : decode cX4_rightsAt 66 = .ok (.ishl, 1) := by decide +kernel
theorem dX4_rightsAt_67 : decode cX4_rightsAt 67 = .ok (.ior, 1) := by decide +kernel
theorem dX4_rightsAt_68 : decode cX4_rightsAt 68 = .ok (.istore 4, 2) := by decide +kernel
theorem dX4_rightsAt_70 : decode cX4_rightsAt 70 = .ok (.iinc 5 1, 3) := by decide +kernel
theorem dX4_rightsAt_73 : decode cX4_rightsAt 73 = .ok (.goto (-36), 3) := by decide +kernel
theorem dX4_rightsAt_76 : decode cX4_rightsAt 76 = .ok (.iload 4, 2) := by decide +kernel
theorem dX4_rightsAt_78 : decode cX4_rightsAt 78 = .ok (.ireturn, 1) := by decide +kernel
theorem dX4_decidingPlace_0 : decode cX4_decidingPlace 0 = .ok (.aload_n 0, 1) := by decide +kernel
theorem dX4_decidingPlace_1 : decode cX4_decidingPlace 1 = .ok (.aload_n 1, 1) := by decide +kernel
theorem dX4_decidingPlace_2 : decode cX4_decidingPlace 2 = .ok (.iload_n 2, 1) := by decide +kernel
theorem dX4_decidingPlace_3 : decode cX4_decidingPlace 3 = .ok (.iload_n 3, 1) := by decide +kernel
theorem dX4_decidingPlace_4 : decode cX4_decidingPlace 4 = .ok (.invokevirtual 50, 3) := by decide +kernel
theorem dX4_decidingPlace_7 : decode cX4_decidingPlace 7 = .ok (.iload 4, 2) := by decide +kernel
theorem dX4_decidingPlace_9 : decode cX4_decidingPlace 9 = .ok (.iconst 4, 1) := by decide +kernel
theorem dX4_decidingPlace_10 : decode cX4_decidingPlace 10 = .ok (.invokestatic 58, 3) := by decide +kernel
theorem dX4_decidingPlace_13 : decode cX4_decidingPlace 13 = .ok (.ifCond .eq 13, 3) := by decide +kernel
theorem dX4_decidingPlace_16 : decode cX4_decidingPlace 16 = .ok (.aload_n 0, 1) := by decide +kernel
theorem dX4_decidingPlace_17 : decode cX4_decidingPlace 17 = .ok (.getfield 9, 3) := by decide +kernel
theorem dX4_decidingPlace_20 : decode cX4_decidingPlace 20 = .ok (.iload 4, 2) := by decide +kernel
theorem dX4_decidingPlace_22 : decode cX4_decidingPlace 22 = .ok (.iaload, 1) := by decide +kernel
theorem dX4_decidingPlace_23 : decode cX4_decidingPlace 23 = .ok (.goto 4, 3) := by decide +kernel
theorem dX4_decidingPlace_26 : decode cX4_decidingPlace 26 = .ok (.iconst (-1), 1) := by decide +kernel
theorem dX4_decidingPlace_27 : decode cX4_decidingPlace 27 = .ok (.ireturn, 1) := by decide +kernel
theorem dX4_isStopped_0 : decode cX4_isStopped 0 = .ok (.aload_n 0, 1) := by decide +kernel
theorem dX4_isStopped_1 : decode cX4_isStopped 1 = .ok (.aload_n 1, 1) := by decide +kernel
theorem dX4_isStopped_2 : decode cX4_isStopped 2 = .ok (.iload_n 2, 1) := by decide +kernel
theorem dX4_isStopped_3 : decode cX4_isStopped 3 = .ok (.iload_n 3, 1) := by decide +kernel
theorem dX4_isStopped_4 : decode cX4_isStopped 4 = .ok (.invokevirtual 21, 3) := by decide +kernel
theorem dX4_isStopped_7 : decode cX4_isStopped 7 = .ok (.iload 4, 2) := by decide +kernel
theorem dX4_isStopped_9 : decode cX4_isStopped 9 = .ok (.invokestatic 25, 3) := by decide +kernel
theorem dX4_isStopped_12 : decode cX4_isStopped 12 = .ok (.ifCond .ne 29, 3) := by decide +kernel
theorem dX4_isStopped_15 : decode cX4_isStopped 15 = .ok (.iload 4, 2) := by decide +kernel
theorem dX4_isStopped_17 : decode cX4_isStopped 17 = .ok (.iconst 4, 1) := by decide +kernel
theorem dX4_isStopped_18 : decode cX4_isStopped 18 = .ok (.invokestatic 58, 3) := by decide +kernel
theorem dX4_isStopped_21 : decode cX4_isStopped 21 = .ok (.ifCond .eq 20, 3) := by decide +kernel
theorem dX4_isStopped_24 : decode cX4_isStopped 24 = .ok (.aload_n 0, 1) := by decide +kernel
theorem dX4_isStopped_25 : decode cX4_isStopped 25 = .ok (.getfield 15, 3) := by decide +kernel
theorem dX4_isStopped_28 : decode cX4_isStopped 28 = .ok (.iload 4, 2) := by decide +kernel
theorem dX4_isStopped_30 : decode cX4_isStopped 30 = .ok (.iaload, 1) := by decide +kernel
theorem dX4_isStopped_31 : decode cX4_isStopped 31 = .ok (.invokestatic 61, 3) := by decide +kernel
theorem dX4_isStopped_34 : decode cX4_isStopped 34 = .ok (.ifCond .eq 7, 3) := by decide +kernel
theorem dX4_isStopped_37 : decode cX4_isStopped 37 = .ok (.iconst 1, 1) := by decide +kernel
theorem dX4_isStopped_38 : decode cX4_isStopped 38 = .ok (.goto 4, 3) := by decide +kernel
theorem dX4_isStopped_41 : decode cX4_isStopped 41 = .ok (.iconst 0, 1) := by decide +kernel
theorem dX4_isStopped_42 : decode cX4_isStopped 42 = .ok (.ireturn, 1) := by decide +kernel
theorem dX4_countUsers_0 : decode cX4_countUsers 0 = .ok (.iconst 0, 1) := by decide +kernel
theorem dX4_countUsers_1 : decode cX4_countUsers 1 = .ok (.istore 4, 2) := by decide +kernel
theorem dX4_countUsers_3 : decode cX4_countUsers 3 = .ok (.iconst 0, 1) := by decide +kernel
theorem dX4_countUsers_4 : decode cX4_countUsers 4 = .ok (.istore 5, 2) := by decide +kernel
theorem dX4_countUsers_6 : decode cX4_countUsers 6 = .ok (.iload 5, 2) := by decide +kernel
theorem dX4_countUsers_8 : decode cX4_countUsers 8 = .ok (.bipush 12, 2) := by decide +kernel
theorem dX4_countUsers_10 : decode cX4_countUsers 10 = .ok (.if_icmp .ge 39, 3) := by decide +kernel
theorem dX4_countUsers_13 : decode cX4_countUsers 13 = .ok (.iload 5, 2) := by decide +kernel
theorem dX4_countUsers_15 : decode cX4_countUsers 15 = .ok (.aload_n 1, 1) := by decide +kernel
theorem dX4_countUsers_16 : decode cX4_countUsers 16 = .ok (.getfield 29, 3) := by decide +kernel
theorem dX4_countUsers_19 : decode cX4_countUsers 19 = .ok (.getfield 66, 3) := by decide +kernel
theorem dX4_countUsers_22 : decode cX4_countUsers 22 = .ok (.if_icmp .ge 27, 3) := by decide +kernel
theorem dX4_countUsers_25 : decode cX4_countUsers 25 = .ok (.aload_n 0, 1) := by decide +kernel
theorem dX4_countUsers_26 : decode cX4_countUsers 26 = .ok (.aload_n 1, 1) := by decide +kernel
theorem dX4_countUsers_27 : decode cX4_countUsers 27 = .ok (.iload 5, 2) := by decide +kernel
theorem dX4_countUsers_29 : decode cX4_countUsers 29 = .ok (.iload_n 2, 1) := by decide +kernel
theorem dX4_countUsers_30 : decode cX4_countUsers 30 = .ok (.invokevirtual 21, 3) := by decide +kernel
theorem dX4_countUsers_33 : decode cX4_countUsers 33 = .ok (.iload_n 3, 1) := by decide +kernel
theorem dX4_countUsers_34 : decode cX4_countUsers 34 = .ok (.invokestatic 25, 3) := by decide +kernel
theorem dX4_countUsers_37 : decode cX4_countUsers 37 = .ok (.ifCond .eq 6, 3) := by decide +kernel
theorem dX4_countUsers_40 : decode cX4_countUsers 40 = .ok (.iinc 4 1, 3) := by decide +kernel
theorem dX4_countUsers_43 : decode cX4_countUsers 43 = .ok (.iinc 5 1, 3) := by decide +kernel
theorem dX4_countUsers_46 : decode cX4_countUsers 46 = .ok (.goto (-40), 3) := by decide +kernel
theorem dX4_countUsers_49 : decode cX4_countUsers 49 = .ok (.iload 4, 2) := by decide +kernel
theorem dX4_countUsers_51 : decode cX4_countUsers 51 = .ok (.ireturn, 1) := by decide +kernel
theorem dX4_countThrough_0 : decode cX4_countThrough 0 = .ok (.iconst 0, 1) := by decide +kernel
theorem dX4_countThrough_1 : decode cX4_countThrough 1 = .ok (.istore 4, 2) := by decide +kernel
theorem dX4_countThrough_3 : decode cX4_countThrough 3 = .ok (.iconst 0, 1) := by decide +kernel
theorem dX4_countThrough_4 : decode cX4_countThrough 4 = .ok (.istore 5, 2) := by decide +kernel
theorem dX4_countThrough_6 : decode cX4_countThrough 6 = .ok (.iload 5, 2) := by decide +kernel
theorem dX4_countThrough_8 : decode cX4_countThrough 8 = .ok (.bipush 20, 2) := by decide +kernel
theorem dX4_countThrough_10 : decode cX4_countThrough 10 = .ok (.if_icmp .ge 40, 3) := by decide +kernel
theorem dX4_countThrough_13 : decode cX4_countThrough 13 = .ok (.aload_n 0, 1) := by decide +kernel
theorem dX4_countThrough_14 : decode cX4_countThrough 14 = .ok (.aload_n 1, 1) := by decide +kernel
theorem dX4_countThrough_15 : decode cX4_countThrough 15 = .ok (.iload_n 2, 1) := by decide +kernel
theorem dX4_countThrough_16 : decode cX4_countThrough 16 = .ok (.iload 5, 2) := by decide +kernel
theorem dX4_countThrough_18 : decode cX4_countThrough 18 = .ok (.invokevirtual 21, 3) := by decide +kernel
theorem dX4_countThrough_21 : decode cX4_countThrough 21 = .ok (.istore 6, 2) := by decide +kernel
theorem dX4_countThrough_23 : decode cX4_countThrough 23 = .ok (.iload 6, 2) := by decide +kernel
theorem dX4_countThrough_25 : decode cX4_countThrough 25 = .ok (.ifCond .eq 19, 3) := by decide +kernel
theorem dX4_countThrough_28 : decode cX4_countThrough 28 = .ok (.iload 4, 2) := by decide +kernel
theorem dX4_countThrough_30 : decode cX4_countThrough 30 = .ok (.iload 6, 2) := by decide +kernel
theorem dX4_countThrough_32 : decode cX4_countThrough 32 = .ok (.aload_n 0, 1) := by decide +kernel
theorem dX4_countThrough_33 : decode cX4_countThrough 33 = .ok (.iload_n 3, 1) := by decide +kernel
theorem dX4_countThrough_34 : decode cX4_countThrough 34 = .ok (.invokevirtual 70, 3) := by decide +kernel
theorem dX4_countThrough_37 : decode cX4_countThrough 37 = .ok (.iand, 1) := by decide +kernel
theorem dX4_countThrough_38 : decode cX4_countThrough 38 = .ok (.invokestatic 74, 3) := by decide +kernel
theorem dX4_countThrough_41 : decode cX4_countThrough 41 = .ok (.iadd, 1) := by decide +kernel
theorem dX4_countThrough_42 : decode cX4_countThrough 42 = .ok (.istore 4, 2) := by decide +kernel
theorem dX4_countThrough_44 : decode cX4_countThrough 44 = .ok (.iinc 5 1, 3) := by decide +kernel
theorem dX4_countThrough_47 : decode cX4_countThrough 47 = .ok (.goto (-41), 3) := by decide +kernel
theorem dX4_countThrough_50 : decode cX4_countThrough 50 = .ok (.iload 4, 2) := by decide +kernel
theorem dX4_countThrough_52 : decode cX4_countThrough 52 = .ok (.ireturn, 1) := by decide +kernel
theorem dX4_decidedFor_0 : decode cX4_decidedFor 0 = .ok (.iconst 0, 1) := by decide +kernel
theorem dX4_decidedFor_1 : decode cX4_decidedFor 1 = .ok (.istore_n 2, 1) := by decide +kernel
theorem dX4_decidedFor_2 : decode cX4_decidedFor 2 = .ok (.iconst 0, 1) := by decide +kernel
theorem dX4_decidedFor_3 : decode cX4_decidedFor 3 = .ok (.istore_n 3, 1) := by decide +kernel
theorem dX4_decidedFor_4 : decode cX4_decidedFor 4 = .ok (.iload_n 3, 1) := by decide +kernel
theorem dX4_decidedFor_5 : decode cX4_decidedFor 5 = .ok (.iconst 4, 1) := by decide +kernel
theorem dX4_decidedFor_6 : decode cX4_decidedFor 6 = .ok (.if_icmp .ge 49, 3) := by decide +kernel
theorem dX4_decidedFor_9 : decode cX4_decidedFor 9 = .ok (.aload_n 0, 1) := by decide +kernel
theorem dX4_decidedFor_10 : decode cX4_decidedFor 10 = .ok (.getfield 15, 3) := by decide +kernel
theorem dX4_decidedFor_13 : decode cX4_decidedFor 13 = .ok (.iload_n 3, 1) := by decide +kernel
theorem dX4_decidedFor_14 : decode cX4_decidedFor 14 = .ok (.iaload, 1) := by decide +kernel
theorem dX4_decidedFor_15 : decode cX4_decidedFor 15 = .ok (.istore 4, 2) := by decide +kernel
theorem dX4_decidedFor_17 : decode cX4_decidedFor 17 = .ok (.iload 4, 2) := by decide +kernel
theorem dX4_decidedFor_19 : decode cX4_decidedFor 19 = .ok (.invokestatic 61, 3) := by decide +kernel
theorem dX4_decidedFor_22 : decode cX4_decidedFor 22 = .ok (.ifCond .eq 27, 3) := by decide +kernel
theorem dX4_decidedFor_25 : decode cX4_decidedFor 25 = .ok (.iload 4, 2) := by decide +kernel
theorem dX4_decidedFor_27 : decode cX4_decidedFor 27 = .ok (.invokestatic 79, 3) := by decide +kernel
theorem dX4_decidedFor_30 : decode cX4_decidedFor 30 = .ok (.iconst 1, 1) := by decide +kernel
theorem dX4_decidedFor_31 : decode cX4_decidedFor 31 = .ok (.if_icmp .ne 18, 3) := by decide +kernel
theorem dX4_decidedFor_34 : decode cX4_decidedFor 34 = .ok (.iload 4, 2) := by decide +kernel
theorem dX4_decidedFor_36 : decode cX4_decidedFor 36 = .ok (.invokestatic 82, 3) := by decide +kernel
theorem dX4_decidedFor_39 : decode cX4_decidedFor 39 = .ok (.iload_n 1, 1) := by decide +kernel
theorem dX4_decidedFor_40 : decode cX4_decidedFor 40 = .ok (.if_icmp .ne 9, 3) := by decide +kernel
theorem dX4_decidedFor_43 : decode cX4_decidedFor 43 = .ok (.iload_n 2, 1) := by decide +kernel
theorem dX4_decidedFor_44 : decode cX4_decidedFor 44 = .ok (.iconst 1, 1) := by decide +kernel
theorem dX4_decidedFor_45 : decode cX4_decidedFor 45 = .ok (.iload_n 3, 1) := by decide +kernel
theorem dX4_decidedFor_46 : decode cX4_decidedFor 46 = .ok (.ishl, 1) := by decide +kernel
theorem dX4_decidedFor_47 : decode cX4_decidedFor 47 = .ok (.ior, 1) := by decide +kernel
theorem dX4_decidedFor_48 : decode cX4_decidedFor 48 = .ok (.istore_n 2, 1) := by decide +kernel
theorem dX4_decidedFor_49 : decode cX4_decidedFor 49 = .ok (.iinc 3 1, 3) := by decide +kernel
theorem dX4_decidedFor_52 : decode cX4_decidedFor 52 = .ok (.goto (-48), 3) := by decide +kernel
theorem dX4_decidedFor_55 : decode cX4_decidedFor 55 = .ok (.iload_n 2, 1) := by decide +kernel
theorem dX4_decidedFor_56 : decode cX4_decidedFor 56 = .ok (.ireturn, 1) := by decide +kernel
theorem dX4_countAll_0 : decode cX4_countAll 0 = .ok (.iconst 0, 1) := by decide +kernel
theorem dX4_countAll_1 : decode cX4_countAll 1 = .ok (.istore_n 2, 1) := by decide +kernel
theorem dX4_countAll_2 : decode cX4_countAll 2 = .ok (.iconst 0, 1) := by decide +kernel
theorem dX4_countAll_3 : decode cX4_countAll 3 = .ok (.istore_n 3, 1) := by decide +kernel
theorem dX4_countAll_4 : decode cX4_countAll 4 = .ok (.iload_n 3, 1) := by decide +kernel
theorem dX4_countAll_5 : decode cX4_countAll 5 = .ok (.bipush 12, 2) := by decide +kernel
theorem dX4_countAll_7 : decode cX4_countAll 7 = .ok (.if_icmp .ge 39, 3) := by decide +kernel
theorem dX4_countAll_10 : decode cX4_countAll 10 = .ok (.iconst 0, 1) := by decide +kernel
theorem dX4_countAll_11 : decode cX4_countAll 11 = .ok (.istore 4, 2) := by decide +kernel
theorem dX4_countAll_13 : decode cX4_countAll 13 = .ok (.iload 4, 2) := by decide +kernel
theorem dX4_countAll_15 : decode cX4_countAll 15 = .ok (.bipush 20, 2) := by decide +kernel
theorem dX4_countAll_17 : decode cX4_countAll 17 = .ok (.if_icmp .ge 23, 3) := by decide +kernel
theorem dX4_countAll_20 : decode cX4_countAll 20 = .ok (.iload_n 2, 1) := by decide +kernel
theorem dX4_countAll_21 : decode cX4_countAll 21 = .ok (.aload_n 0, 1) := by decide +kernel
theorem dX4_countAll_22 : decode cX4_countAll 22 = .ok (.aload_n 1, 1) := by decide +kernel
theorem dX4_countAll_23 : decode cX4_countAll 23 = .ok (.iload_n 3, 1) := by decide +kernel
theorem dX4_countAll_24 : decode cX4_countAll 24 = .ok (.iload 4, 2) := by decide +kernel
theorem dX4_countAll_26 : decode cX4_countAll 26 = .ok (.invokevirtual 21, 3) := by decide +kernel
theorem dX4_countAll_29 : decode cX4_countAll 29 = .ok (.invokestatic 74, 3) := by decide +kernel
theorem dX4_countAll_32 : decode cX4_countAll 32 = .ok (.iadd, 1) := by decide +kernel
theorem dX4_countAll_33 : decode cX4_countAll 33 = .ok (.istore_n 2, 1) := by decide +kernel
theorem dX4_countAll_34 : decode cX4_countAll 34 = .ok (.iinc 4 1, 3) := by decide +kernel
theorem dX4_countAll_37 : decode cX4_countAll 37 = .ok (.goto (-24), 3) := by decide +kernel
theorem dX4_countAll_40 : decode cX4_countAll 40 = .ok (.iinc 3 1, 3) := by decide +kernel
theorem dX4_countAll_43 : decode cX4_countAll 43 = .ok (.goto (-39), 3) := by decide +kernel
theorem dX4_countAll_46 : decode cX4_countAll 46 = .ok (.iload_n 2, 1) := by decide +kernel
theorem dX4_countAll_47 : decode cX4_countAll 47 = .ok (.ireturn, 1) := by decide +kernel
theorem dX4_keepTable_0 : decode cX4_keepTable 0 = .ok (.iconst 0, 1) := by decide +kernel
theorem dX4_keepTable_1 : decode cX4_keepTable 1 = .ok (.istore_n 2, 1) := by decide +kernel
theorem dX4_keepTable_2 : decode cX4_keepTable 2 = .ok (.iload_n 2, 1) := by decide +kernel
theorem dX4_keepTable_3 : decode cX4_keepTable 3 = .ok (.bipush 12, 2) := by decide +kernel
theorem dX4_keepTable_5 : decode cX4_keepTable 5 = .ok (.if_icmp .ge 41, 3) := by decide +kernel
theorem dX4_keepTable_8 : decode cX4_keepTable 8 = .ok (.iconst 0, 1) := by decide +kernel
theorem dX4_keepTable_9 : decode cX4_keepTable 9 = .ok (.istore_n 3, 1) := by decide +kernel
theorem dX4_keepTable_10 : decode cX4_keepTable 10 = .ok (.iload_n 3, 1) := by decide +kernel
theorem dX4_keepTable_11 : decode cX4_keepTable 11 = .ok (.bipush 20, 2) := by decide +kernel
theorem dX4_keepTable_13 : decode cX4_keepTable 13 = .ok (.if_icmp .ge 27, 3) := by decide +kernel
theorem dX4_keepTable_16 : decode cX4_keepTable 16 = .ok (.aload_n 0, 1) := by decide +kernel
theorem dX4_keepTable_17 : decode cX4_keepTable 17 = .ok (.getfield 18, 3) := by decide +kernel
theorem dX4_keepTable_20 : decode cX4_keepTable 20 = .ok (.iload_n 2, 1) := by decide +kernel
theorem dX4_keepTable_21 : decode cX4_keepTable 21 = .ok (.bipush 20, 2) := by decide +kernel
theorem dX4_keepTable_23 : decode cX4_keepTable 23 = .ok (.imul, 1) := by decide +kernel
theorem dX4_keepTable_24 : decode cX4_keepTable 24 = .ok (.iload_n 3, 1) := by decide +kernel
theorem dX4_keepTable_25 : decode cX4_keepTable 25 = .ok (.iadd, 1) := by decide +kernel
theorem dX4_keepTable_26 : decode cX4_keepTable 26 = .ok (.aload_n 0, 1) := by decide +kernel
theorem dX4_keepTable_27 : decode cX4_keepTable 27 = .ok (.aload_n 1, 1) := by decide +kernel
theorem dX4_keepTable_28 : decode cX4_keepTable 28 = .ok (.iload_n 2, 1) := by decide +kernel
theorem dX4_keepTable_29 : decode cX4_keepTable 29 = .ok (.iload_n 3, 1) := by decide +kernel
theorem dX4_keepTable_30 : decode cX4_keepTable 30 = .ok (.invokevirtual 21, 3) := by decide +kernel
theorem dX4_keepTable_33 : decode cX4_keepTable 33 = .ok (.iastore, 1) := by decide +kernel
theorem dX4_keepTable_34 : decode cX4_keepTable 34 = .ok (.iinc 3 1, 3) := by decide +kernel
theorem dX4_keepTable_37 : decode cX4_keepTable 37 = .ok (.goto (-27), 3) := by decide +kernel
theorem dX4_keepTable_40 : decode cX4_keepTable 40 = .ok (.iinc 2 1, 3) := by decide +kernel
theorem dX4_keepTable_43 : decode cX4_keepTable 43 = .ok (.goto (-41), 3) := by decide +kernel
theorem dX4_keepTable_46 : decode cX4_keepTable 46 = .ok (.return_, 1) := by decide +kernel
theorem dX4_countDifferences_0 : decode cX4_countDifferences 0 = .ok (.iconst 0, 1) := by decide +kernel
theorem dX4_countDifferences_1 : decode cX4_countDifferences 1 = .ok (.istore_n 2, 1) := by decide +kernel
theorem dX4_countDifferences_2 : decode cX4_countDifferences 2 = .ok (.iconst 0, 1) := by decide +kernel
theorem dX4_countDifferences_3 : decode cX4_countDifferences 3 = .ok (.istore_n 3, 1) := by decide +kernel
theorem dX4_countDifferences_4 : decode cX4_countDifferences 4 = .ok (.iload_n 3, 1) := by decide +kernel
theorem dX4_countDifferences_5 : decode cX4_countDifferences 5 = .ok (.bipush 12, 2) := by decide +kernel
theorem dX4_countDifferences_7 : decode cX4_countDifferences 7 = .ok (.if_icmp .ge 56, 3) := by decide +kernel
theorem dX4_countDifferences_10 : decode cX4_countDifferences 10 = .ok (.iconst 0, 1) := by decide +kernel
theorem dX4_countDifferences_11 : decode cX4_countDifferences 11 = .ok (.istore 4, 2) := by decide +kernel
theorem dX4_countDifferences_13 : decode cX4_countDifferences 13 = .ok (.iload 4, 2) := by decide +kernel
theorem dX4_countDifferences_15 : decode cX4_countDifferences 15 = .ok (.bipush 20, 2) := by decide +kernel
theorem dX4_countDifferences_17 : decode cX4_countDifferences 17 = .ok (.if_icmp .ge 40, 3) := by decide +kernel
theorem dX4_countDifferences_20 : decode cX4_countDifferences 20 = .ok (.aload_n 0, 1) := by decide +kernel
theorem dX4_countDifferences_21 : decode cX4_countDifferences 21 = .ok (.getfield 18, 3) := by decide +kernel
theorem dX4_countDifferences_24 : decode cX4_countDifferences 24 = .ok (.iload_n 3, 1) := by decide +kernel
theorem dX4_countDifferences_25 : decode cX4_countDifferences 25 = .ok (.bipush 20, 2) := by decide +kernel
theorem dX4_countDifferences_27 : decode cX4_countDifferences 27 = .ok (.imul, 1) := by decide +kernel
theorem dX4_countDifferences_28 : decode cX4_countDifferences 28 = .ok (.iload 4, 2) := by decide +kernel
theorem dX4_countDifferences_30 : decode cX4_countDifferences 30 = .ok (.iadd, 1) := by decide +kernel
theorem dX4_countDifferences_31 : decode cX4_countDifferences 31 = .ok (.iaload, 1) := by decide +kernel
theorem dX4_countDifferences_32 : decode cX4_countDifferences 32 = .ok (.istore 5, 2) := by decide +kernel
theorem dX4_countDifferences_34 : decode cX4_countDifferences 34 = .ok (.iload_n 2, 1) := by decide +kernel
theorem dX4_countDifferences_35 : decode cX4_countDifferences 35 = .ok (.iload 5, 2) := by decide +kernel
theorem dX4_countDifferences_37 : decode cX4_countDifferences 37 = .ok (.aload_n 0, 1) := by decide +kernel
theorem dX4_countDifferences_38 : decode cX4_countDifferences 38 = .ok (.aload_n 1, 1) := by decide +kernel
theorem dX4_countDifferences_39 : decode cX4_countDifferences 39 = .ok (.iload_n 3, 1) := by decide +kernel
theorem dX4_countDifferences_40 : decode cX4_countDifferences 40 = .ok (.iload 4, 2) := by decide +kernel
theorem dX4_countDifferences_42 : decode cX4_countDifferences 42 = .ok (.invokevirtual 21, 3) := by decide +kernel
theorem dX4_countDifferences_45 : decode cX4_countDifferences 45 = .ok (.ixor, 1) := by decide +kernel
theorem dX4_countDifferences_46 : decode cX4_countDifferences 46 = .ok (.invokestatic 74, 3) := by decide +kernel
theorem dX4_countDifferences_49 : decode cX4_countDifferences 49 = .ok (.iadd, 1) := by decide +kernel
theorem dX4_countDifferences_50 : decode cX4_countDifferences 50 = .ok (.istore_n 2, 1) := by decide +kernel
theorem dX4_countDifferences_51 : decode cX4_countDifferences 51 = .ok (.iinc 4 1, 3) := by decide +kernel
theorem dX4_countDifferences_54 : decode cX4_countDifferences 54 = .ok (.goto (-41), 3) := by decide +kernel
theorem dX4_countDifferences_57 : decode cX4_countDifferences 57 = .ok (.iinc 3 1, 3) := by decide +kernel
theorem dX4_countDifferences_60 : decode cX4_countDifferences 60 = .ok (.goto (-56), 3) := by decide +kernel
theorem dX4_countDifferences_63 : decode cX4_countDifferences 63 = .ok (.iload_n 2, 1) := by decide +kernel
theorem dX4_countDifferences_64 : decode cX4_countDifferences 64 = .ok (.ireturn, 1) := by decide +kernel
theorem dX4_decide_0 : decode cX4_decide 0 = .ok (.aload_n 0, 1) := by decide +kernel
theorem dX4_decide_1 : decode cX4_decide 1 = .ok (.getfield 9, 3) := by decide +kernel
theorem dX4_decide_4 : decode cX4_decide 4 = .ok (.iconst (-1), 1) := by decide +kernel
theorem dX4_decide_5 : decode cX4_decide 5 = .ok (.invokestatic 85, 3) := by decide +kernel
theorem dX4_decide_8 : decode cX4_decide 8 = .ok (.aload_n 0, 1) := by decide +kernel
theorem dX4_decide_9 : decode cX4_decide 9 = .ok (.getfield 15, 3) := by decide +kernel
theorem dX4_decide_12 : decode cX4_decide 12 = .ok (.iconst 0, 1) := by decide +kernel
theorem dX4_decide_13 : decode cX4_decide 13 = .ok (.invokestatic 85, 3) := by decide +kernel
theorem dX4_decide_16 : decode cX4_decide 16 = .ok (.aload_n 1, 1) := by decide +kernel
theorem dX4_decide_17 : decode cX4_decide 17 = .ok (.getfield 29, 3) := by decide +kernel
theorem dX4_decide_20 : decode cX4_decide 20 = .ok (.iload_n 2, 1) := by decide +kernel
theorem dX4_decide_21 : decode cX4_decide 21 = .ok (.invokevirtual 91, 3) := by decide +kernel
theorem dX4_decide_24 : decode cX4_decide 24 = .ok (.istore 4, 2) := by decide +kernel
theorem dX4_decide_26 : decode cX4_decide 26 = .ok (.aload_n 1, 1) := by decide +kernel
theorem dX4_decide_27 : decode cX4_decide 27 = .ok (.getfield 41, 3) := by decide +kernel
theorem dX4_decide_30 : decode cX4_decide 30 = .ok (.iload_n 3, 1) := by decide +kernel
theorem dX4_decide_31 : decode cX4_decide 31 = .ok (.invokevirtual 94, 3) := by decide +kernel
theorem dX4_decide_34 : decode cX4_decide 34 = .ok (.iload_n 2, 1) := by decide +kernel
theorem dX4_decide_35 : decode cX4_decide 35 = .ok (.if_icmp .ne 7, 3) := by decide +kernel
theorem dX4_decide_38 : decode cX4_decide 38 = .ok (.iconst 1, 1) := by decide +kernel
theorem dX4_decide_39 : decode cX4_decide 39 = .ok (.goto 4, 3) := by decide +kernel
theorem dX4_decide_42 : decode cX4_decide 42 = .ok (.iconst 0, 1) := by decide +kernel
theorem dX4_decide_43 : decode cX4_decide 43 = .ok (.istore 5, 2) := by decide +kernel
theorem dX4_decide_45 : decode cX4_decide 45 = .ok (.bipush 15, 2) := by decide +kernel
theorem dX4_decide_47 : decode cX4_decide 47 = .ok (.istore 6, 2) := by decide +kernel
theorem dX4_decide_49 : decode cX4_decide 49 = .ok (.iload_n 3, 1) := by decide +kernel
theorem dX4_decide_50 : decode cX4_decide 50 = .ok (.istore 7, 2) := by decide +kernel
theorem dX4_decide_52 : decode cX4_decide 52 = .ok (.iconst 0, 1) := by decide +kernel
theorem dX4_decide_53 : decode cX4_decide 53 = .ok (.istore 8, 2) := by decide +kernel
theorem dX4_decide_55 : decode cX4_decide 55 = .ok (.iload 8, 2) := by decide +kernel
theorem dX4_decide_57 : decode cX4_decide 57 = .ok (.bipush 20, 2) := by decide +kernel
theorem dX4_decide_59 : decode cX4_decide 59 = .ok (.if_icmp .ge 150, 3) := by decide +kernel
theorem dX4_decide_62 : decode cX4_decide 62 = .ok (.iload 7, 2) := by decide +kernel
theorem dX4_decide_64 : decode cX4_decide 64 = .ok (.iconst (-1), 1) := by decide +kernel
theorem dX4_decide_65 : decode cX4_decide 65 = .ok (.if_icmp .eq 144, 3) := by decide +kernel
theorem dX4_decide_68 : decode cX4_decide 68 = .ok (.iload 6, 2) := by decide +kernel
theorem dX4_decide_70 : decode cX4_decide 70 = .ok (.ifCond .eq 139, 3) := by decide +kernel
theorem dX4_decide_73 : decode cX4_decide 73 = .ok (.aload_n 1, 1) := by decide +kernel
theorem dX4_decide_74 : decode cX4_decide 74 = .ok (.getfield 97, 3) := by decide +kernel
theorem dX4_decide_77 : decode cX4_decide 77 = .ok (.iload 7, 2) := by decide +kernel
theorem dX4_decide_79 : decode cX4_decide 79 = .ok (.invokevirtual 101, 3) := by decide +kernel
theorem dX4_decide_82 : decode cX4_decide 82 = .ok (.istore 9, 2) := by decide +kernel
theorem dX4_decide_84 : decode cX4_decide 84 = .ok (.iconst 0, 1) := by decide +kernel
theorem dX4_decide_85 : decode cX4_decide 85 = .ok (.istore 10, 2) := by decide +kernel
theorem dX4_decide_87 : decode cX4_decide 87 = .ok (.iload 10, 2) := by decide +kernel
theorem dX4_decide_89 : decode cX4_decide 89 = .ok (.bipush 6, 2) := by decide +kernel
theorem dX4_decide_91 : decode cX4_decide 91 = .ok (.if_icmp .ge 101, 3) := by decide +kernel
theorem dX4_decide_94 : decode cX4_decide 94 = .ok (.iload 10, 2) := by decide +kernel
theorem dX4_decide_96 : decode cX4_decide 96 = .ok (.iload 9, 2) := by decide +kernel
theorem dX4_decide_98 : decode cX4_decide 98 = .ok (.if_icmp .ge 94, 3) := by decide +kernel
theorem dX4_decide_101 : decode cX4_decide 101 = .ok (.aload_n 1, 1) := by decide +kernel
theorem dX4_decide_102 : decode cX4_decide 102 = .ok (.getfield 97, 3) := by decide +kernel
theorem dX4_decide_105 : decode cX4_decide 105 = .ok (.iload 7, 2) := by decide +kernel
theorem dX4_decide_107 : decode cX4_decide 107 = .ok (.iload 10, 2) := by decide +kernel
theorem dX4_decide_109 : decode cX4_decide 109 = .ok (.invokevirtual 106, 3) := by decide +kernel
theorem dX4_decide_112 : decode cX4_decide 112 = .ok (.istore 11, 2) := by decide +kernel
theorem dX4_decide_114 : decode cX4_decide 114 = .ok (.iload 8, 2) := by decide +kernel
theorem dX4_decide_116 : decode cX4_decide 116 = .ok (.ifCond .eq 11, 3) := by decide +kernel
theorem dX4_decide_119 : decode cX4_decide 119 = .ok (.iload 11, 2) := by decide +kernel
theorem dX4_decide_121 : decode cX4_decide 121 = .ok (.invokestatic 110, 3) := by decide +kernel
theorem dX4_decide_124 : decode cX4_decide 124 = .ok (.ifCond .eq 7, 3) := by decide +kernel
theorem dX4_decide_127 : decode cX4_decide 127 = .ok (.iconst 1, 1) := by decide +kernel
theorem dX4_decide_128 : decode cX4_decide 128 = .ok (.goto 4, 3) := by decide +kernel
theorem dX4_decide_131 : decode cX4_decide 131 = .ok (.iconst 0, 1) := by decide +kernel
theorem dX4_decide_132 : decode cX4_decide 132 = .ok (.istore 12, 2) := by decide +kernel
theorem dX4_decide_134 : decode cX4_decide 134 = .ok (.iload 12, 2) := by decide +kernel
theorem dX4_decide_136 : decode cX4_decide 136 = .ok (.ifCond .eq 50, 3) := by decide +kernel
theorem dX4_decide_139 : decode cX4_decide 139 = .ok (.iload 11, 2) := by decide +kernel
theorem dX4_decide_141 : decode cX4_decide 141 = .ok (.iload_n 2, 1) := by decide +kernel
theorem dX4_decide_142 : decode cX4_decide 142 = .ok (.iload 4, 2) := by decide +kernel
theorem dX4_decide_144 : decode cX4_decide 144 = .ok (.iload 5, 2) := by decide +kernel
theorem dX4_decide_146 : decode cX4_decide 146 = .ok (.invokestatic 113, 3) := by decide +kernel
theorem dX4_decide_149 : decode cX4_decide 149 = .ok (.ifCond .eq 37, 3) := by decide +kernel
theorem dX4_decide_152 : decode cX4_decide 152 = .ok (.aload_n 0, 1) := by decide +kernel
theorem dX4_decide_153 : decode cX4_decide 153 = .ok (.iload 11, 2) := by decide +kernel
theorem dX4_decide_155 : decode cX4_decide 155 = .ok (.invokestatic 117, 3) := by decide +kernel
theorem dX4_decide_158 : decode cX4_decide 158 = .ok (.iload 6, 2) := by decide +kernel
theorem dX4_decide_160 : decode cX4_decide 160 = .ok (.iand, 1) := by decide +kernel
theorem dX4_decide_161 : decode cX4_decide 161 = .ok (.iload 7, 2) := by decide +kernel
theorem dX4_decide_163 : decode cX4_decide 163 = .ok (.bipush 6, 2) := by decide +kernel
theorem dX4_decide_165 : decode cX4_decide 165 = .ok (.imul, 1) := by decide +kernel
theorem dX4_decide_166 : decode cX4_decide 166 = .ok (.iload 10, 2) := by decide +kernel
theorem dX4_decide_168 : decode cX4_decide 168 = .ok (.iadd, 1) := by decide +kernel
theorem dX4_decide_169 : decode cX4_decide 169 = .ok (.iload 11, 2) := by decide +kernel
theorem dX4_decide_171 : decode cX4_decide 171 = .ok (.invokevirtual 120, 3) := by decide +kernel
theorem dX4_decide_174 : decode cX4_decide 174 = .ok (.iload 6, 2) := by decide +kernel
theorem dX4_decide_176 : decode cX4_decide 176 = .ok (.iload 11, 2) := by decide +kernel
theorem dX4_decide_178 : decode cX4_decide 178 = .ok (.invokestatic 117, 3) := by decide +kernel
theorem dX4_decide_181 : decode cX4_decide 181 = .ok (.iconst (-1), 1) := by decide +kernel
theorem dX4_decide_182 : decode cX4_decide 182 = .ok (.ixor, 1) := by decide +kernel
theorem dX4_decide_183 : decode cX4_decide 183 = .ok (.iand, 1) := by decide +kernel
theorem dX4_decide_184 : decode cX4_decide 184 = .ok (.istore 6, 2) := by decide +kernel
theorem dX4_decide_186 : decode cX4_decide 186 = .ok (.iinc 10 1, 3) := by decide +kernel
theorem dX4_decide_189 : decode cX4_decide 189 = .ok (.goto (-102), 3) := by decide +kernel
theorem dX4_decide_192 : decode cX4_decide 192 = .ok (.aload_n 1, 1) := by decide +kernel
theorem dX4_decide_193 : decode cX4_decide 193 = .ok (.getfield 41, 3) := by decide +kernel
theorem dX4_decide_196 : decode cX4_decide 196 = .ok (.iload 7, 2) := by decide +kernel
theorem dX4_decide_198 : decode cX4_decide 198 = .ok (.invokevirtual 124, 3) := by decide +kernel
theorem dX4_decide_201 : decode cX4_decide 201 = .ok (.istore 7, 2) := by decide +kernel
theorem dX4_decide_203 : decode cX4_decide 203 = .ok (.iinc 8 1, 3) := by decide +kernel
theorem dX4_decide_206 : decode cX4_decide 206 = .ok (.goto (-151), 3) := by decide +kernel
theorem dX4_decide_209 : decode cX4_decide 209 = .ok (.return_, 1) := by decide +kernel
theorem dX4_settle_0 : decode cX4_settle 0 = .ok (.iconst 0, 1) := by decide +kernel
theorem dX4_settle_1 : decode cX4_settle 1 = .ok (.istore 4, 2) := by decide +kernel
theorem dX4_settle_3 : decode cX4_settle 3 = .ok (.iload 4, 2) := by decide +kernel
theorem dX4_settle_5 : decode cX4_settle 5 = .ok (.iconst 4, 1) := by decide +kernel
theorem dX4_settle_6 : decode cX4_settle 6 = .ok (.if_icmp .ge 34, 3) := by decide +kernel
theorem dX4_settle_9 : decode cX4_settle 9 = .ok (.iload_n 1, 1) := by decide +kernel
theorem dX4_settle_10 : decode cX4_settle 10 = .ok (.iload 4, 2) := by decide +kernel
theorem dX4_settle_12 : decode cX4_settle 12 = .ok (.invokestatic 25, 3) := by decide +kernel
theorem dX4_settle_15 : decode cX4_settle 15 = .ok (.ifCond .eq 19, 3) := by decide +kernel
theorem dX4_settle_18 : decode cX4_settle 18 = .ok (.aload_n 0, 1) := by decide +kernel
theorem dX4_settle_19 : decode cX4_settle 19 = .ok (.getfield 9, 3) := by decide +kernel
theorem dX4_settle_22 : decode cX4_settle 22 = .ok (.iload 4, 2) := by decide +kernel
theorem dX4_settle_24 : decode cX4_settle 24 = .ok (.iload_n 2, 1) := by decide +kernel
theorem dX4_settle_25 : decode cX4_settle 25 = .ok (.iastore, 1) := by decide +kernel
theorem dX4_settle_26 : decode cX4_settle 26 = .ok (.aload_n 0, 1) := by decide +kernel
theorem dX4_settle_27 : decode cX4_settle 27 = .ok (.getfield 15, 3) := by decide +kernel
theorem dX4_settle_30 : decode cX4_settle 30 = .ok (.iload 4, 2) := by decide +kernel
theorem dX4_settle_32 : decode cX4_settle 32 = .ok (.iload_n 3, 1) := by decide +kernel
theorem dX4_settle_33 : decode cX4_settle 33 = .ok (.iastore, 1) := by decide +kernel
theorem dX4_settle_34 : decode cX4_settle 34 = .ok (.iinc 4 1, 3) := by decide +kernel
theorem dX4_settle_37 : decode cX4_settle 37 = .ok (.goto (-34), 3) := by decide +kernel
theorem dX4_settle_40 : decode cX4_settle 40 = .ok (.return_, 1) := by decide +kernel
theorem dX5_init_0 : decode cX5_init 0 = .ok (.aload_n 0, 1) := by decide +kernel
theorem dX5_init_1 : decode cX5_init 1 = .ok (.invokespecial 3, 3) := by decide +kernel
theorem dX5_init_4 : decode cX5_init 4 = .ok (.aload_n 0, 1) := by decide +kernel
theorem dX5_init_5 : decode cX5_init 5 = .ok (.iconst 0, 1) := by decide +kernel
theorem dX5_init_6 : decode cX5_init 6 = .ok (.putfield 9, 3) := by decide +kernel
theorem dX5_init_9 : decode cX5_init 9 = .ok (.aload_n 0, 1) := by decide +kernel
theorem dX5_init_10 : decode cX5_init 10 = .ok (.iconst (-1), 1) := by decide +kernel
theorem dX5_init_11 : decode cX5_init 11 = .ok (.putfield 15, 3) := by decide +kernel
theorem dX5_init_14 : decode cX5_init 14 = .ok (.aload_n 0, 1) := by decide +kernel
theorem dX5_init_15 : decode cX5_init 15 = .ok (.iconst 0, 1) := by decide +kernel
theorem dX5_init_16 : decode cX5_init 16 = .ok (.putfield 18, 3) := by decide +kernel
theorem dX5_init_19 : decode cX5_init 19 = .ok (.aload_n 0, 1) := by decide +kernel
theorem dX5_init_20 : decode cX5_init 20 = .ok (.bipush 6, 2) := by decide +kernel
theorem dX5_init_22 : decode cX5_init 22 = .ok (.newarray .int, 2) := by decide +kernel
theorem dX5_init_24 : decode cX5_init 24 = .ok (.putfield 21, 3) := by decide +kernel
theorem dX5_init_27 : decode cX5_init 27 = .ok (.return_, 1) := by decide +kernel
theorem dX6_init_0 : decode cX6_init 0 = .ok (.aload_n 0, 1) := by decide +kernel
theorem dX6_init_1 : decode cX6_init 1 = .ok (.invokespecial 3, 3) := by decide +kernel
theorem dX6_init_4 : decode cX6_init 4 = .ok (.aload_n 0, 1) := by decide +kernel
theorem dX6_init_5 : decode cX6_init 5 = .ok (.bipush 20, 2) := by decide +kernel
theorem dX6_init_7 : decode cX6_init 7 = .ok (.newarray .int, 2) := by decide +kernel
theorem dX6_init_9 : decode cX6_init 9 = .ok (.putfield 9, 3) := by decide +kernel
theorem dX6_init_12 : decode cX6_init 12 = .ok (.aload_n 0, 1) := by decide +kernel
theorem dX6_init_13 : decode cX6_init 13 = .ok (.bipush 120, 2) := by decide +kernel
theorem dX6_init_15 : decode cX6_init 15 = .ok (.newarray .int, 2) := by decide +kernel
theorem dX6_init_17 : decode cX6_init 17 = .ok (.putfield 15, 3) := by decide +kernel
theorem dX6_init_20 : decode cX6_init 20 = .ok (.return_, 1) := by decide +kernel
theorem dX6_copyFrom_0 : decode cX6_copyFrom 0 = .ok (.aload_n 1, 1) := by decide +kernel
theorem dX6_copyFrom_1 : decode cX6_copyFrom 1 = .ok (.getfield 9, 3) := by decide +kernel
theorem dX6_copyFrom_4 : decode cX6_copyFrom 4 = .ok (.iconst 0, 1) := by decide +kernel
theorem dX6_copyFrom_5 : decode cX6_copyFrom 5 = .ok (.aload_n 0, 1) := by decide +kernel
theorem dX6_copyFrom_6 : decode cX6_copyFrom 6 = .ok (.getfield 9, 3) := by decide +kernel
theorem dX6_copyFrom_9 : decode cX6_copyFrom 9 = .ok (.iconst 0, 1) := by decide +kernel
theorem dX6_copyFrom_10 : decode cX6_copyFrom 10 = .ok (.bipush 20, 2) := by decide +kernel
theorem dX6_copyFrom_12 : decode cX6_copyFrom 12 = .ok (.invokestatic 18, 3) := by decide +kernel
theorem dX6_copyFrom_15 : decode cX6_copyFrom 15 = .ok (.aload_n 1, 1) := by decide +kernel
theorem dX6_copyFrom_16 : decode cX6_copyFrom 16 = .ok (.getfield 15, 3) := by decide +kernel
theorem dX6_copyFrom_19 : decode cX6_copyFrom 19 = .ok (.iconst 0, 1) := by decide +kernel
theorem dX6_copyFrom_20 : decode cX6_copyFrom 20 = .ok (.aload_n 0, 1) := by decide +kernel
theorem dX6_copyFrom_21 : decode cX6_copyFrom 21 = .ok (.getfield 15, 3) := by decide +kernel
theorem dX6_copyFrom_24 : decode cX6_copyFrom 24 = .ok (.iconst 0, 1) := by decide +kernel
theorem dX6_copyFrom_25 : decode cX6_copyFrom 25 = .ok (.bipush 120, 2) := by decide +kernel
theorem dX6_copyFrom_27 : decode cX6_copyFrom 27 = .ok (.invokestatic 18, 3) := by decide +kernel
theorem dX6_copyFrom_30 : decode cX6_copyFrom 30 = .ok (.return_, 1) := by decide +kernel
theorem dX6_countAt_0 : decode cX6_countAt 0 = .ok (.iload_n 1, 1) := by decide +kernel
theorem dX6_countAt_1 : decode cX6_countAt 1 = .ok (.bipush 20, 2) := by decide +kernel
theorem dX6_countAt_3 : decode cX6_countAt 3 = .ok (.invokestatic 24, 3) := by decide +kernel
theorem dX6_countAt_6 : decode cX6_countAt 6 = .ok (.ifCond .eq 12, 3) := by decide +kernel
theorem dX6_countAt_9 : decode cX6_countAt 9 = .ok (.aload_n 0, 1) := by decide +kernel
theorem dX6_countAt_10 : decode cX6_countAt 10 = .ok (.getfield 9, 3) := by decide +kernel
theorem dX6_countAt_13 : decode cX6_countAt 13 = .ok (.iload_n 1, 1) := by decide +kernel
theorem dX6_countAt_14 : decode cX6_countAt 14 = .ok (.iaload, 1) := by decide +kernel
theorem dX6_countAt_15 : decode cX6_countAt 15 = .ok (.goto 4, 3) := by decide +kernel
theorem dX6_countAt_18 : decode cX6_countAt 18 = .ok (.iconst 0, 1) := by decide +kernel
theorem dX6_countAt_19 : decode cX6_countAt 19 = .ok (.ireturn, 1) := by decide +kernel
theorem dX6_entryAt_0 : decode cX6_entryAt 0 = .ok (.iload_n 1, 1) := by decide +kernel
theorem dX6_entryAt_1 : decode cX6_entryAt 1 = .ok (.bipush 20, 2) := by decide +kernel
theorem dX6_entryAt_3 : decode cX6_entryAt 3 = .ok (.invokestatic 24, 3) := by decide +kernel
theorem dX6_entryAt_6 : decode cX6_entryAt 6 = .ok (.ifCond .eq 12, 3) := by decide +kernel
theorem dX6_entryAt_9 : decode cX6_entryAt 9 = .ok (.iload_n 2, 1) := by decide +kernel
theorem dX6_entryAt_10 : decode cX6_entryAt 10 = .ok (.bipush 6, 2) := by decide +kernel
theorem dX6_entryAt_12 : decode cX6_entryAt 12 = .ok (.invokestatic 24, 3) := by decide +kernel
theorem dX6_entryAt_15 : decode cX6_entryAt 15 = .ok (.ifCond .ne 5, 3) := by decide +kernel
theorem dX6_entryAt_18 : decode cX6_entryAt 18 = .ok (.iconst 0, 1) := by decide +kernel
theorem dX6_entryAt_19 : decode cX6_entryAt 19 = .ok (.ireturn, 1) := by decide +kernel
theorem dX6_entryAt_20 : decode cX6_entryAt 20 = .ok (.aload_n 0, 1) := by decide +kernel
theorem dX6_entryAt_21 : decode cX6_entryAt 21 = .ok (.getfield 15, 3) := by decide +kernel
theorem dX6_entryAt_24 : decode cX6_entryAt 24 = .ok (.iload_n 1, 1) := by decide +kernel
theorem dX6_entryAt_25 : decode cX6_entryAt 25 = .ok (.bipush 6, 2) := by decide +kernel
theorem dX6_entryAt_27 : decode cX6_entryAt 27 = .ok (.imul, 1) := by decide +kernel
theorem dX6_entryAt_28 : decode cX6_entryAt 28 = .ok (.iload_n 2, 1) := by decide +kernel
theorem dX6_entryAt_29 : decode cX6_entryAt 29 = .ok (.iadd, 1) := by decide +kernel
theorem dX6_entryAt_30 : decode cX6_entryAt 30 = .ok (.iaload, 1) := by decide +kernel
theorem dX6_entryAt_31 : decode cX6_entryAt 31 = .ok (.ireturn, 1) := by decide +kernel
theorem dX6_empty_0 : decode cX6_empty 0 = .ok (.iload_n 1, 1) := by decide +kernel
theorem dX6_empty_1 : decode cX6_empty 1 = .ok (.bipush 20, 2) := by decide +kernel
theorem dX6_empty_3 : decode cX6_empty 3 = .ok (.invokestatic 24, 3) := by decide +kernel
theorem dX6_empty_6 : decode cX6_empty 6 = .ok (.ifCond .eq 10, 3) := by decide +kernel
theorem dX6_empty_9 : decode cX6_empty 9 = .ok (.aload_n 0, 1) := by decide +kernel
theorem dX6_empty_10 : decode cX6_empty 10 = .ok (.getfield 9, 3) := by decide +kernel
theorem dX6_empty_13 : decode cX6_empty 13 = .ok (.iload_n 1, 1) := by decide +kernel
theorem dX6_empty_14 : decode cX6_empty 14 = .ok (.iconst 0, 1) := by decide +kernel
theorem dX6_empty_15 : decode cX6_empty 15 = .ok (.iastore, 1) := by decide +kernel
theorem dX6_empty_16 : decode cX6_empty 16 = .ok (.return_, 1) := by decide +kernel
theorem dX6_putIn_0 : decode cX6_putIn 0 = .ok (.iload_n 1, 1) := by decide +kernel
theorem dX6_putIn_1 : decode cX6_putIn 1 = .ok (.bipush 20, 2) := by decide +kernel
theorem dX6_putIn_3 : decode cX6_putIn 3 = .ok (.invokestatic 24, 3) := by decide +kernel
theorem dX6_putIn_6 : decode cX6_putIn 6 = .ok (.ifCond .eq 23, 3) := by decide +kernel
theorem dX6_putIn_9 : decode cX6_putIn 9 = .ok (.iload_n 2, 1) := by decide +kernel
theorem dX6_putIn_10 : decode cX6_putIn 10 = .ok (.bipush 6, 2) := by decide +kernel
theorem dX6_putIn_12 : decode cX6_putIn 12 = .ok (.invokestatic 24, 3) := by decide +kernel
theorem dX6_putIn_15 : decode cX6_putIn 15 = .ok (.ifCond .eq 14, 3) := by decide +kernel
theorem dX6_putIn_18 : decode cX6_putIn 18 = .ok (.aload_n 0, 1) := by decide +kernel
theorem dX6_putIn_19 : decode cX6_putIn 19 = .ok (.getfield 9, 3) := by decide +kernel
theorem dX6_putIn_22 : decode cX6_putIn 22 = .ok (.iload_n 1, 1) := by decide +kernel
theorem dX6_putIn_23 : decode cX6_putIn 23 = .ok (.iaload, 1) := by decide +kernel
theorem dX6_putIn_24 : decode cX6_putIn 24 = .ok (.bipush 6, 2) := by decide +kernel
theorem dX6_putIn_26 : decode cX6_putIn 26 = .ok (.if_icmp .lt 4, 3) := by decide +kernel
theorem dX6_putIn_29 : decode cX6_putIn 29 = .ok (.return_, 1) := by decide +kernel
theorem dX6_putIn_30 : decode cX6_putIn 30 = .ok (.iconst 5, 1) := by decide +kernel
theorem dX6_putIn_31 : decode cX6_putIn 31 = .ok (.istore 4, 2) := by decide +kernel
theorem dX6_putIn_33 : decode cX6_putIn 33 = .ok (.iload 4, 2) := by decide +kernel
theorem dX6_putIn_35 : decode cX6_putIn 35 = .ok (.iload_n 2, 1) := by decide +kernel
theorem dX6_putIn_36 : decode cX6_putIn 36 = .ok (.if_icmp .le 25, 3) := by decide +kernel
theorem dX6_putIn_39 : decode cX6_putIn 39 = .ok (.aload_n 0, 1) := by decide +kernel
theorem dX6_putIn_40 : decode cX6_putIn 40 = .ok (.iload_n 1, 1) := by decide +kernel
theorem dX6_putIn_41 : decode cX6_putIn 41 = .ok (.iload 4, 2) := by decide +kernel
theorem dX6_putIn_43 : decode cX6_putIn 43 = .ok (.aload_n 0, 1) := by decide +kernel
theorem dX6_putIn_44 : decode cX6_putIn 44 = .ok (.iload_n 1, 1) := by decide +kernel
theorem dX6_putIn_45 : decode cX6_putIn 45 = .ok (.iload 4, 2) := by decide +kernel
theorem dX6_putIn_47 : decode cX6_putIn 47 = .ok (.iconst 1, 1) := by decide +kernel
theorem dX6_putIn_48 : decode cX6_putIn 48 = .ok (.isub, 1) := by decide +kernel
theorem dX6_putIn_49 : decode cX6_putIn 49 = .ok (.invokevirtual 28, 3) := by decide +kernel
theorem dX6_putIn_52 : decode cX6_putIn 52 = .ok (.invokevirtual 32, 3) := by decide +kernel
theorem dX6_putIn_55 : decode cX6_putIn 55 = .ok (.iinc 4 (-1), 3) := by decide +kernel
theorem dX6_putIn_58 : decode cX6_putIn 58 = .ok (.goto (-25), 3) := by decide +kernel
theorem dX6_putIn_61 : decode cX6_putIn 61 = .ok (.aload_n 0, 1) := by decide +kernel
theorem dX6_putIn_62 : decode cX6_putIn 62 = .ok (.iload_n 1, 1) := by decide +kernel
theorem dX6_putIn_63 : decode cX6_putIn 63 = .ok (.iload_n 2, 1) := by decide +kernel
theorem dX6_putIn_64 : decode cX6_putIn 64 = .ok (.iload_n 3, 1) := by decide +kernel
theorem dX6_putIn_65 : decode cX6_putIn 65 = .ok (.invokevirtual 32, 3) := by decide +kernel
theorem dX6_putIn_68 : decode cX6_putIn 68 = .ok (.aload_n 0, 1) := by decide +kernel
theorem dX6_putIn_69 : decode cX6_putIn 69 = .ok (.getfield 9, 3) := by decide +kernel
theorem dX6_putIn_72 : decode cX6_putIn 72 = .ok (.iload_n 1, 1) := by decide +kernel
theorem dX6_putIn_73 : decode cX6_putIn 73 = .ok (.dup2, 1) := by decide +kernel
theorem dX6_putIn_74 : decode cX6_putIn 74 = .ok (.iaload, 1) := by decide +kernel
theorem dX6_putIn_75 : decode cX6_putIn 75 = .ok (.iconst 1, 1) := by decide +kernel
theorem dX6_putIn_76 : decode cX6_putIn 76 = .ok (.iadd, 1) := by decide +kernel
theorem dX6_putIn_77 : decode cX6_putIn 77 = .ok (.iastore, 1) := by decide +kernel
theorem dX6_putIn_78 : decode cX6_putIn 78 = .ok (.return_, 1) := by decide +kernel
theorem dX6_takeOut_0 : decode cX6_takeOut 0 = .ok (.iload_n 1, 1) := by decide +kernel
theorem dX6_takeOut_1 : decode cX6_takeOut 1 = .ok (.bipush 20, 2) := by decide +kernel
theorem dX6_takeOut_3 : decode cX6_takeOut 3 = .ok (.invokestatic 24, 3) := by decide +kernel
theorem dX6_takeOut_6 : decode cX6_takeOut 6 = .ok (.ifCond .eq 16, 3) := by decide +kernel
theorem dX6_takeOut_9 : decode cX6_takeOut 9 = .ok (.iload_n 2, 1) := by decide +kernel
theorem dX6_takeOut_10 : decode cX6_takeOut 10 = .ok (.aload_n 0, 1) := by decide +kernel
theorem dX6_takeOut_11 : decode cX6_takeOut 11 = .ok (.getfield 9, 3) := by decide +kernel
theorem dX6_takeOut_14 : decode cX6_takeOut 14 = .ok (.iload_n 1, 1) := by decide +kernel
theorem dX6_takeOut_15 : decode cX6_takeOut 15 = .ok (.iaload, 1) := by decide +kernel
theorem dX6_takeOut_16 : decode cX6_takeOut 16 = .ok (.invokestatic 24, 3) := by decide +kernel
theorem dX6_takeOut_19 : decode cX6_takeOut 19 = .ok (.ifCond .ne 5, 3) := by decide +kernel
theorem dX6_takeOut_22 : decode cX6_takeOut 22 = .ok (.iconst 0, 1) := by decide +kernel
theorem dX6_takeOut_23 : decode cX6_takeOut 23 = .ok (.ireturn, 1) := by decide +kernel
theorem dX6_takeOut_24 : decode cX6_takeOut 24 = .ok (.aload_n 0, 1) := by decide +kernel
theorem dX6_takeOut_25 : decode cX6_takeOut 25 = .ok (.iload_n 1, 1) := by decide +kernel
theorem dX6_takeOut_26 : decode cX6_takeOut 26 = .ok (.iload_n 2, 1) := by decide +kernel
theorem dX6_takeOut_27 : decode cX6_takeOut 27 = .ok (.invokevirtual 28, 3) := by decide +kernel
theorem dX6_takeOut_30 : decode cX6_takeOut 30 = .ok (.istore_n 3, 1) := by decide +kernel
theorem dX6_takeOut_31 : decode cX6_takeOut 31 = .ok (.iload_n 2, 1) := by decide +kernel
theorem dX6_takeOut_32 : decode cX6_takeOut 32 = .ok (.istore 4, 2) := by decide +kernel
theorem dX6_takeOut_34 : decode cX6_takeOut 34 = .ok (.iload 4, 2) := by decide +kernel
theorem dX6_takeOut_36 : decode cX6_takeOut 36 = .ok (.iconst 5, 1) := by decide +kernel
theorem dX6_takeOut_37 : decode cX6_takeOut 37 = .ok (.if_icmp .ge 25, 3) := by decide +kernel
theorem dX6_takeOut_40 : decode cX6_takeOut 40 = .ok (.aload_n 0, 1) := by decide +kernel
theorem dX6_takeOut_41 : decode cX6_takeOut 41 = .ok (.iload_n 1, 1) := by decide +kernel
theorem dX6_takeOut_42 : decode cX6_takeOut 42 = .ok (.iload 4, 2) := by decide +kernel
theorem dX6_takeOut_44 : decode cX6_takeOut 44 = .ok (.aload_n 0, 1) := by decide +kernel
theorem dX6_takeOut_45 : decode cX6_takeOut 45 = .ok (.iload_n 1, 1) := by decide +kernel
theorem dX6_takeOut_46 : decode cX6_takeOut 46 = .ok (.iload 4, 2) := by decide +kernel
theorem dX6_takeOut_48 : decode cX6_takeOut 48 = .ok (.iconst 1, 1) := by decide +kernel
theorem dX6_takeOut_49 : decode cX6_takeOut 49 = .ok (.iadd, 1) := by decide +kernel
theorem dX6_takeOut_50 : decode cX6_takeOut 50 = .ok (.invokevirtual 28, 3) := by decide +kernel
theorem dX6_takeOut_53 : decode cX6_takeOut 53 = .ok (.invokevirtual 32, 3) := by decide +kernel
theorem dX6_takeOut_56 : decode cX6_takeOut 56 = .ok (.iinc 4 1, 3) := by decide +kernel
theorem dX6_takeOut_59 : decode cX6_takeOut 59 = .ok (.goto (-25), 3) := by decide +kernel
theorem dX6_takeOut_62 : decode cX6_takeOut 62 = .ok (.aload_n 0, 1) := by decide +kernel
theorem dX6_takeOut_63 : decode cX6_takeOut 63 = .ok (.getfield 9, 3) := by decide +kernel
theorem dX6_takeOut_66 : decode cX6_takeOut 66 = .ok (.iload_n 1, 1) := by decide +kernel
theorem dX6_takeOut_67 : decode cX6_takeOut 67 = .ok (.dup2, 1) := by decide +kernel
theorem dX6_takeOut_68 : decode cX6_takeOut 68 = .ok (.iaload, 1) := by decide +kernel
theorem dX6_takeOut_69 : decode cX6_takeOut 69 = .ok (.iconst 1, 1) := by decide +kernel
theorem dX6_takeOut_70 : decode cX6_takeOut 70 = .ok (.isub, 1) := by decide +kernel
theorem dX6_takeOut_71 : decode cX6_takeOut 71 = .ok (.iastore, 1) := by decide +kernel
theorem dX6_takeOut_72 : decode cX6_takeOut 72 = .ok (.iload_n 3, 1) := by decide +kernel
theorem dX6_takeOut_73 : decode cX6_takeOut 73 = .ok (.ireturn, 1) := by decide +kernel
theorem dX6_setEntry_0 : decode cX6_setEntry 0 = .ok (.iload_n 1, 1) := by decide +kernel
theorem dX6_setEntry_1 : decode cX6_setEntry 1 = .ok (.bipush 20, 2) := by decide +kernel
theorem dX6_setEntry_3 : decode cX6_setEntry 3 = .ok (.invokestatic 24, 3) := by decide +kernel
theorem dX6_setEntry_6 : decode cX6_setEntry 6 = .ok (.ifCond .eq 24, 3) := by decide +kernel
theorem dX6_setEntry_9 : decode cX6_setEntry 9 = .ok (.iload_n 2, 1) := by decide +kernel
theorem dX6_setEntry_10 : decode cX6_setEntry 10 = .ok (.bipush 6, 2) := by decide +kernel
theorem dX6_setEntry_12 : decode cX6_setEntry 12 = .ok (.invokestatic 24, 3) := by decide +kernel
theorem dX6_setEntry_15 : decode cX6_setEntry 15 = .ok (.ifCond .eq 15, 3) := by decide +kernel
theorem dX6_setEntry_18 : decode cX6_setEntry 18 = .ok (.aload_n 0, 1) := by decide +kernel
theorem dX6_setEntry_19 : decode cX6_setEntry 19 = .ok (.getfield 15, 3) := by decide +kernel
theorem dX6_setEntry_22 : decode cX6_setEntry 22 = .ok (.iload_n 1, 1) := by decide +kernel
theorem dX6_setEntry_23 : decode cX6_setEntry 23 = .ok (.bipush 6, 2) := by decide +kernel
theorem dX6_setEntry_25 : decode cX6_setEntry 25 = .ok (.imul, 1) := by decide +kernel
theorem dX6_setEntry_26 : decode cX6_setEntry 26 = .ok (.iload_n 2, 1) := by decide +kernel
theorem dX6_setEntry_27 : decode cX6_setEntry 27 = .ok (.iadd, 1) := by decide +kernel
theorem dX6_setEntry_28 : decode cX6_setEntry 28 = .ok (.iload_n 3, 1) := by decide +kernel
theorem dX6_setEntry_29 : decode cX6_setEntry 29 = .ok (.iastore, 1) := by decide +kernel
theorem dX6_setEntry_30 : decode cX6_setEntry 30 = .ok (.return_, 1) := by decide +kernel
theorem dX7_init_0 : decode cX7_init 0 = .ok (.aload_n 0, 1) := by decide +kernel
theorem dX7_init_1 : decode cX7_init 1 = .ok (.invokespecial 3, 3) := by decide +kernel
theorem dX7_init_4 : decode cX7_init 4 = .ok (.aload_n 0, 1) := by decide +kernel
theorem dX7_init_5 : decode cX7_init 5 = .ok (.iconst 0, 1) := by decide +kernel
theorem dX7_init_6 : decode cX7_init 6 = .ok (.putfield 9, 3) := by decide +kernel
theorem dX7_init_9 : decode cX7_init 9 = .ok (.aload_n 0, 1) := by decide +kernel
theorem dX7_init_10 : decode cX7_init 10 = .ok (.iconst 0, 1) := by decide +kernel
theorem dX7_init_11 : decode cX7_init 11 = .ok (.putfield 15, 3) := by decide +kernel
theorem dX7_init_14 : decode cX7_init 14 = .ok (.aload_n 0, 1) := by decide +kernel
theorem dX7_init_15 : decode cX7_init 15 = .ok (.iconst 0, 1) := by decide +kernel
theorem dX7_init_16 : decode cX7_init 16 = .ok (.putfield 18, 3) := by decide +kernel
theorem dX7_init_19 : decode cX7_init 19 = .ok (.aload_n 0, 1) := by decide +kernel
theorem dX7_init_20 : decode cX7_init 20 = .ok (.bipush 8, 2) := by decide +kernel
theorem dX7_init_22 : decode cX7_init 22 = .ok (.newarray .int, 2) := by decide +kernel
theorem dX7_init_24 : decode cX7_init 24 = .ok (.putfield 21, 3) := by decide +kernel
theorem dX7_init_27 : decode cX7_init 27 = .ok (.aload_n 0, 1) := by decide +kernel
theorem dX7_init_28 : decode cX7_init 28 = .ok (.bipush 8, 2) := by decide +kernel
theorem dX7_init_30 : decode cX7_init 30 = .ok (.newarray .int, 2) := by decide +kernel
theorem dX7_init_32 : decode cX7_init 32 = .ok (.putfield 25, 3) := by decide +kernel
theorem dX7_init_35 : decode cX7_init 35 = .ok (.return_, 1) := by decide +kernel
theorem dX7_copyFrom_0 : decode cX7_copyFrom 0 = .ok (.aload_n 0, 1) := by decide +kernel
theorem dX7_copyFrom_1 : decode cX7_copyFrom 1 = .ok (.aload_n 1, 1) := by decide +kernel
theorem dX7_copyFrom_2 : decode cX7_copyFrom 2 = .ok (.getfield 9, 3) := by decide +kernel
theorem dX7_copyFrom_5 : decode cX7_copyFrom 5 = .ok (.putfield 9, 3) := by decide +kernel
theorem dX7_copyFrom_8 : decode cX7_copyFrom 8 = .ok (.aload_n 0, 1) := by decide +kernel
theorem dX7_copyFrom_9 : decode cX7_copyFrom 9 = .ok (.aload_n 1, 1) := by decide +kernel
theorem dX7_copyFrom_10 : decode cX7_copyFrom 10 = .ok (.getfield 15, 3) := by decide +kernel
theorem dX7_copyFrom_13 : decode cX7_copyFrom 13 = .ok (.putfield 15, 3) := by decide +kernel
theorem dX7_copyFrom_16 : decode cX7_copyFrom 16 = .ok (.aload_n 0, 1) := by decide +kernel
theorem dX7_copyFrom_17 : decode cX7_copyFrom 17 = .ok (.aload_n 1, 1) := by decide +kernel
theorem dX7_copyFrom_18 : decode cX7_copyFrom 18 = .ok (.getfield 18, 3) := by decide +kernel
theorem dX7_copyFrom_21 : decode cX7_copyFrom 21 = .ok (.putfield 18, 3) := by decide +kernel
theorem dX7_copyFrom_24 : decode cX7_copyFrom 24 = .ok (.aload_n 1, 1) := by decide +kernel
theorem dX7_copyFrom_25 : decode cX7_copyFrom 25 = .ok (.getfield 21, 3) := by decide +kernel
theorem dX7_copyFrom_28 : decode cX7_copyFrom 28 = .ok (.iconst 0, 1) := by decide +kernel
theorem dX7_copyFrom_29 : decode cX7_copyFrom 29 = .ok (.aload_n 0, 1) := by decide +kernel
theorem dX7_copyFrom_30 : decode cX7_copyFrom 30 = .ok (.getfield 21, 3) := by decide +kernel
theorem dX7_copyFrom_33 : decode cX7_copyFrom 33 = .ok (.iconst 0, 1) := by decide +kernel
theorem dX7_copyFrom_34 : decode cX7_copyFrom 34 = .ok (.bipush 8, 2) := by decide +kernel
theorem dX7_copyFrom_36 : decode cX7_copyFrom 36 = .ok (.invokestatic 28, 3) := by decide +kernel
theorem dX7_copyFrom_39 : decode cX7_copyFrom 39 = .ok (.aload_n 1, 1) := by decide +kernel
theorem dX7_copyFrom_40 : decode cX7_copyFrom 40 = .ok (.getfield 25, 3) := by decide +kernel
theorem dX7_copyFrom_43 : decode cX7_copyFrom 43 = .ok (.iconst 0, 1) := by decide +kernel
theorem dX7_copyFrom_44 : decode cX7_copyFrom 44 = .ok (.aload_n 0, 1) := by decide +kernel
theorem dX7_copyFrom_45 : decode cX7_copyFrom 45 = .ok (.getfield 25, 3) := by decide +kernel
theorem dX7_copyFrom_48 : decode cX7_copyFrom 48 = .ok (.iconst 0, 1) := by decide +kernel
theorem dX7_copyFrom_49 : decode cX7_copyFrom 49 = .ok (.bipush 8, 2) := by decide +kernel
theorem dX7_copyFrom_51 : decode cX7_copyFrom 51 = .ok (.invokestatic 28, 3) := by decide +kernel
theorem dX7_copyFrom_54 : decode cX7_copyFrom 54 = .ok (.return_, 1) := by decide +kernel
theorem dX7_put_0 : decode cX7_put 0 = .ok (.aload_n 0, 1) := by decide +kernel
theorem dX7_put_1 : decode cX7_put 1 = .ok (.dup, 1) := by decide +kernel
theorem dX7_put_2 : decode cX7_put 2 = .ok (.getfield 9, 3) := by decide +kernel
theorem dX7_put_5 : decode cX7_put 5 = .ok (.iconst 1, 1) := by decide +kernel
theorem dX7_put_6 : decode cX7_put 6 = .ok (.iadd, 1) := by decide +kernel
theorem dX7_put_7 : decode cX7_put 7 = .ok (.putfield 9, 3) := by decide +kernel
theorem dX7_put_10 : decode cX7_put 10 = .ok (.aload_n 0, 1) := by decide +kernel
theorem dX7_put_11 : decode cX7_put 11 = .ok (.dup, 1) := by decide +kernel
theorem dX7_put_12 : decode cX7_put 12 = .ok (.getfield 15, 3) := by decide +kernel
theorem dX7_put_15 : decode cX7_put 15 = .ok (.iload_n 3, 1) := by decide +kernel
theorem dX7_put_16 : decode cX7_put 16 = .ok (.ifCond .eq 7, 3) := by decide +kernel
theorem dX7_put_19 : decode cX7_put 19 = .ok (.iconst 0, 1) := by decide +kernel
theorem dX7_put_20 : decode cX7_put 20 = .ok (.goto 4, 3) := by decide +kernel
theorem dX7_put_23 : decode cX7_put 23 = .ok (.iconst 1, 1) := by decide +kernel
theorem dX7_put_24 : decode cX7_put 24 = .ok (.iadd, 1) := by decide +kernel
theorem dX7_put_25 : decode cX7_put 25 = .ok (.putfield 15, 3) := by decide +kernel
theorem dX7_put_28 : decode cX7_put 28 = .ok (.aload_n 0, 1) := by decide +kernel
theorem dX7_put_29 : decode cX7_put 29 = .ok (.iconst 0, 1) := by decide +kernel
theorem dX7_put_30 : decode cX7_put 30 = .ok (.invokevirtual 34, 3) := by decide +kernel
theorem dX7_put_33 : decode cX7_put 33 = .ok (.istore 4, 2) := by decide +kernel
theorem dX7_put_35 : decode cX7_put 35 = .ok (.aload_n 0, 1) := by decide +kernel
theorem dX7_put_36 : decode cX7_put 36 = .ok (.getfield 21, 3) := by decide +kernel
theorem dX7_put_39 : decode cX7_put 39 = .ok (.iload 4, 2) := by decide +kernel
theorem dX7_put_41 : decode cX7_put 41 = .ok (.iload_n 1, 1) := by decide +kernel
theorem dX7_put_42 : decode cX7_put 42 = .ok (.iastore, 1) := by decide +kernel
theorem dX7_put_43 : decode cX7_put 43 = .ok (.aload_n 0, 1) := by decide +kernel
theorem dX7_put_44 : decode cX7_put 44 = .ok (.getfield 25, 3) := by decide +kernel
theorem dX7_put_47 : decode cX7_put 47 = .ok (.iload 4, 2) := by decide +kernel
theorem dX7_put_49 : decode cX7_put 49 = .ok (.iload_n 2, 1) := by decide +kernel
theorem dX7_put_50 : decode cX7_put 50 = .ok (.iastore, 1) := by decide +kernel
theorem dX7_put_51 : decode cX7_put 51 = .ok (.aload_n 0, 1) := by decide +kernel
theorem dX7_put_52 : decode cX7_put 52 = .ok (.aload_n 0, 1) := by decide +kernel
theorem dX7_put_53 : decode cX7_put 53 = .ok (.getfield 18, 3) := by decide +kernel
theorem dX7_put_56 : decode cX7_put 56 = .ok (.iload 4, 2) := by decide +kernel
theorem dX7_put_58 : decode cX7_put 58 = .ok (.iload_n 3, 1) := by decide +kernel
theorem dX7_put_59 : decode cX7_put 59 = .ok (.invokestatic 38, 3) := by decide +kernel
theorem dX7_put_62 : decode cX7_put 62 = .ok (.putfield 18, 3) := by decide +kernel
theorem dX7_put_65 : decode cX7_put 65 = .ok (.return_, 1) := by decide +kernel
theorem dX7_countKept_0 : decode cX7_countKept 0 = .ok (.aload_n 0, 1) := by decide +kernel
theorem dX7_countKept_1 : decode cX7_countKept 1 = .ok (.getfield 9, 3) := by decide +kernel
theorem dX7_countKept_4 : decode cX7_countKept 4 = .ok (.bipush 8, 2) := by decide +kernel
theorem dX7_countKept_6 : decode cX7_countKept 6 = .ok (.invokestatic 42, 3) := by decide +kernel
theorem dX7_countKept_9 : decode cX7_countKept 9 = .ok (.ireturn, 1) := by decide +kernel
theorem dX7_userAt_0 : decode cX7_userAt 0 = .ok (.aload_n 0, 1) := by decide +kernel
theorem dX7_userAt_1 : decode cX7_userAt 1 = .ok (.getfield 21, 3) := by decide +kernel
theorem dX7_userAt_4 : decode cX7_userAt 4 = .ok (.aload_n 0, 1) := by decide +kernel
theorem dX7_userAt_5 : decode cX7_userAt 5 = .ok (.iload_n 1, 1) := by decide +kernel
theorem dX7_userAt_6 : decode cX7_userAt 6 = .ok (.invokevirtual 34, 3) := by decide +kernel
theorem dX7_userAt_9 : decode cX7_userAt 9 = .ok (.iaload, 1) := by decide +kernel
theorem dX7_userAt_10 : decode cX7_userAt 10 = .ok (.ireturn, 1) := by decide +kernel
theorem dX7_objectAt_0 : decode cX7_objectAt 0 = .ok (.aload_n 0, 1) := by decide +kernel
theorem dX7_objectAt_1 : decode cX7_objectAt 1 = .ok (.getfield 25, 3) := by decide +kernel
theorem dX7_objectAt_4 : decode cX7_objectAt 4 = .ok (.aload_n 0, 1) := by decide +kernel
theorem dX7_objectAt_5 : decode cX7_objectAt 5 = .ok (.iload_n 1, 1) := by decide +kernel
theorem dX7_objectAt_6 : decode cX7_objectAt 6 = .ok (.invokevirtual 34, 3) := by decide +kernel
theorem dX7_objectAt_9 : decode cX7_objectAt 9 = .ok (.iaload, 1) := by decide +kernel
theorem dX7_objectAt_10 : decode cX7_objectAt 10 = .ok (.ireturn, 1) := by decide +kernel
theorem dX7_wasGranted_0 : decode cX7_wasGranted 0 = .ok (.aload_n 0, 1) := by decide +kernel
theorem dX7_wasGranted_1 : decode cX7_wasGranted 1 = .ok (.getfield 18, 3) := by decide +kernel
theorem dX7_wasGranted_4 : decode cX7_wasGranted 4 = .ok (.aload_n 0, 1) := by decide +kernel
theorem dX7_wasGranted_5 : decode cX7_wasGranted 5 = .ok (.iload_n 1, 1) := by decide +kernel
theorem dX7_wasGranted_6 : decode cX7_wasGranted 6 = .ok (.invokevirtual 34, 3) := by decide +kernel
theorem dX7_wasGranted_9 : decode cX7_wasGranted 9 = .ok (.invokestatic 48, 3) := by decide +kernel
theorem dX7_wasGranted_12 : decode cX7_wasGranted 12 = .ok (.ireturn, 1) := by decide +kernel
theorem dX7_placeOf_0 : decode cX7_placeOf 0 = .ok (.aload_n 0, 1) := by decide +kernel
theorem dX7_placeOf_1 : decode cX7_placeOf 1 = .ok (.getfield 9, 3) := by decide +kernel
theorem dX7_placeOf_4 : decode cX7_placeOf 4 = .ok (.iconst 1, 1) := by decide +kernel
theorem dX7_placeOf_5 : decode cX7_placeOf 5 = .ok (.isub, 1) := by decide +kernel
theorem dX7_placeOf_6 : decode cX7_placeOf 6 = .ok (.iload_n 1, 1) := by decide +kernel
theorem dX7_placeOf_7 : decode cX7_placeOf 7 = .ok (.isub, 1) := by decide +kernel
theorem dX7_placeOf_8 : decode cX7_placeOf 8 = .ok (.bipush 8, 2) := by decide +kernel
theorem dX7_placeOf_10 : decode cX7_placeOf 10 = .ok (.invokestatic 52, 3) := by decide +kernel
theorem dX7_placeOf_13 : decode cX7_placeOf 13 = .ok (.ireturn, 1) := by decide +kernel
theorem dX8_init_0 : decode cX8_init 0 = .ok (.aload_n 0, 1) := by decide +kernel
theorem dX8_init_1 : decode cX8_init 1 = .ok (.invokespecial 3, 3) := by decide +kernel
theorem dX8_init_4 : decode cX8_init 4 = .ok (.aload_n 0, 1) := by decide +kernel
theorem dX8_init_5 : decode cX8_init 5 = .ok (.iconst 0, 1) := by decide +kernel
theorem dX8_init_6 : decode cX8_init 6 = .ok (.putfield 9, 3) := by decide +kernel
theorem dX8_init_9 : decode cX8_init 9 = .ok (.aload_n 0, 1) := by decide +kernel
theorem dX8_init_10 : decode cX8_init 10 = .ok (.bipush 80, 2) := by decide +kernel
theorem dX8_init_12 : decode cX8_init 12 = .ok (.newarray .int, 2) := by decide +kernel
theorem dX8_init_14 : decode cX8_init 14 = .ok (.putfield 15, 3) := by decide +kernel
theorem dX8_init_17 : decode cX8_init 17 = .ok (.return_, 1) := by decide +kernel
theorem dX9_init_0 : decode cX9_init 0 = .ok (.aload_n 0, 1) := by decide +kernel
theorem dX9_init_1 : decode cX9_init 1 = .ok (.invokespecial 3, 3) := by decide +kernel
theorem dX9_init_4 : decode cX9_init 4 = .ok (.aload_n 0, 1) := by decide +kernel
theorem dX9_init_5 : decode cX9_init 5 = .ok (.new 9, 3) := by decide +kernel
theorem dX9_init_8 : decode cX9_init 8 = .ok (.dup, 1) := by decide +kernel
theorem dX9_init_9 : decode cX9_init 9 = .ok (.invokespecial 11, 3) := by decide +kernel
theorem dX9_init_12 : decode cX9_init 12 = .ok (.putfield 12, 3) := by decide +kernel
theorem dX9_init_15 : decode cX9_init 15 = .ok (.aload_n 0, 1) := by decide +kernel
theorem dX9_init_16 : decode cX9_init 16 = .ok (.new 18, 3) := by decide +kernel
theorem dX9_init_19 : decode cX9_init 19 = .ok (.dup, 1) := by decide +kernel
theorem dX9_init_20 : decode cX9_init 20 = .ok (.invokespecial 20, 3) := by decide +kernel
theorem dX9_init_23 : decode cX9_init 23 = .ok (.putfield 21, 3) := by decide +kernel
theorem dX9_init_26 : decode cX9_init 26 = .ok (.aload_n 0, 1) := by decide +kernel
theorem dX9_init_27 : decode cX9_init 27 = .ok (.new 25, 3) := by decide +kernel
theorem dX9_init_30 : decode cX9_init 30 = .ok (.dup, 1) := by decide +kernel
theorem dX9_init_31 : decode cX9_init 31 = .ok (.invokespecial 27, 3) := by decide +kernel
theorem dX9_init_34 : decode cX9_init 34 = .ok (.putfield 28, 3) := by decide +kernel
theorem dX9_init_37 : decode cX9_init 37 = .ok (.aload_n 0, 1) := by decide +kernel
theorem dX9_init_38 : decode cX9_init 38 = .ok (.new 32, 3) := by decide +kernel
theorem dX9_init_41 : decode cX9_init 41 = .ok (.dup, 1) := by decide +kernel
theorem dX9_init_42 : decode cX9_init 42 = .ok (.invokespecial 34, 3) := by decide +kernel
theorem dX9_init_45 : decode cX9_init 45 = .ok (.putfield 35, 3) := by decide +kernel
theorem dX9_init_48 : decode cX9_init 48 = .ok (.return_, 1) := by decide +kernel
theorem dX9_copyFrom_0 : decode cX9_copyFrom 0 = .ok (.aload_n 1, 1) := by decide +kernel
theorem dX9_copyFrom_1 : decode cX9_copyFrom 1 = .ok (.ifnull 47, 3) := by decide +kernel
theorem dX9_copyFrom_4 : decode cX9_copyFrom 4 = .ok (.aload_n 0, 1) := by decide +kernel
theorem dX9_copyFrom_5 : decode cX9_copyFrom 5 = .ok (.getfield 12, 3) := by decide +kernel
theorem dX9_copyFrom_8 : decode cX9_copyFrom 8 = .ok (.aload_n 1, 1) := by decide +kernel
theorem dX9_copyFrom_9 : decode cX9_copyFrom 9 = .ok (.getfield 12, 3) := by decide +kernel
theorem dX9_copyFrom_12 : decode cX9_copyFrom 12 = .ok (.invokevirtual 39, 3) := by decide +kernel
theorem dX9_copyFrom_15 : decode cX9_copyFrom 15 = .ok (.aload_n 0, 1) := by decide +kernel
theorem dX9_copyFrom_16 : decode cX9_copyFrom 16 = .ok (.getfield 21, 3) := by decide +kernel
theorem dX9_copyFrom_19 : decode cX9_copyFrom 19 = .ok (.aload_n 1, 1) := by decide +kernel
theorem dX9_copyFrom_20 : decode cX9_copyFrom 20 = .ok (.getfield 21, 3) := by decide +kernel
theorem dX9_copyFrom_23 : decode cX9_copyFrom 23 = .ok (.invokevirtual 43, 3) := by decide +kernel
theorem dX9_copyFrom_26 : decode cX9_copyFrom 26 = .ok (.aload_n 0, 1) := by decide +kernel
theorem dX9_copyFrom_27 : decode cX9_copyFrom 27 = .ok (.getfield 28, 3) := by decide +kernel
theorem dX9_copyFrom_30 : decode cX9_copyFrom 30 = .ok (.aload_n 1, 1) := by decide +kernel
theorem dX9_copyFrom_31 : decode cX9_copyFrom 31 = .ok (.getfield 28, 3) := by decide +kernel
theorem dX9_copyFrom_34 : decode cX9_copyFrom 34 = .ok (.invokevirtual 46, 3) := by decide +kernel
theorem dX9_copyFrom_37 : decode cX9_copyFrom 37 = .ok (.aload_n 0, 1) := by decide +kernel
theorem dX9_copyFrom_38 : decode cX9_copyFrom 38 = .ok (.getfield 35, 3) := by decide +kernel
theorem dX9_copyFrom_41 : decode cX9_copyFrom 41 = .ok (.aload_n 1, 1) := by decide +kernel
theorem dX9_copyFrom_42 : decode cX9_copyFrom 42 = .ok (.getfield 35, 3) := by decide +kernel
theorem dX9_copyFrom_45 : decode cX9_copyFrom 45 = .ok (.invokevirtual 49, 3) := by decide +kernel
theorem dX9_copyFrom_48 : decode cX9_copyFrom 48 = .ok (.return_, 1) := by decide +kernel
theorem dX9_grants_0 : decode cX9_grants 0 = .ok (.iload_n 1, 1) := by decide +kernel
theorem dX9_grants_1 : decode cX9_grants 1 = .ok (.ifCond .eq 43, 3) := by decide +kernel
theorem dX9_grants_4 : decode cX9_grants 4 = .ok (.iload_n 3, 1) := by decide +kernel
theorem dX9_grants_5 : decode cX9_grants 5 = .ok (.iconst 3, 1) := by decide +kernel
theorem dX9_grants_6 : decode cX9_grants 6 = .ok (.if_icmp .ne 15, 3) := by decide +kernel
theorem dX9_grants_9 : decode cX9_grants 9 = .ok (.aload_n 0, 1) := by decide +kernel
theorem dX9_grants_10 : decode cX9_grants 10 = .ok (.getfield 21, 3) := by decide +kernel
theorem dX9_grants_13 : decode cX9_grants 13 = .ok (.iload_n 2, 1) := by decide +kernel
theorem dX9_grants_14 : decode cX9_grants 14 = .ok (.invokevirtual 52, 3) := by decide +kernel
theorem dX9_grants_17 : decode cX9_grants 17 = .ok (.iload_n 1, 1) := by decide +kernel
theorem dX9_grants_18 : decode cX9_grants 18 = .ok (.if_icmp .eq 26, 3) := by decide +kernel
theorem dX9_grants_21 : decode cX9_grants 21 = .ok (.iload 4, 2) := by decide +kernel
theorem dX9_grants_23 : decode cX9_grants 23 = .ok (.invokestatic 56, 3) := by decide +kernel
theorem dX9_grants_26 : decode cX9_grants 26 = .ok (.ifCond .eq 22, 3) := by decide +kernel
theorem dX9_grants_29 : decode cX9_grants 29 = .ok (.aload_n 0, 1) := by decide +kernel
theorem dX9_grants_30 : decode cX9_grants 30 = .ok (.getfield 21, 3) := by decide +kernel
theorem dX9_grants_33 : decode cX9_grants 33 = .ok (.iload_n 2, 1) := by decide +kernel
theorem dX9_grants_34 : decode cX9_grants 34 = .ok (.invokevirtual 62, 3) := by decide +kernel
theorem dX9_grants_37 : decode cX9_grants 37 = .ok (.iload_n 3, 1) := by decide +kernel
theorem dX9_grants_38 : decode cX9_grants 38 = .ok (.invokestatic 65, 3) := by decide +kernel
theorem dX9_grants_41 : decode cX9_grants 41 = .ok (.ifCond .eq 7, 3) := by decide +kernel
theorem dX9_grants_44 : decode cX9_grants 44 = .ok (.iconst 1, 1) := by decide +kernel
theorem dX9_grants_45 : decode cX9_grants 45 = .ok (.goto 4, 3) := by decide +kernel
theorem dX9_grants_48 : decode cX9_grants 48 = .ok (.iconst 0, 1) := by decide +kernel
theorem dX9_grants_49 : decode cX9_grants 49 = .ok (.ireturn, 1) := by decide +kernel
theorem dX10_init_0 : decode cX10_init 0 = .ok (.aload_n 0, 1) := by decide +kernel
theorem dX10_init_1 : decode cX10_init 1 = .ok (.invokespecial 3, 3) := by decide +kernel
theorem dX10_init_4 : decode cX10_init 4 = .ok (.aload_n 0, 1) := by decide +kernel
theorem dX10_init_5 : decode cX10_init 5 = .ok (.iconst 1, 1) := by decide +kernel
theorem dX10_init_6 : decode cX10_init 6 = .ok (.putfield 9, 3) := by decide +kernel
theorem dX10_init_9 : decode cX10_init 9 = .ok (.aload_n 0, 1) := by decide +kernel
theorem dX10_init_10 : decode cX10_init 10 = .ok (.iconst 1, 1) := by decide +kernel
theorem dX10_init_11 : decode cX10_init 11 = .ok (.putfield 15, 3) := by decide +kernel
theorem dX10_init_14 : decode cX10_init 14 = .ok (.aload_n 0, 1) := by decide +kernel
theorem dX10_init_15 : decode cX10_init 15 = .ok (.bipush 20, 2) := by decide +kernel
theorem dX10_init_17 : decode cX10_init 17 = .ok (.newarray .int, 2) := by decide +kernel
theorem dX10_init_19 : decode cX10_init 19 = .ok (.putfield 18, 3) := by decide +kernel
theorem dX10_init_22 : decode cX10_init 22 = .ok (.aload_n 0, 1) := by decide +kernel
theorem dX10_init_23 : decode cX10_init 23 = .ok (.bipush 20, 2) := by decide +kernel
theorem dX10_init_25 : decode cX10_init 25 = .ok (.newarray .int, 2) := by decide +kernel
theorem dX10_init_27 : decode cX10_init 27 = .ok (.putfield 22, 3) := by decide +kernel
theorem dX10_init_30 : decode cX10_init 30 = .ok (.aload_n 0, 1) := by decide +kernel
theorem dX10_init_31 : decode cX10_init 31 = .ok (.bipush 20, 2) := by decide +kernel
theorem dX10_init_33 : decode cX10_init 33 = .ok (.newarray .int, 2) := by decide +kernel
theorem dX10_init_35 : decode cX10_init 35 = .ok (.putfield 25, 3) := by decide +kernel
theorem dX10_init_38 : decode cX10_init 38 = .ok (.aload_n 0, 1) := by decide +kernel
theorem dX10_init_39 : decode cX10_init 39 = .ok (.getfield 18, 3) := by decide +kernel
theorem dX10_init_42 : decode cX10_init 42 = .ok (.iconst 0, 1) := by decide +kernel
theorem dX10_init_43 : decode cX10_init 43 = .ok (.iconst (-1), 1) := by decide +kernel
theorem dX10_init_44 : decode cX10_init 44 = .ok (.iastore, 1) := by decide +kernel
theorem dX10_init_45 : decode cX10_init 45 = .ok (.aload_n 0, 1) := by decide +kernel
theorem dX10_init_46 : decode cX10_init 46 = .ok (.getfield 22, 3) := by decide +kernel
theorem dX10_init_49 : decode cX10_init 49 = .ok (.iconst 0, 1) := by decide +kernel
theorem dX10_init_50 : decode cX10_init 50 = .ok (.iconst 0, 1) := by decide +kernel
theorem dX10_init_51 : decode cX10_init 51 = .ok (.iastore, 1) := by decide +kernel
theorem dX10_init_52 : decode cX10_init 52 = .ok (.aload_n 0, 1) := by decide +kernel
theorem dX10_init_53 : decode cX10_init 53 = .ok (.getfield 25, 3) := by decide +kernel
theorem dX10_init_56 : decode cX10_init 56 = .ok (.iconst 0, 1) := by decide +kernel
theorem dX10_init_57 : decode cX10_init 57 = .ok (.bipush 15, 2) := by decide +kernel
theorem dX10_init_59 : decode cX10_init 59 = .ok (.iastore, 1) := by decide +kernel
theorem dX10_init_60 : decode cX10_init 60 = .ok (.return_, 1) := by decide +kernel
theorem dX10_copyFrom_0 : decode cX10_copyFrom 0 = .ok (.aload_n 0, 1) := by decide +kernel
theorem dX10_copyFrom_1 : decode cX10_copyFrom 1 = .ok (.aload_n 1, 1) := by decide +kernel
theorem dX10_copyFrom_2 : decode cX10_copyFrom 2 = .ok (.getfield 9, 3) := by decide +kernel
theorem dX10_copyFrom_5 : decode cX10_copyFrom 5 = .ok (.putfield 9, 3) := by decide +kernel
theorem dX10_copyFrom_8 : decode cX10_copyFrom 8 = .ok (.aload_n 0, 1) := by decide +kernel
theorem dX10_copyFrom_9 : decode cX10_copyFrom 9 = .ok (.aload_n 1, 1) := by decide +kernel
theorem dX10_copyFrom_10 : decode cX10_copyFrom 10 = .ok (.getfield 15, 3) := by decide +kernel
theorem dX10_copyFrom_13 : decode cX10_copyFrom 13 = .ok (.putfield 15, 3) := by decide +kernel
theorem dX10_copyFrom_16 : decode cX10_copyFrom 16 = .ok (.aload_n 1, 1) := by decide +kernel
theorem dX10_copyFrom_17 : decode cX10_copyFrom 17 = .ok (.getfield 18, 3) := by decide +kernel
theorem dX10_copyFrom_20 : decode cX10_copyFrom 20 = .ok (.iconst 0, 1) := by decide +kernel
theorem dX10_copyFrom_21 : decode cX10_copyFrom 21 = .ok (.aload_n 0, 1) := by decide +kernel
theorem dX10_copyFrom_22 : decode cX10_copyFrom 22 = .ok (.getfield 18, 3) := by decide +kernel
theorem dX10_copyFrom_25 : decode cX10_copyFrom 25 = .ok (.iconst 0, 1) := by decide +kernel
theorem dX10_copyFrom_26 : decode cX10_copyFrom 26 = .ok (.bipush 20, 2) := by decide +kernel
theorem dX10_copyFrom_28 : decode cX10_copyFrom 28 = .ok (.invokestatic 28, 3) := by decide +kernel
theorem dX10_copyFrom_31 : decode cX10_copyFrom 31 = .ok (.aload_n 1, 1) := by decide +kernel
theorem dX10_copyFrom_32 : decode cX10_copyFrom 32 = .ok (.getfield 22, 3) := by decide +kernel
theorem dX10_copyFrom_35 : decode cX10_copyFrom 35 = .ok (.iconst 0, 1) := by decide +kernel
theorem dX10_copyFrom_36 : decode cX10_copyFrom 36 = .ok (.aload_n 0, 1) := by decide +kernel
theorem dX10_copyFrom_37 : decode cX10_copyFrom 37 = .ok (.getfield 22, 3) := by decide +kernel
theorem dX10_copyFrom_40 : decode cX10_copyFrom 40 = .ok (.iconst 0, 1) := by decide +kernel
theorem dX10_copyFrom_41 : decode cX10_copyFrom 41 = .ok (.bipush 20, 2) := by decide +kernel
theorem dX10_copyFrom_43 : decode cX10_copyFrom 43 = .ok (.invokestatic 28, 3) := by decide +kernel
theorem dX10_copyFrom_46 : decode cX10_copyFrom 46 = .ok (.aload_n 1, 1) := by decide +kernel
theorem dX10_copyFrom_47 : decode cX10_copyFrom 47 = .ok (.getfield 25, 3) := by decide +kernel
theorem dX10_copyFrom_50 : decode cX10_copyFrom 50 = .ok (.iconst 0, 1) := by decide +kernel
theorem dX10_copyFrom_51 : decode cX10_copyFrom 51 = .ok (.aload_n 0, 1) := by decide +kernel
theorem dX10_copyFrom_52 : decode cX10_copyFrom 52 = .ok (.getfield 25, 3) := by decide +kernel
theorem dX10_copyFrom_55 : decode cX10_copyFrom 55 = .ok (.iconst 0, 1) := by decide +kernel
theorem dX10_copyFrom_56 : decode cX10_copyFrom 56 = .ok (.bipush 20, 2) := by decide +kernel
theorem dX10_copyFrom_58 : decode cX10_copyFrom 58 = .ok (.invokestatic 28, 3) := by decide +kernel
theorem dX10_copyFrom_61 : decode cX10_copyFrom 61 = .ok (.return_, 1) := by decide +kernel
theorem dX10_holds_0 : decode cX10_holds 0 = .ok (.iload_n 1, 1) := by decide +kernel
theorem dX10_holds_1 : decode cX10_holds 1 = .ok (.ifCond .lt 25, 3) := by decide +kernel
theorem dX10_holds_4 : decode cX10_holds 4 = .ok (.iload_n 1, 1) := by decide +kernel
theorem dX10_holds_5 : decode cX10_holds 5 = .ok (.bipush 20, 2) := by decide +kernel
theorem dX10_holds_7 : decode cX10_holds 7 = .ok (.if_icmp .ge 19, 3) := by decide +kernel
theorem dX10_holds_10 : decode cX10_holds 10 = .ok (.aload_n 0, 1) := by decide +kernel
theorem dX10_holds_11 : decode cX10_holds 11 = .ok (.getfield 9, 3) := by decide +kernel
theorem dX10_holds_14 : decode cX10_holds 14 = .ok (.iload_n 1, 1) := by decide +kernel
theorem dX10_holds_15 : decode cX10_holds 15 = .ok (.iushr, 1) := by decide +kernel
theorem dX10_holds_16 : decode cX10_holds 16 = .ok (.iconst 1, 1) := by decide +kernel
theorem dX10_holds_17 : decode cX10_holds 17 = .ok (.iand, 1) := by decide +kernel
theorem dX10_holds_18 : decode cX10_holds 18 = .ok (.iconst 1, 1) := by decide +kernel
theorem dX10_holds_19 : decode cX10_holds 19 = .ok (.if_icmp .ne 7, 3) := by decide +kernel
theorem dX10_holds_22 : decode cX10_holds 22 = .ok (.iconst 1, 1) := by decide +kernel
theorem dX10_holds_23 : decode cX10_holds 23 = .ok (.goto 4, 3) := by decide +kernel
theorem dX10_holds_26 : decode cX10_holds 26 = .ok (.iconst 0, 1) := by decide +kernel
theorem dX10_holds_27 : decode cX10_holds 27 = .ok (.ireturn, 1) := by decide +kernel
theorem dX10_count_0 : decode cX10_count 0 = .ok (.aload_n 0, 1) := by decide +kernel
theorem dX10_count_1 : decode cX10_count 1 = .ok (.getfield 9, 3) := by decide +kernel
theorem dX10_count_4 : decode cX10_count 4 = .ok (.invokestatic 34, 3) := by decide +kernel
theorem dX10_count_7 : decode cX10_count 7 = .ok (.ireturn, 1) := by decide +kernel
theorem dX10_lowestFree_0 : decode cX10_lowestFree 0 = .ok (.iconst 0, 1) := by decide +kernel
theorem dX10_lowestFree_1 : decode cX10_lowestFree 1 = .ok (.istore_n 1, 1) := by decide +kernel
theorem dX10_lowestFree_2 : decode cX10_lowestFree 2 = .ok (.iload_n 1, 1) := by decide +kernel
theorem dX10_lowestFree_3 : decode cX10_lowestFree 3 = .ok (.bipush 20, 2) := by decide +kernel
theorem dX10_lowestFree_5 : decode cX10_lowestFree 5 = .ok (.if_icmp .ge 22, 3) := by decide +kernel
theorem dX10_lowestFree_8 : decode cX10_lowestFree 8 = .ok (.aload_n 0, 1) := by decide +kernel
theorem dX10_lowestFree_9 : decode cX10_lowestFree 9 = .ok (.getfield 9, 3) := by decide +kernel
theorem dX10_lowestFree_12 : decode cX10_lowestFree 12 = .ok (.iload_n 1, 1) := by decide +kernel
theorem dX10_lowestFree_13 : decode cX10_lowestFree 13 = .ok (.invokestatic 40, 3) := by decide +kernel
theorem dX10_lowestFree_16 : decode cX10_lowestFree 16 = .ok (.ifCond .ne 5, 3) := by decide +kernel
theorem dX10_lowestFree_19 : decode cX10_lowestFree 19 = .ok (.iload_n 1, 1) := by decide +kernel
theorem dX10_lowestFree_20 : decode cX10_lowestFree 20 = .ok (.ireturn, 1) := by decide +kernel
theorem dX10_lowestFree_21 : decode cX10_lowestFree 21 = .ok (.iinc 1 1, 3) := by decide +kernel
theorem dX10_lowestFree_24 : decode cX10_lowestFree 24 = .ok (.goto (-22), 3) := by decide +kernel
theorem dX10_lowestFree_27 : decode cX10_lowestFree 27 = .ok (.iconst (-1), 1) := by decide +kernel
theorem dX10_lowestFree_28 : decode cX10_lowestFree 28 = .ok (.ireturn, 1) := by decide +kernel
theorem dX10_putObject_0 : decode cX10_putObject 0 = .ok (.aload_n 0, 1) := by decide +kernel
theorem dX10_putObject_1 : decode cX10_putObject 1 = .ok (.aload_n 0, 1) := by decide +kernel
theorem dX10_putObject_2 : decode cX10_putObject 2 = .ok (.getfield 9, 3) := by decide +kernel
theorem dX10_putObject_5 : decode cX10_putObject 5 = .ok (.iload_n 1, 1) := by decide +kernel
theorem dX10_putObject_6 : decode cX10_putObject 6 = .ok (.iconst 1, 1) := by decide +kernel
theorem dX10_putObject_7 : decode cX10_putObject 7 = .ok (.invokestatic 44, 3) := by decide +kernel
theorem dX10_putObject_10 : decode cX10_putObject 10 = .ok (.putfield 9, 3) := by decide +kernel
theorem dX10_putObject_13 : decode cX10_putObject 13 = .ok (.aload_n 0, 1) := by decide +kernel
theorem dX10_putObject_14 : decode cX10_putObject 14 = .ok (.iload_n 1, 1) := by decide +kernel
theorem dX10_putObject_15 : decode cX10_putObject 15 = .ok (.iload_n 2, 1) := by decide +kernel
theorem dX10_putObject_16 : decode cX10_putObject 16 = .ok (.invokevirtual 48, 3) := by decide +kernel
theorem dX10_putObject_19 : decode cX10_putObject 19 = .ok (.aload_n 0, 1) := by decide +kernel
theorem dX10_putObject_20 : decode cX10_putObject 20 = .ok (.iload_n 1, 1) := by decide +kernel
theorem dX10_putObject_21 : decode cX10_putObject 21 = .ok (.iload_n 3, 1) := by decide +kernel
theorem dX10_putObject_22 : decode cX10_putObject 22 = .ok (.invokevirtual 52, 3) := by decide +kernel
theorem dX10_putObject_25 : decode cX10_putObject 25 = .ok (.aload_n 0, 1) := by decide +kernel
theorem dX10_putObject_26 : decode cX10_putObject 26 = .ok (.iload_n 1, 1) := by decide +kernel
theorem dX10_putObject_27 : decode cX10_putObject 27 = .ok (.bipush 15, 2) := by decide +kernel
theorem dX10_putObject_29 : decode cX10_putObject 29 = .ok (.invokevirtual 55, 3) := by decide +kernel
theorem dX10_putObject_32 : decode cX10_putObject 32 = .ok (.aload_n 0, 1) := by decide +kernel
theorem dX10_putObject_33 : decode cX10_putObject 33 = .ok (.iload_n 1, 1) := by decide +kernel
theorem dX10_putObject_34 : decode cX10_putObject 34 = .ok (.iconst 1, 1) := by decide +kernel
theorem dJ6_bitCount_0f7a4_0 : decode cJ6_bitCount_0f7a4 0 = .ok (.iload_n 0, 1) := by decide +kernel
theorem dJ6_bitCount_0f7a4_1 : decode cJ6_bitCount_0f7a4 1 = .ok (.iload_n 0, 1) := by decide +kernel
theorem dJ6_bitCount_0f7a4_2 : decode cJ6_bitCount_0f7a4 2 = .ok (.iconst 1, 1) := by decide +kernel
theorem dJ6_bitCount_0f7a4_3 : decode cJ6_bitCount_0f7a4 3 = .ok (.iushr, 1) := by decide +kernel
theorem dJ6_bitCount_0f7a4_4 : decode cJ6_bitCount_0f7a4 4 = .ok (.ldc_w 265, 3) := by decide +kernel
theorem dJ6_bitCount_0f7a4_7 : decode cJ6_bitCount_0f7a4 7 = .ok (.iand, 1) := by decide +kernel
theorem dJ6_bitCount_0f7a4_8 : decode cJ6_bitCount_0f7a4 8 = .ok (.isub, 1) := by decide +kernel
theorem dJ6_bitCount_0f7a4_9 : decode cJ6_bitCount_0f7a4 9 = .ok (.istore_n 0, 1) := by decide +kernel
theorem dJ6_bitCount_0f7a4_10 : decode cJ6_bitCount_0f7a4 10 = .ok (.iload_n 0, 1) := by decide +kernel
theorem dJ6_bitCount_0f7a4_11 : decode cJ6_bitCount_0f7a4 11 = .ok (.ldc_w 266, 3) := by decide +kernel
theorem dJ6_bitCount_0f7a4_14 : decode cJ6_bitCount_0f7a4 14 = .ok (.iand, 1) := by decide +kernel
theorem dJ6_bitCount_0f7a4_15 : decode cJ6_bitCount_0f7a4 15 = .ok (.iload_n 0, 1) := by decide +kernel
theorem dJ6_bitCount_0f7a4_16 : decode cJ6_bitCount_0f7a4 16 = .ok (.iconst 2, 1) := by decide +kernel
theorem dJ6_bitCount_0f7a4_17 : decode cJ6_bitCount_0f7a4 17 = .ok (.iushr, 1) := by decide +kernel
theorem dJ6_bitCount_0f7a4_18 : decode cJ6_bitCount_0f7a4 18 = .ok (.ldc_w 266, 3) := by decide +kernel
theorem dJ6_bitCount_0f7a4_21 : decode cJ6_bitCount_0f7a4 21 = .ok (.iand, 1) := by decide +kernel
theorem dJ6_bitCount_0f7a4_22 : decode cJ6_bitCount_0f7a4 22 = .ok (.iadd, 1) := by decide +kernel
theorem dJ6_bitCount_0f7a4_23 : decode cJ6_bitCount_0f7a4 23 = .ok (.istore_n 0, 1) := by decide +kernel
theorem dJ6_bitCount_0f7a4_24 : decode cJ6_bitCount_0f7a4 24 = .ok (.iload_n 0, 1) := by decide +kernel
theorem dJ6_bitCount_0f7a4_25 : decode cJ6_bitCount_0f7a4 25 = .ok (.iload_n 0, 1) := by decide +kernel
theorem dJ6_bitCount_0f7a4_26 : decode cJ6_bitCount_0f7a4 26 = .ok (.iconst 4, 1) := by decide +kernel
theorem dJ6_bitCount_0f7a4_27 : decode cJ6_bitCount_0f7a4 27 = .ok (.iushr, 1) := by decide +kernel
theorem dJ6_bitCount_0f7a4_28 : decode cJ6_bitCount_0f7a4 28 = .ok (.iadd, 1) := by decide +kernel
theorem dJ6_bitCount_0f7a4_29 : decode cJ6_bitCount_0f7a4 29 = .ok (.ldc_w 267, 3) := by decide +kernel
theorem dJ6_bitCount_0f7a4_32 : decode cJ6_bitCount_0f7a4 32 = .ok (.iand, 1) := by decide +kernel
theorem dJ6_bitCount_0f7a4_33 : decode cJ6_bitCount_0f7a4 33 = .ok (.istore_n 0, 1) := by decide +kernel
theorem dJ6_bitCount_0f7a4_34 : decode cJ6_bitCount_0f7a4 34 = .ok (.iload_n 0, 1) := by decide +kernel
theorem dJ6_bitCount_0f7a4_35 : decode cJ6_bitCount_0f7a4 35 = .ok (.iload_n 0, 1) := by decide +kernel
theorem dJ6_bitCount_0f7a4_36 : decode cJ6_bitCount_0f7a4 36 = .ok (.bipush 8, 2) := by decide +kernel
theorem dJ6_bitCount_0f7a4_38 : decode cJ6_bitCount_0f7a4 38 = .ok (.iushr, 1) := by decide +kernel
theorem dJ6_bitCount_0f7a4_39 : decode cJ6_bitCount_0f7a4 39 = .ok (.iadd, 1) := by decide +kernel
theorem dJ6_bitCount_0f7a4_40 : decode cJ6_bitCount_0f7a4 40 = .ok (.istore_n 0, 1) := by decide +kernel
theorem dJ6_bitCount_0f7a4_41 : decode cJ6_bitCount_0f7a4 41 = .ok (.iload_n 0, 1) := by decide +kernel
theorem dJ6_bitCount_0f7a4_42 : decode cJ6_bitCount_0f7a4 42 = .ok (.iload_n 0, 1) := by decide +kernel
theorem dJ6_bitCount_0f7a4_43 : decode cJ6_bitCount_0f7a4 43 = .ok (.bipush 16, 2) := by decide +kernel
theorem dJ6_bitCount_0f7a4_45 : decode cJ6_bitCount_0f7a4 45 = .ok (.iushr, 1) := by decide +kernel
theorem dJ6_bitCount_0f7a4_46 : decode cJ6_bitCount_0f7a4 46 = .ok (.iadd, 1) := by decide +kernel
theorem dJ6_bitCount_0f7a4_47 : decode cJ6_bitCount_0f7a4 47 = .ok (.istore_n 0, 1) := by decide +kernel
theorem dJ6_bitCount_0f7a4_48 : decode cJ6_bitCount_0f7a4 48 = .ok (.iload_n 0, 1) := by decide +kernel
theorem dJ6_bitCount_0f7a4_49 : decode cJ6_bitCount_0f7a4 49 = .ok (.bipush 63, 2) := by decide +kernel
theorem dJ6_bitCount_0f7a4_51 : decode cJ6_bitCount_0f7a4 51 = .ok (.iand, 1) := by decide +kernel
theorem dJ6_bitCount_0f7a4_52 : decode cJ6_bitCount_0f7a4 52 = .ok (.ireturn, 1) := by decide +kernel
theorem dJ9_floorMod_7cf53_0 : decode cJ9_floorMod_7cf53 0 = .ok (.iload_n 0, 1) := by decide +kernel
theorem dJ9_floorMod_7cf53_1 : decode cJ9_floorMod_7cf53 1 = .ok (.iload_n 1, 1) := by decide +kernel
theorem dJ9_floorMod_7cf53_2 : decode cJ9_floorMod_7cf53 2 = .ok (.irem, 1) := by decide +kernel
theorem dJ9_floorMod_7cf53_3 : decode cJ9_floorMod_7cf53 3 = .ok (.istore_n 2, 1) := by decide +kernel
theorem dJ9_floorMod_7cf53_4 : decode cJ9_floorMod_7cf53 4 = .ok (.iload_n 0, 1) := by decide +kernel
theorem dJ9_floorMod_7cf53_5 : decode cJ9_floorMod_7cf53 5 = .ok (.iload_n 1, 1) := by decide +kernel
theorem dJ9_floorMod_7cf53_6 : decode cJ9_floorMod_7cf53 6 = .ok (.ixor, 1) := by decide +kernel
theorem dJ9_floorMod_7cf53_7 : decode cJ9_floorMod_7cf53 7 = .ok (.ifCond .ge 11, 3) := by decide +kernel
theorem dJ9_floorMod_7cf53_10 : decode cJ9_floorMod_7cf53 10 = .ok (.iload_n 2, 1) := by decide +kernel
theorem dJ9_floorMod_7cf53_11 : decode cJ9_floorMod_7cf53 11 = .ok (.ifCond .eq 7, 3) := by decide +kernel
theorem dJ9_floorMod_7cf53_14 : decode cJ9_floorMod_7cf53 14 = .ok (.iload_n 2, 1) := by decide +kernel
theorem dJ9_floorMod_7cf53_15 : decode cJ9_floorMod_7cf53 15 = .ok (.iload_n 1, 1) := by decide +kernel
theorem dJ9_floorMod_7cf53_16 : decode cJ9_floorMod_7cf53 16 = .ok (.iadd, 1) := by decide +kernel
theorem dJ9_floorMod_7cf53_17 : decode cJ9_floorMod_7cf53 17 = .ok (.ireturn, 1) := by decide +kernel
theorem dJ9_floorMod_7cf53_18 : decode cJ9_floorMod_7cf53 18 = .ok (.iload_n 2, 1) := by decide +kernel
theorem dJ9_floorMod_7cf53_19 : decode cJ9_floorMod_7cf53 19 = .ok (.ireturn, 1) := by decide +kernel
theorem dJ9_min_7cf53_0 : decode cJ9_min_7cf53 0 = .ok (.iload_n 0, 1) := by decide +kernel
theorem dJ9_min_7cf53_1 : decode cJ9_min_7cf53 1 = .ok (.iload_n 1, 1) := by decide +kernel
theorem dJ9_min_7cf53_2 : decode cJ9_min_7cf53 2 = .ok (.if_icmp .gt 7, 3) := by decide +kernel
theorem dJ9_min_7cf53_5 : decode cJ9_min_7cf53 5 = .ok (.iload_n 0, 1) := by decide +kernel
theorem dJ9_min_7cf53_6 : decode cJ9_min_7cf53 6 = .ok (.goto 4, 3) := by decide +kernel
theorem dJ9_min_7cf53_9 : decode cJ9_min_7cf53 9 = .ok (.iload_n 1, 1) := by decide +kernel
theorem dJ9_min_7cf53_10 : decode cJ9_min_7cf53 10 = .ok (.ireturn, 1) := by decide +kernel
theorem dJ7_fill_53178_0 : decode cJ7_fill_53178 0 = .ok (.iconst 0, 1) := by decide +kernel
theorem dJ7_fill_53178_1 : decode cJ7_fill_53178 1 = .ok (.istore_n 2, 1) := by decide +kernel
theorem dJ7_fill_53178_2 : decode cJ7_fill_53178 2 = .ok (.aload_n 0, 1) := by decide +kernel
theorem dJ7_fill_53178_3 : decode cJ7_fill_53178 3 = .ok (.arraylength, 1) := by decide +kernel
theorem dJ7_fill_53178_4 : decode cJ7_fill_53178 4 = .ok (.istore_n 3, 1) := by decide +kernel
theorem dJ7_fill_53178_5 : decode cJ7_fill_53178 5 = .ok (.iload_n 2, 1) := by decide +kernel
theorem dJ7_fill_53178_6 : decode cJ7_fill_53178 6 = .ok (.iload_n 3, 1) := by decide +kernel
theorem dJ7_fill_53178_7 : decode cJ7_fill_53178 7 = .ok (.if_icmp .ge 13, 3) := by decide +kernel
theorem dJ7_fill_53178_10 : decode cJ7_fill_53178 10 = .ok (.aload_n 0, 1) := by decide +kernel
theorem dJ7_fill_53178_11 : decode cJ7_fill_53178 11 = .ok (.iload_n 2, 1) := by decide +kernel
theorem dJ7_fill_53178_12 : decode cJ7_fill_53178 12 = .ok (.iload_n 1, 1) := by decide +kernel
theorem dJ7_fill_53178_13 : decode cJ7_fill_53178 13 = .ok (.iastore, 1) := by decide +kernel
theorem dJ7_fill_53178_14 : decode cJ7_fill_53178 14 = .ok (.iinc 2 1, 3) := by decide +kernel
theorem dJ7_fill_53178_17 : decode cJ7_fill_53178 17 = .ok (.goto (-12), 3) := by decide +kernel
theorem dJ7_fill_53178_20 : decode cJ7_fill_53178 20 = .ok (.return_, 1) := by decide +kernel
