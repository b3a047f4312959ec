theorem dX0_init_0 : decode cX0_init 0 = .ok (.aload_n 0, 1) := by decide +kernel
theorem dX0_init_1 : decode cX0_init 1 = .ok (.invokespecial 1, 3) := by decide +kernel
theorem dX0_init_4 : decode cX0_init 4 = .ok (.return_, 1) := by decide +kernel
theorem dX1_init_0 : decode cX1_init 0 = .ok (.aload_n 0, 1) := by decide +kernel
theorem dX1_init_1 : decode cX1_init 1 = .ok (.invokespecial 1, 3) := by decide +kernel
theorem dX1_init_4 : decode cX1_init 4 = .ok (.aload_n 0, 1) := by decide +kernel
theorem dX1_init_5 : decode cX1_init 5 = .ok (.new 7, 3) := by decide +kernel
theorem dX1_init_8 : decode cX1_init 8 = .ok (.dup, 1) := by decide +kernel
theorem dX1_init_9 : decode cX1_init 9 = .ok (.invokespecial 9, 3) := by decide +kernel
theorem dX1_init_12 : decode cX1_init 12 = .ok (.putfield 10, 3) := by decide +kernel
theorem dX1_init_15 : decode cX1_init 15 = .ok (.aload_n 0, 1) := by decide +kernel
theorem dX1_init_16 : decode cX1_init 16 = .ok (.new 16, 3) := by decide +kernel
theorem dX1_init_19 : decode cX1_init 19 = .ok (.dup, 1) := by decide +kernel
theorem dX1_init_20 : decode cX1_init 20 = .ok (.invokespecial 18, 3) := by decide +kernel
theorem dX1_init_23 : decode cX1_init 23 = .ok (.putfield 19, 3) := by decide +kernel
theorem dX1_init_26 : decode cX1_init 26 = .ok (.aload_n 0, 1) := by decide +kernel
theorem dX1_init_27 : decode cX1_init 27 = .ok (.iload_n 1, 1) := by decide +kernel
theorem dX1_init_28 : decode cX1_init 28 = .ok (.putfield 23, 3) := by decide +kernel
theorem dX1_init_31 : decode cX1_init 31 = .ok (.aload_n 0, 1) := by decide +kernel
theorem dX1_init_32 : decode cX1_init 32 = .ok (.aload_n 2, 1) := by decide +kernel
theorem dX1_init_33 : decode cX1_init 33 = .ok (.putfield 27, 3) := by decide +kernel
theorem dX1_init_36 : decode cX1_init 36 = .ok (.return_, 1) := by decide +kernel
theorem dX2_init_0 : decode cX2_init 0 = .ok (.aload_n 0, 1) := by decide +kernel
theorem dX2_init_1 : decode cX2_init 1 = .ok (.invokespecial 1, 3) := by decide +kernel
theorem dX2_init_4 : decode cX2_init 4 = .ok (.return_, 1) := by decide +kernel
theorem dX3_init_0 : decode cX3_init 0 = .ok (.aload_n 0, 1) := by decide +kernel
theorem dX3_init_1 : decode cX3_init 1 = .ok (.invokespecial 3, 3) := by decide +kernel
theorem dX3_init_4 : decode cX3_init 4 = .ok (.aload_n 0, 1) := by decide +kernel
theorem dX3_init_5 : decode cX3_init 5 = .ok (.iconst (-1), 1) := by decide +kernel
theorem dX3_init_6 : decode cX3_init 6 = .ok (.putfield 9, 3) := by decide +kernel
theorem dX3_init_9 : decode cX3_init 9 = .ok (.aload_n 0, 1) := by decide +kernel
theorem dX3_init_10 : decode cX3_init 10 = .ok (.iconst (-1), 1) := by decide +kernel
theorem dX3_init_11 : decode cX3_init 11 = .ok (.putfield 15, 3) := by decide +kernel
theorem dX3_init_14 : decode cX3_init 14 = .ok (.aload_n 0, 1) := by decide +kernel
theorem dX3_init_15 : decode cX3_init 15 = .ok (.iconst 3, 1) := by decide +kernel
theorem dX3_init_16 : decode cX3_init 16 = .ok (.putfield 18, 3) := by decide +kernel
theorem dX3_init_19 : decode cX3_init 19 = .ok (.aload_n 0, 1) := by decide +kernel
theorem dX3_init_20 : decode cX3_init 20 = .ok (.iload_n 1, 1) := by decide +kernel
theorem dX3_init_21 : decode cX3_init 21 = .ok (.putfield 21, 3) := by decide +kernel
theorem dX3_init_24 : decode cX3_init 24 = .ok (.return_, 1) := by decide +kernel
theorem dX4_init_0 : decode cX4_init 0 = .ok (.aload_n 0, 1) := by decide +kernel
theorem dX4_init_1 : decode cX4_init 1 = .ok (.invokespecial 1, 3) := by decide +kernel
theorem dX4_init_4 : decode cX4_init 4 = .ok (.aload_n 0, 1) := by decide +kernel
theorem dX4_init_5 : decode cX4_init 5 = .ok (.iconst 3, 1) := by decide +kernel
theorem dX4_init_6 : decode cX4_init 6 = .ok (.anewarray 9, 3) := by decide +kernel
theorem dX4_init_9 : decode cX4_init 9 = .ok (.putfield 11, 3) := by decide +kernel
theorem dX4_init_12 : decode cX4_init 12 = .ok (.aload_n 0, 1) := by decide +kernel
theorem dX4_init_13 : decode cX4_init 13 = .ok (.iconst 5, 1) := by decide +kernel
theorem dX4_init_14 : decode cX4_init 14 = .ok (.anewarray 15, 3) := by decide +kernel
theorem dX4_init_17 : decode cX4_init 17 = .ok (.putfield 17, 3) := by decide +kernel
theorem dX4_init_20 : decode cX4_init 20 = .ok (.aload_n 0, 1) := by decide +kernel
theorem dX4_init_21 : decode cX4_init 21 = .ok (.iconst 4, 1) := by decide +kernel
theorem dX4_init_22 : decode cX4_init 22 = .ok (.anewarray 21, 3) := by decide +kernel
theorem dX4_init_25 : decode cX4_init 25 = .ok (.putfield 23, 3) := by decide +kernel
theorem dX4_init_28 : decode cX4_init 28 = .ok (.iconst 0, 1) := by decide +kernel
theorem dX4_init_29 : decode cX4_init 29 = .ok (.istore_n 1, 1) := by decide +kernel
theorem dX4_init_30 : decode cX4_init 30 = .ok (.iload_n 1, 1) := by decide +kernel
theorem dX4_init_31 : decode cX4_init 31 = .ok (.iconst 3, 1) := by decide +kernel
theorem dX4_init_32 : decode cX4_init 32 = .ok (.if_icmp .ge 23, 3) := by decide +kernel
theorem dX4_init_35 : decode cX4_init 35 = .ok (.aload_n 0, 1) := by decide +kernel
theorem dX4_init_36 : decode cX4_init 36 = .ok (.getfield 11, 3) := by decide +kernel
theorem dX4_init_39 : decode cX4_init 39 = .ok (.iload_n 1, 1) := by decide +kernel
theorem dX4_init_40 : decode cX4_init 40 = .ok (.new 9, 3) := by decide +kernel
theorem dX4_init_43 : decode cX4_init 43 = .ok (.dup, 1) := by decide +kernel
theorem dX4_init_44 : decode cX4_init 44 = .ok (.iload_n 1, 1) := by decide +kernel
theorem dX4_init_45 : decode cX4_init 45 = .ok (.invokespecial 27, 3) := by decide +kernel
theorem dX4_init_48 : decode cX4_init 48 = .ok (.aastore, 1) := by decide +kernel
theorem dX4_init_49 : decode cX4_init 49 = .ok (.iinc 1 1, 3) := by decide +kernel
theorem dX4_init_52 : decode cX4_init 52 = .ok (.goto (-22), 3) := by decide +kernel
theorem dX4_init_55 : decode cX4_init 55 = .ok (.iconst 0, 1) := by decide +kernel
theorem dX4_init_56 : decode cX4_init 56 = .ok (.istore_n 1, 1) := by decide +kernel
theorem dX4_init_57 : decode cX4_init 57 = .ok (.iload_n 1, 1) := by decide +kernel
theorem dX4_init_58 : decode cX4_init 58 = .ok (.iconst 5, 1) := by decide +kernel
theorem dX4_init_59 : decode cX4_init 59 = .ok (.if_icmp .ge 29, 3) := by decide +kernel
theorem dX4_init_62 : decode cX4_init 62 = .ok (.aload_n 0, 1) := by decide +kernel
theorem dX4_init_63 : decode cX4_init 63 = .ok (.getfield 17, 3) := by decide +kernel
theorem dX4_init_66 : decode cX4_init 66 = .ok (.iload_n 1, 1) := by decide +kernel
theorem dX4_init_67 : decode cX4_init 67 = .ok (.new 15, 3) := by decide +kernel
theorem dX4_init_70 : decode cX4_init 70 = .ok (.dup, 1) := by decide +kernel
theorem dX4_init_71 : decode cX4_init 71 = .ok (.iload_n 1, 1) := by decide +kernel
theorem dX4_init_72 : decode cX4_init 72 = .ok (.aload_n 0, 1) := by decide +kernel
theorem dX4_init_73 : decode cX4_init 73 = .ok (.getfield 11, 3) := by decide +kernel
theorem dX4_init_76 : decode cX4_init 76 = .ok (.iconst 0, 1) := by decide +kernel
theorem dX4_init_77 : decode cX4_init 77 = .ok (.aaload, 1) := by decide +kernel
theorem dX4_init_78 : decode cX4_init 78 = .ok (.invokespecial 30, 3) := by decide +kernel
theorem dX4_init_81 : decode cX4_init 81 = .ok (.aastore, 1) := by decide +kernel
theorem dX4_init_82 : decode cX4_init 82 = .ok (.iinc 1 1, 3) := by decide +kernel
theorem dX4_init_85 : decode cX4_init 85 = .ok (.goto (-28), 3) := by decide +kernel
theorem dX4_init_88 : decode cX4_init 88 = .ok (.iconst 0, 1) := by decide +kernel
theorem dX4_init_89 : decode cX4_init 89 = .ok (.istore_n 1, 1) := by decide +kernel
theorem dX4_init_90 : decode cX4_init 90 = .ok (.iload_n 1, 1) := by decide +kernel
theorem dX4_init_91 : decode cX4_init 91 = .ok (.iconst 4, 1) := by decide +kernel
theorem dX4_init_92 : decode cX4_init 92 = .ok (.if_icmp .ge 22, 3) := by decide +kernel
theorem dX4_init_95 : decode cX4_init 95 = .ok (.aload_n 0, 1) := by decide +kernel
theorem dX4_init_96 : decode cX4_init 96 = .ok (.getfield 23, 3) := by decide +kernel
theorem dX4_init_99 : decode cX4_init 99 = .ok (.iload_n 1, 1) := by decide +kernel
theorem dX4_init_100 : decode cX4_init 100 = .ok (.new 21, 3) := by decide +kernel
theorem dX4_init_103 : decode cX4_init 103 = .ok (.dup, 1) := by decide +kernel
theorem dX4_init_104 : decode cX4_init 104 = .ok (.invokespecial 33, 3) := by decide +kernel
theorem dX4_init_107 : decode cX4_init 107 = .ok (.aastore, 1) := by decide +kernel
theorem dX4_init_108 : decode cX4_init 108 = .ok (.iinc 1 1, 3) := by decide +kernel
theorem dX4_init_111 : decode cX4_init 111 = .ok (.goto (-21), 3) := by decide +kernel
theorem dX4_init_114 : decode cX4_init 114 = .ok (.return_, 1) := by decide +kernel
theorem dX4_setDue_0 : decode cX4_setDue 0 = .ok (.aload_n 0, 1) := by decide +kernel
theorem dX4_setDue_1 : decode cX4_setDue 1 = .ok (.iload_n 1, 1) := by decide +kernel
theorem dX4_setDue_2 : decode cX4_setDue 2 = .ok (.invokevirtual 34, 3) := by decide +kernel
theorem dX4_setDue_5 : decode cX4_setDue 5 = .ok (.astore 6, 2) := by decide +kernel
theorem dX4_setDue_7 : decode cX4_setDue 7 = .ok (.iload_n 2, 1) := by decide +kernel
theorem dX4_setDue_8 : decode cX4_setDue 8 = .ok (.iconst 0, 1) := by decide +kernel
theorem dX4_setDue_9 : decode cX4_setDue 9 = .ok (.sipush 10000, 3) := by decide +kernel
theorem dX4_setDue_12 : decode cX4_setDue 12 = .ok (.invokestatic 38, 3) := by decide +kernel
theorem dX4_setDue_15 : decode cX4_setDue 15 = .ok (.iload_n 3, 1) := by decide +kernel
theorem dX4_setDue_16 : decode cX4_setDue 16 = .ok (.iconst (-1), 1) := by decide +kernel
theorem dX4_setDue_17 : decode cX4_setDue 17 = .ok (.bipush 6, 2) := by decide +kernel
theorem dX4_setDue_19 : decode cX4_setDue 19 = .ok (.invokestatic 38, 3) := by decide +kernel
theorem dX4_setDue_22 : decode cX4_setDue 22 = .ok (.iload 4, 2) := by decide +kernel
theorem dX4_setDue_24 : decode cX4_setDue 24 = .ok (.iconst (-1), 1) := by decide +kernel
theorem dX4_setDue_25 : decode cX4_setDue 25 = .ok (.bipush 29, 2) := by decide +kernel
theorem dX4_setDue_27 : decode cX4_setDue 27 = .ok (.invokestatic 38, 3) := by decide +kernel
theorem dX4_setDue_30 : decode cX4_setDue 30 = .ok (.iload 5, 2) := by decide +kernel
theorem dX4_setDue_32 : decode cX4_setDue 32 = .ok (.iconst 0, 1) := by decide +kernel
theorem dX4_setDue_33 : decode cX4_setDue 33 = .ok (.bipush 100, 2) := by decide +kernel
theorem dX4_setDue_35 : decode cX4_setDue 35 = .ok (.invokestatic 38, 3) := by decide +kernel
theorem dX4_setDue_38 : decode cX4_setDue 38 = .ok (.aload 6, 2) := by decide +kernel
theorem dX4_setDue_40 : decode cX4_setDue 40 = .ok (.iload_n 2, 1) := by decide +kernel
theorem dX4_setDue_41 : decode cX4_setDue 41 = .ok (.putfield 42, 3) := by decide +kernel
theorem dX4_setDue_44 : decode cX4_setDue 44 = .ok (.aload 6, 2) := by decide +kernel
theorem dX4_setDue_46 : decode cX4_setDue 46 = .ok (.iload_n 3, 1) := by decide +kernel
theorem dX4_setDue_47 : decode cX4_setDue 47 = .ok (.putfield 46, 3) := by decide +kernel
theorem dX4_setDue_50 : decode cX4_setDue 50 = .ok (.aload 6, 2) := by decide +kernel
theorem dX4_setDue_52 : decode cX4_setDue 52 = .ok (.iload 4, 2) := by decide +kernel
theorem dX4_setDue_54 : decode cX4_setDue 54 = .ok (.putfield 49, 3) := by decide +kernel
theorem dX4_setDue_57 : decode cX4_setDue 57 = .ok (.aload 6, 2) := by decide +kernel
theorem dX4_setDue_59 : decode cX4_setDue 59 = .ok (.iload 5, 2) := by decide +kernel
theorem dX4_setDue_61 : decode cX4_setDue 61 = .ok (.putfield 52, 3) := by decide +kernel
theorem dX4_setDue_64 : decode cX4_setDue 64 = .ok (.return_, 1) := by decide +kernel
theorem dX4_setOld_0 : decode cX4_setOld 0 = .ok (.aload_n 0, 1) := by decide +kernel
theorem dX4_setOld_1 : decode cX4_setOld 1 = .ok (.iload_n 1, 1) := by decide +kernel
theorem dX4_setOld_2 : decode cX4_setOld 2 = .ok (.invokevirtual 34, 3) := by decide +kernel
theorem dX4_setOld_5 : decode cX4_setOld 5 = .ok (.astore 7, 2) := by decide +kernel
theorem dX4_setOld_7 : decode cX4_setOld 7 = .ok (.iload_n 2, 1) := by decide +kernel
theorem dX4_setOld_8 : decode cX4_setOld 8 = .ok (.iconst 0, 1) := by decide +kernel
theorem dX4_setOld_9 : decode cX4_setOld 9 = .ok (.bipush 10, 2) := by decide +kernel
theorem dX4_setOld_11 : decode cX4_setOld 11 = .ok (.invokestatic 38, 3) := by decide +kernel
theorem dX4_setOld_14 : decode cX4_setOld 14 = .ok (.iload_n 3, 1) := by decide +kernel
theorem dX4_setOld_15 : decode cX4_setOld 15 = .ok (.iconst 0, 1) := by decide +kernel
theorem dX4_setOld_16 : decode cX4_setOld 16 = .ok (.sipush 1000, 3) := by decide +kernel
theorem dX4_setOld_19 : decode cX4_setOld 19 = .ok (.invokestatic 38, 3) := by decide +kernel
theorem dX4_setOld_22 : decode cX4_setOld 22 = .ok (.aload 7, 2) := by decide +kernel
theorem dX4_setOld_24 : decode cX4_setOld 24 = .ok (.iload_n 2, 1) := by decide +kernel
theorem dX4_setOld_25 : decode cX4_setOld 25 = .ok (.putfield 55, 3) := by decide +kernel
theorem dX4_setOld_28 : decode cX4_setOld 28 = .ok (.aload 7, 2) := by decide +kernel
theorem dX4_setOld_30 : decode cX4_setOld 30 = .ok (.iload_n 3, 1) := by decide +kernel
theorem dX4_setOld_31 : decode cX4_setOld 31 = .ok (.putfield 58, 3) := by decide +kernel
theorem dX4_setOld_34 : decode cX4_setOld 34 = .ok (.aload 7, 2) := by decide +kernel
theorem dX4_setOld_36 : decode cX4_setOld 36 = .ok (.iload 4, 2) := by decide +kernel
theorem dX4_setOld_38 : decode cX4_setOld 38 = .ok (.putfield 61, 3) := by decide +kernel
theorem dX4_setOld_41 : decode cX4_setOld 41 = .ok (.aload 7, 2) := by decide +kernel
theorem dX4_setOld_43 : decode cX4_setOld 43 = .ok (.iload 5, 2) := by decide +kernel
theorem dX4_setOld_45 : decode cX4_setOld 45 = .ok (.putfield 65, 3) := by decide +kernel
theorem dX4_setOld_48 : decode cX4_setOld 48 = .ok (.aload 7, 2) := by decide +kernel
theorem dX4_setOld_50 : decode cX4_setOld 50 = .ok (.iload 6, 2) := by decide +kernel
theorem dX4_setOld_52 : decode cX4_setOld 52 = .ok (.putfield 68, 3) := by decide +kernel
theorem dX4_setOld_55 : decode cX4_setOld 55 = .ok (.return_, 1) := by decide +kernel
theorem dX4_give_0 : decode cX4_give 0 = .ok (.aload_n 0, 1) := by decide +kernel
theorem dX4_give_1 : decode cX4_give 1 = .ok (.iload_n 1, 1) := by decide +kernel
theorem dX4_give_2 : decode cX4_give 2 = .ok (.invokevirtual 71, 3) := by decide +kernel
theorem dX4_give_5 : decode cX4_give 5 = .ok (.astore_n 3, 1) := by decide +kernel
theorem dX4_give_6 : decode cX4_give 6 = .ok (.aload_n 0, 1) := by decide +kernel
theorem dX4_give_7 : decode cX4_give 7 = .ok (.iload_n 2, 1) := by decide +kernel
theorem dX4_give_8 : decode cX4_give 8 = .ok (.invokevirtual 34, 3) := by decide +kernel
theorem dX4_give_11 : decode cX4_give 11 = .ok (.astore 4, 2) := by decide +kernel
theorem dX4_give_13 : decode cX4_give 13 = .ok (.aload_n 3, 1) := by decide +kernel
theorem dX4_give_14 : decode cX4_give 14 = .ok (.getfield 75, 3) := by decide +kernel
theorem dX4_give_17 : decode cX4_give 17 = .ok (.getfield 79, 3) := by decide +kernel
theorem dX4_give_20 : decode cX4_give 20 = .ok (.istore 5, 2) := by decide +kernel
theorem dX4_give_22 : decode cX4_give 22 = .ok (.aload_n 3, 1) := by decide +kernel
theorem dX4_give_23 : decode cX4_give 23 = .ok (.aload 4, 2) := by decide +kernel
theorem dX4_give_25 : decode cX4_give 25 = .ok (.putfield 75, 3) := by decide +kernel
theorem dX4_give_28 : decode cX4_give 28 = .ok (.iload 5, 2) := by decide +kernel
theorem dX4_give_30 : decode cX4_give 30 = .ok (.ireturn, 1) := by decide +kernel
theorem dX4_open_0 : decode cX4_open 0 = .ok (.aload_n 0, 1) := by decide +kernel
theorem dX4_open_1 : decode cX4_open 1 = .ok (.iload_n 1, 1) := by decide +kernel
theorem dX4_open_2 : decode cX4_open 2 = .ok (.invokevirtual 82, 3) := by decide +kernel
theorem dX4_open_5 : decode cX4_open 5 = .ok (.astore_n 3, 1) := by decide +kernel
theorem dX4_open_6 : decode cX4_open 6 = .ok (.aload_n 0, 1) := by decide +kernel
theorem dX4_open_7 : decode cX4_open 7 = .ok (.iload_n 2, 1) := by decide +kernel
theorem dX4_open_8 : decode cX4_open 8 = .ok (.invokevirtual 71, 3) := by decide +kernel
theorem dX4_open_11 : decode cX4_open 11 = .ok (.astore 4, 2) := by decide +kernel
theorem dX4_open_13 : decode cX4_open 13 = .ok (.aload_n 3, 1) := by decide +kernel
theorem dX4_open_14 : decode cX4_open 14 = .ok (.aload 4, 2) := by decide +kernel
theorem dX4_open_16 : decode cX4_open 16 = .ok (.putfield 86, 3) := by decide +kernel
theorem dX4_open_19 : decode cX4_open 19 = .ok (.aload_n 3, 1) := by decide +kernel
theorem dX4_open_20 : decode cX4_open 20 = .ok (.aload 4, 2) := by decide +kernel
theorem dX4_open_22 : decode cX4_open 22 = .ok (.getfield 90, 3) := by decide +kernel
theorem dX4_open_25 : decode cX4_open 25 = .ok (.putfield 94, 3) := by decide +kernel
theorem dX4_open_28 : decode cX4_open 28 = .ok (.return_, 1) := by decide +kernel
theorem dX4_shut_0 : decode cX4_shut 0 = .ok (.aload_n 0, 1) := by decide +kernel
theorem dX4_shut_1 : decode cX4_shut 1 = .ok (.iload_n 1, 1) := by decide +kernel
theorem dX4_shut_2 : decode cX4_shut 2 = .ok (.invokevirtual 82, 3) := by decide +kernel
theorem dX4_shut_5 : decode cX4_shut 5 = .ok (.astore_n 2, 1) := by decide +kernel
theorem dX4_shut_6 : decode cX4_shut 6 = .ok (.aload_n 2, 1) := by decide +kernel
theorem dX4_shut_7 : decode cX4_shut 7 = .ok (.getfield 94, 3) := by decide +kernel
theorem dX4_shut_10 : decode cX4_shut 10 = .ok (.ifnull 7, 3) := by decide +kernel
theorem dX4_shut_13 : decode cX4_shut 13 = .ok (.iconst 1, 1) := by decide +kernel
theorem dX4_shut_14 : decode cX4_shut 14 = .ok (.goto 4, 3) := by decide +kernel
theorem dX4_shut_17 : decode cX4_shut 17 = .ok (.iconst 0, 1) := by decide +kernel
theorem dX4_shut_18 : decode cX4_shut 18 = .ok (.istore_n 3, 1) := by decide +kernel
theorem dX4_shut_19 : decode cX4_shut 19 = .ok (.aload_n 2, 1) := by decide +kernel
theorem dX4_shut_20 : decode cX4_shut 20 = .ok (.aconst_null, 1) := by decide +kernel
theorem dX4_shut_21 : decode cX4_shut 21 = .ok (.putfield 86, 3) := by decide +kernel
theorem dX4_shut_24 : decode cX4_shut 24 = .ok (.aload_n 2, 1) := by decide +kernel
theorem dX4_shut_25 : decode cX4_shut 25 = .ok (.aconst_null, 1) := by decide +kernel
theorem dX4_shut_26 : decode cX4_shut 26 = .ok (.putfield 94, 3) := by decide +kernel
theorem dX4_shut_29 : decode cX4_shut 29 = .ok (.iload_n 3, 1) := by decide +kernel
theorem dX4_shut_30 : decode cX4_shut 30 = .ok (.ireturn, 1) := by decide +kernel
theorem dX4_tell_0 : decode cX4_tell 0 = .ok (.aload_n 0, 1) := by decide +kernel
theorem dX4_tell_1 : decode cX4_tell 1 = .ok (.iload_n 1, 1) := by decide +kernel
theorem dX4_tell_2 : decode cX4_tell 2 = .ok (.invokevirtual 82, 3) := by decide +kernel
theorem dX4_tell_5 : decode cX4_tell 5 = .ok (.astore_n 2, 1) := by decide +kernel
theorem dX4_tell_6 : decode cX4_tell 6 = .ok (.aload_n 2, 1) := by decide +kernel
theorem dX4_tell_7 : decode cX4_tell 7 = .ok (.getfield 86, 3) := by decide +kernel
theorem dX4_tell_10 : decode cX4_tell 10 = .ok (.astore_n 3, 1) := by decide +kernel
theorem dX4_tell_11 : decode cX4_tell 11 = .ok (.aload_n 3, 1) := by decide +kernel
theorem dX4_tell_12 : decode cX4_tell 12 = .ok (.ifnonnull 13, 3) := by decide +kernel
theorem dX4_tell_15 : decode cX4_tell 15 = .ok (.new 97, 3) := by decide +kernel
theorem dX4_tell_18 : decode cX4_tell 18 = .ok (.dup, 1) := by decide +kernel
theorem dX4_tell_19 : decode cX4_tell 19 = .ok (.ldc 99, 2) := by decide +kernel
theorem dX4_tell_21 : decode cX4_tell 21 = .ok (.invokespecial 101, 3) := by decide +kernel
theorem dX4_tell_24 : decode cX4_tell 24 = .ok (.athrow, 1) := by decide +kernel
theorem dX4_tell_25 : decode cX4_tell 25 = .ok (.aload_n 2, 1) := by decide +kernel
theorem dX4_tell_26 : decode cX4_tell 26 = .ok (.getfield 94, 3) := by decide +kernel
theorem dX4_tell_29 : decode cX4_tell 29 = .ok (.aload_n 3, 1) := by decide +kernel
theorem dX4_tell_30 : decode cX4_tell 30 = .ok (.getfield 90, 3) := by decide +kernel
theorem dX4_tell_33 : decode cX4_tell 33 = .ok (.if_acmp .eq 7, 3) := by decide +kernel
theorem dX4_tell_36 : decode cX4_tell 36 = .ok (.iconst 1, 1) := by decide +kernel
theorem dX4_tell_37 : decode cX4_tell 37 = .ok (.goto 4, 3) := by decide +kernel
theorem dX4_tell_40 : decode cX4_tell 40 = .ok (.iconst 0, 1) := by decide +kernel
theorem dX4_tell_41 : decode cX4_tell 41 = .ok (.istore 4, 2) := by decide +kernel
theorem dX4_tell_43 : decode cX4_tell 43 = .ok (.aload_n 2, 1) := by decide +kernel
theorem dX4_tell_44 : decode cX4_tell 44 = .ok (.aload_n 3, 1) := by decide +kernel
theorem dX4_tell_45 : decode cX4_tell 45 = .ok (.getfield 90, 3) := by decide +kernel
theorem dX4_tell_48 : decode cX4_tell 48 = .ok (.putfield 94, 3) := by decide +kernel
theorem dX4_tell_51 : decode cX4_tell 51 = .ok (.iload 4, 2) := by decide +kernel
theorem dX4_tell_53 : decode cX4_tell 53 = .ok (.ireturn, 1) := by decide +kernel
theorem dX4_write_0 : decode cX4_write 0 = .ok (.aload_n 0, 1) := by decide +kernel
theorem dX4_write_1 : decode cX4_write 1 = .ok (.iload_n 1, 1) := by decide +kernel
theorem dX4_write_2 : decode cX4_write 2 = .ok (.invokevirtual 82, 3) := by decide +kernel
theorem dX4_write_5 : decode cX4_write 5 = .ok (.getfield 94, 3) := by decide +kernel
theorem dX4_write_8 : decode cX4_write 8 = .ok (.astore_n 3, 1) := by decide +kernel
theorem dX4_write_9 : decode cX4_write 9 = .ok (.iload_n 2, 1) := by decide +kernel
theorem dX4_write_10 : decode cX4_write 10 = .ok (.iconst 1, 1) := by decide +kernel
theorem dX4_write_11 : decode cX4_write 11 = .ok (.sipush 1000, 3) := by decide +kernel
theorem dX4_write_14 : decode cX4_write 14 = .ok (.invokestatic 38, 3) := by decide +kernel
theorem dX4_write_17 : decode cX4_write 17 = .ok (.aload_n 3, 1) := by decide +kernel
theorem dX4_write_18 : decode cX4_write 18 = .ok (.ifnonnull 13, 3) := by decide +kernel
theorem dX4_write_21 : decode cX4_write 21 = .ok (.new 97, 3) := by decide +kernel
theorem dX4_write_24 : decode cX4_write 24 = .ok (.dup, 1) := by decide +kernel
theorem dX4_write_25 : decode cX4_write 25 = .ok (.ldc 99, 2) := by decide +kernel
theorem dX4_write_27 : decode cX4_write 27 = .ok (.invokespecial 101, 3) := by decide +kernel
theorem dX4_write_30 : decode cX4_write 30 = .ok (.athrow, 1) := by decide +kernel
theorem dX4_write_31 : decode cX4_write 31 = .ok (.aload_n 3, 1) := by decide +kernel
theorem dX4_write_32 : decode cX4_write 32 = .ok (.dup, 1) := by decide +kernel
theorem dX4_write_33 : decode cX4_write 33 = .ok (.getfield 104, 3) := by decide +kernel
theorem dX4_write_36 : decode cX4_write 36 = .ok (.iload_n 2, 1) := by decide +kernel
theorem dX4_write_37 : decode cX4_write 37 = .ok (.iadd, 1) := by decide +kernel
theorem dX4_write_38 : decode cX4_write 38 = .ok (.putfield 104, 3) := by decide +kernel
theorem dX4_write_41 : decode cX4_write 41 = .ok (.aload_n 3, 1) := by decide +kernel
theorem dX4_write_42 : decode cX4_write 42 = .ok (.getfield 104, 3) := by decide +kernel
theorem dX4_write_45 : decode cX4_write 45 = .ok (.ireturn, 1) := by decide +kernel
theorem dX4_advance_0 : decode cX4_advance 0 = .ok (.iload_n 1, 1) := by decide +kernel
theorem dX4_advance_1 : decode cX4_advance 1 = .ok (.iconst 1, 1) := by decide +kernel
theorem dX4_advance_2 : decode cX4_advance 2 = .ok (.bipush 100, 2) := by decide +kernel
theorem dX4_advance_4 : decode cX4_advance 4 = .ok (.invokestatic 38, 3) := by decide +kernel
theorem dX4_advance_7 : decode cX4_advance 7 = .ok (.aload_n 0, 1) := by decide +kernel
theorem dX4_advance_8 : decode cX4_advance 8 = .ok (.getfield 109, 3) := by decide +kernel
theorem dX4_advance_11 : decode cX4_advance 11 = .ok (.iload_n 1, 1) := by decide +kernel
theorem dX4_advance_12 : decode cX4_advance 12 = .ok (.iadd, 1) := by decide +kernel
theorem dX4_advance_13 : decode cX4_advance 13 = .ok (.sipush 5000, 3) := by decide +kernel
theorem dX4_advance_16 : decode cX4_advance 16 = .ok (.if_icmp .le 13, 3) := by decide +kernel
theorem dX4_advance_19 : decode cX4_advance 19 = .ok (.new 97, 3) := by decide +kernel
theorem dX4_advance_22 : decode cX4_advance 22 = .ok (.dup, 1) := by decide +kernel
theorem dX4_advance_23 : decode cX4_advance 23 = .ok (.ldc 112, 2) := by decide +kernel
theorem dX4_advance_25 : decode cX4_advance 25 = .ok (.invokespecial 101, 3) := by decide +kernel
theorem dX4_advance_28 : decode cX4_advance 28 = .ok (.athrow, 1) := by decide +kernel
theorem dX4_advance_29 : decode cX4_advance 29 = .ok (.aload_n 0, 1) := by decide +kernel
theorem dX4_advance_30 : decode cX4_advance 30 = .ok (.dup, 1) := by decide +kernel
theorem dX4_advance_31 : decode cX4_advance 31 = .ok (.getfield 109, 3) := by decide +kernel
theorem dX4_advance_34 : decode cX4_advance 34 = .ok (.iload_n 1, 1) := by decide +kernel
theorem dX4_advance_35 : decode cX4_advance 35 = .ok (.iadd, 1) := by decide +kernel
theorem dX4_advance_36 : decode cX4_advance 36 = .ok (.putfield 109, 3) := by decide +kernel
theorem dX4_advance_39 : decode cX4_advance 39 = .ok (.aload_n 0, 1) := by decide +kernel
theorem dX4_advance_40 : decode cX4_advance 40 = .ok (.getfield 109, 3) := by decide +kernel
theorem dX4_advance_43 : decode cX4_advance 43 = .ok (.ireturn, 1) := by decide +kernel
theorem dX4_run_0 : decode cX4_run 0 = .ok (.iconst 0, 1) := by decide +kernel
theorem dX4_run_1 : decode cX4_run 1 = .ok (.istore_n 1, 1) := by decide +kernel
theorem dX4_run_2 : decode cX4_run 2 = .ok (.iconst 0, 1) := by decide +kernel
theorem dX4_run_3 : decode cX4_run 3 = .ok (.istore_n 2, 1) := by decide +kernel
theorem dX4_run_4 : decode cX4_run 4 = .ok (.iload_n 2, 1) := by decide +kernel
theorem dX4_run_5 : decode cX4_run 5 = .ok (.iconst 5, 1) := by decide +kernel
theorem dX4_run_6 : decode cX4_run 6 = .ok (.if_icmp .ge 42, 3) := by decide +kernel
theorem dX4_run_9 : decode cX4_run 9 = .ok (.aload_n 0, 1) := by decide +kernel
theorem dX4_run_10 : decode cX4_run 10 = .ok (.getfield 17, 3) := by decide +kernel
theorem dX4_run_13 : decode cX4_run 13 = .ok (.iload_n 2, 1) := by decide +kernel
theorem dX4_run_14 : decode cX4_run 14 = .ok (.aaload, 1) := by decide +kernel
theorem dX4_run_15 : decode cX4_run 15 = .ok (.aload_n 0, 1) := by decide +kernel
theorem dX4_run_16 : decode cX4_run 16 = .ok (.getfield 109, 3) := by decide +kernel
theorem dX4_run_19 : decode cX4_run 19 = .ok (.invokestatic 114, 3) := by decide +kernel
theorem dX4_run_22 : decode cX4_run 22 = .ok (.ifCond .eq 20, 3) := by decide +kernel
theorem dX4_run_25 : decode cX4_run 25 = .ok (.aload_n 0, 1) := by decide +kernel
theorem dX4_run_26 : decode cX4_run 26 = .ok (.aload_n 0, 1) := by decide +kernel
theorem dX4_run_27 : decode cX4_run 27 = .ok (.getfield 17, 3) := by decide +kernel
theorem dX4_run_30 : decode cX4_run 30 = .ok (.iload_n 2, 1) := by decide +kernel
theorem dX4_run_31 : decode cX4_run 31 = .ok (.aaload, 1) := by decide +kernel
theorem dX4_run_32 : decode cX4_run 32 = .ok (.invokevirtual 118, 3) := by decide +kernel
theorem dX4_run_35 : decode cX4_run 35 = .ok (.pop, 1) := by decide +kernel
theorem dX4_run_36 : decode cX4_run 36 = .ok (.iload_n 1, 1) := by decide +kernel
theorem dX4_run_37 : decode cX4_run 37 = .ok (.iconst 1, 1) := by decide +kernel
theorem dX4_run_38 : decode cX4_run 38 = .ok (.iload_n 2, 1) := by decide +kernel
theorem dX4_run_39 : decode cX4_run 39 = .ok (.ishl, 1) := by decide +kernel
theorem dX4_run_40 : decode cX4_run 40 = .ok (.ior, 1) := by decide +kernel
theorem dX4_run_41 : decode cX4_run 41 = .ok (.istore_n 1, 1) := by decide +kernel
theorem dX4_run_42 : decode cX4_run 42 = .ok (.iinc 2 1, 3) := by decide +kernel
theorem dX4_run_45 : decode cX4_run 45 = .ok (.goto (-41), 3) := by decide +kernel
theorem dX4_run_48 : decode cX4_run 48 = .ok (.iconst 0, 1) := by decide +kernel
theorem dX4_run_49 : decode cX4_run 49 = .ok (.istore_n 2, 1) := by decide +kernel
theorem dX4_run_50 : decode cX4_run 50 = .ok (.iload_n 2, 1) := by decide +kernel
theorem dX4_run_51 : decode cX4_run 51 = .ok (.iconst 3, 1) := by decide +kernel
theorem dX4_run_52 : decode cX4_run 52 = .ok (.if_icmp .ge 45, 3) := by decide +kernel
theorem dX4_run_55 : decode cX4_run 55 = .ok (.aload_n 0, 1) := by decide +kernel
theorem dX4_run_56 : decode cX4_run 56 = .ok (.getfield 11, 3) := by decide +kernel
theorem dX4_run_59 : decode cX4_run 59 = .ok (.iload_n 2, 1) := by decide +kernel
theorem dX4_run_60 : decode cX4_run 60 = .ok (.aaload, 1) := by decide +kernel
theorem dX4_run_61 : decode cX4_run 61 = .ok (.getfield 68, 3) := by decide +kernel
theorem dX4_run_64 : decode cX4_run 64 = .ok (.ifCond .eq 27, 3) := by decide +kernel
theorem dX4_run_67 : decode cX4_run 67 = .ok (.aload_n 0, 1) := by decide +kernel
theorem dX4_run_68 : decode cX4_run 68 = .ok (.aload_n 0, 1) := by decide +kernel
theorem dX4_run_69 : decode cX4_run 69 = .ok (.getfield 11, 3) := by decide +kernel
theorem dX4_run_72 : decode cX4_run 72 = .ok (.iload_n 2, 1) := by decide +kernel
theorem dX4_run_73 : decode cX4_run 73 = .ok (.aaload, 1) := by decide +kernel
theorem dX4_run_74 : decode cX4_run 74 = .ok (.iload_n 1, 1) := by decide +kernel
theorem dX4_run_75 : decode cX4_run 75 = .ok (.invokevirtual 122, 3) := by decide +kernel
theorem dX4_run_78 : decode cX4_run 78 = .ok (.ifCond .eq 13, 3) := by decide +kernel
theorem dX4_run_81 : decode cX4_run 81 = .ok (.aload_n 0, 1) := by decide +kernel
theorem dX4_run_82 : decode cX4_run 82 = .ok (.aload_n 0, 1) := by decide +kernel
theorem dX4_run_83 : decode cX4_run 83 = .ok (.getfield 11, 3) := by decide +kernel
theorem dX4_run_86 : decode cX4_run 86 = .ok (.iload_n 2, 1) := by decide +kernel
theorem dX4_run_87 : decode cX4_run 87 = .ok (.aaload, 1) := by decide +kernel
theorem dX4_run_88 : decode cX4_run 88 = .ok (.invokevirtual 126, 3) := by decide +kernel
theorem dX4_run_91 : decode cX4_run 91 = .ok (.iinc 2 1, 3) := by decide +kernel
theorem dX4_run_94 : decode cX4_run 94 = .ok (.goto (-44), 3) := by decide +kernel
theorem dX4_run_97 : decode cX4_run 97 = .ok (.iload_n 1, 1) := by decide +kernel
theorem dX4_run_98 : decode cX4_run 98 = .ok (.ireturn, 1) := by decide +kernel
theorem dX4_turn_0 : decode cX4_turn 0 = .ok (.aload_n 0, 1) := by decide +kernel
theorem dX4_turn_1 : decode cX4_turn 1 = .ok (.aload_n 0, 1) := by decide +kernel
theorem dX4_turn_2 : decode cX4_turn 2 = .ok (.iload_n 1, 1) := by decide +kernel
theorem dX4_turn_3 : decode cX4_turn 3 = .ok (.invokevirtual 71, 3) := by decide +kernel
theorem dX4_turn_6 : decode cX4_turn 6 = .ok (.invokevirtual 118, 3) := by decide +kernel
theorem dX4_turn_9 : decode cX4_turn 9 = .ok (.ireturn, 1) := by decide +kernel
theorem dX4_lose_0 : decode cX4_lose 0 = .ok (.aload_n 0, 1) := by decide +kernel
theorem dX4_lose_1 : decode cX4_lose 1 = .ok (.iload_n 1, 1) := by decide +kernel
theorem dX4_lose_2 : decode cX4_lose 2 = .ok (.invokevirtual 71, 3) := by decide +kernel
theorem dX4_lose_5 : decode cX4_lose 5 = .ok (.astore_n 2, 1) := by decide +kernel
theorem dX4_lose_6 : decode cX4_lose 6 = .ok (.aload_n 2, 1) := by decide +kernel
theorem dX4_lose_7 : decode cX4_lose 7 = .ok (.getfield 130, 3) := by decide +kernel
theorem dX4_lose_10 : decode cX4_lose 10 = .ok (.istore_n 3, 1) := by decide +kernel
theorem dX4_lose_11 : decode cX4_lose 11 = .ok (.aload_n 0, 1) := by decide +kernel
theorem dX4_lose_12 : decode cX4_lose 12 = .ok (.aload_n 2, 1) := by decide +kernel
theorem dX4_lose_13 : decode cX4_lose 13 = .ok (.invokevirtual 133, 3) := by decide +kernel
theorem dX4_lose_16 : decode cX4_lose 16 = .ok (.iload_n 3, 1) := by decide +kernel
theorem dX4_lose_17 : decode cX4_lose 17 = .ok (.ireturn, 1) := by decide +kernel
theorem dX4_day_0 : decode cX4_day 0 = .ok (.aload_n 0, 1) := by decide +kernel
theorem dX4_day_1 : decode cX4_day 1 = .ok (.getfield 109, 3) := by decide +kernel
theorem dX4_day_4 : decode cX4_day 4 = .ok (.ireturn, 1) := by decide +kernel
theorem dX4_isDue_0 : decode cX4_isDue 0 = .ok (.aload_n 0, 1) := by decide +kernel
theorem dX4_isDue_1 : decode cX4_isDue 1 = .ok (.iload_n 1, 1) := by decide +kernel
theorem dX4_isDue_2 : decode cX4_isDue 2 = .ok (.invokevirtual 71, 3) := by decide +kernel
theorem dX4_isDue_5 : decode cX4_isDue 5 = .ok (.aload_n 0, 1) := by decide +kernel
theorem dX4_isDue_6 : decode cX4_isDue 6 = .ok (.getfield 109, 3) := by decide +kernel
theorem dX4_isDue_9 : decode cX4_isDue 9 = .ok (.invokestatic 114, 3) := by decide +kernel
theorem dX4_isDue_12 : decode cX4_isDue 12 = .ok (.ireturn, 1) := by decide +kernel
theorem dX4_nextDue_0 : decode cX4_nextDue 0 = .ok (.aload_n 0, 1) := by decide +kernel
theorem dX4_nextDue_1 : decode cX4_nextDue 1 = .ok (.iload_n 1, 1) := by decide +kernel
theorem dX4_nextDue_2 : decode cX4_nextDue 2 = .ok (.invokevirtual 71, 3) := by decide +kernel
theorem dX4_nextDue_5 : decode cX4_nextDue 5 = .ok (.astore_n 2, 1) := by decide +kernel
theorem dX4_nextDue_6 : decode cX4_nextDue 6 = .ok (.iconst 0, 1) := by decide +kernel
theorem dX4_nextDue_7 : decode cX4_nextDue 7 = .ok (.istore_n 3, 1) := by decide +kernel
theorem dX4_nextDue_8 : decode cX4_nextDue 8 = .ok (.iload_n 3, 1) := by decide +kernel
theorem dX4_nextDue_9 : decode cX4_nextDue 9 = .ok (.sipush 200, 3) := by decide +kernel
theorem dX4_nextDue_12 : decode cX4_nextDue 12 = .ok (.if_icmp .gt 29, 3) := by decide +kernel
theorem dX4_nextDue_15 : decode cX4_nextDue 15 = .ok (.aload_n 2, 1) := by decide +kernel
theorem dX4_nextDue_16 : decode cX4_nextDue 16 = .ok (.aload_n 0, 1) := by decide +kernel
theorem dX4_nextDue_17 : decode cX4_nextDue 17 = .ok (.getfield 109, 3) := by decide +kernel
theorem dX4_nextDue_20 : decode cX4_nextDue 20 = .ok (.iload_n 3, 1) := by decide +kernel
theorem dX4_nextDue_21 : decode cX4_nextDue 21 = .ok (.iadd, 1) := by decide +kernel
theorem dX4_nextDue_22 : decode cX4_nextDue 22 = .ok (.invokestatic 114, 3) := by decide +kernel
theorem dX4_nextDue_25 : decode cX4_nextDue 25 = .ok (.ifCond .eq 10, 3) := by decide +kernel
theorem dX4_nextDue_28 : decode cX4_nextDue 28 = .ok (.aload_n 0, 1) := by decide +kernel
theorem dX4_nextDue_29 : decode cX4_nextDue 29 = .ok (.getfield 109, 3) := by decide +kernel
theorem dX4_nextDue_32 : decode cX4_nextDue 32 = .ok (.iload_n 3, 1) := by decide +kernel
theorem dX4_nextDue_33 : decode cX4_nextDue 33 = .ok (.iadd, 1) := by decide +kernel
theorem dX4_nextDue_34 : decode cX4_nextDue 34 = .ok (.ireturn, 1) := by decide +kernel
theorem dX4_nextDue_35 : decode cX4_nextDue 35 = .ok (.iinc 3 1, 3) := by decide +kernel
theorem dX4_nextDue_38 : decode cX4_nextDue 38 = .ok (.goto (-30), 3) := by decide +kernel
theorem dX4_nextDue_41 : decode cX4_nextDue 41 = .ok (.iconst (-1), 1) := by decide +kernel
theorem dX4_nextDue_42 : decode cX4_nextDue 42 = .ok (.ireturn, 1) := by decide +kernel
theorem dX4_live_0 : decode cX4_live 0 = .ok (.aload_n 0, 1) := by decide +kernel
theorem dX4_live_1 : decode cX4_live 1 = .ok (.iload_n 1, 1) := by decide +kernel
theorem dX4_live_2 : decode cX4_live 2 = .ok (.invokevirtual 71, 3) := by decide +kernel
theorem dX4_live_5 : decode cX4_live 5 = .ok (.getfield 90, 3) := by decide +kernel
theorem dX4_live_8 : decode cX4_live 8 = .ok (.getfield 104, 3) := by decide +kernel
theorem dX4_live_11 : decode cX4_live 11 = .ok (.ireturn, 1) := by decide +kernel
theorem dX4_olds_0 : decode cX4_olds 0 = .ok (.aload_n 0, 1) := by decide +kernel
theorem dX4_olds_1 : decode cX4_olds 1 = .ok (.iload_n 1, 1) := by decide +kernel
theorem dX4_olds_2 : decode cX4_olds 2 = .ok (.invokevirtual 71, 3) := by decide +kernel
theorem dX4_olds_5 : decode cX4_olds 5 = .ok (.getfield 137, 3) := by decide +kernel
theorem dX4_olds_8 : decode cX4_olds 8 = .ok (.invokevirtual 141, 3) := by decide +kernel
theorem dX4_olds_11 : decode cX4_olds 11 = .ok (.ireturn, 1) := by decide +kernel
theorem dX4_lines_0 : decode cX4_lines 0 = .ok (.aload_n 0, 1) := by decide +kernel
theorem dX4_lines_1 : decode cX4_lines 1 = .ok (.iload_n 1, 1) := by decide +kernel
theorem dX4_lines_2 : decode cX4_lines 2 = .ok (.invokevirtual 71, 3) := by decide +kernel
theorem dX4_lines_5 : decode cX4_lines 5 = .ok (.iload_n 2, 1) := by decide +kernel
theorem dX4_lines_6 : decode cX4_lines 6 = .ok (.invokestatic 146, 3) := by decide +kernel
theorem dX4_lines_9 : decode cX4_lines 9 = .ok (.getfield 104, 3) := by decide +kernel
theorem dX4_lines_12 : decode cX4_lines 12 = .ok (.ireturn, 1) := by decide +kernel
theorem dX4_name_0 : decode cX4_name 0 = .ok (.aload_n 0, 1) := by decide +kernel
theorem dX4_name_1 : decode cX4_name 1 = .ok (.iload_n 1, 1) := by decide +kernel
theorem dX4_name_2 : decode cX4_name 2 = .ok (.invokevirtual 71, 3) := by decide +kernel
theorem dX4_name_5 : decode cX4_name 5 = .ok (.astore_n 3, 1) := by decide +kernel
theorem dX4_name_6 : decode cX4_name 6 = .ok (.aload_n 3, 1) := by decide +kernel
theorem dX4_name_7 : decode cX4_name 7 = .ok (.iload_n 2, 1) := by decide +kernel
theorem dX4_name_8 : decode cX4_name 8 = .ok (.invokestatic 146, 3) := by decide +kernel
theorem dX4_name_11 : decode cX4_name 11 = .ok (.getfield 150, 3) := by decide +kernel
theorem dX4_name_14 : decode cX4_name 14 = .ok (.istore 4, 2) := by decide +kernel
theorem dX4_name_16 : decode cX4_name 16 = .ok (.aload_n 3, 1) := by decide +kernel
theorem dX4_name_17 : decode cX4_name 17 = .ok (.getfield 75, 3) := by decide +kernel
theorem dX4_name_20 : decode cX4_name 20 = .ok (.getfield 65, 3) := by decide +kernel
theorem dX4_name_23 : decode cX4_name 23 = .ok (.ifCond .ne 13, 3) := by decide +kernel
theorem dX4_name_26 : decode cX4_name 26 = .ok (.aload_n 3, 1) := by decide +kernel
theorem dX4_name_27 : decode cX4_name 27 = .ok (.getfield 137, 3) := by decide +kernel
theorem dX4_name_30 : decode cX4_name 30 = .ok (.invokevirtual 141, 3) := by decide +kernel
theorem dX4_name_33 : decode cX4_name 33 = .ok (.iload_n 2, 1) := by decide +kernel
theorem dX4_name_34 : decode cX4_name 34 = .ok (.isub, 1) := by decide +kernel
theorem dX4_name_35 : decode cX4_name 35 = .ok (.ireturn, 1) := by decide +kernel
theorem dX4_name_36 : decode cX4_name 36 = .ok (.sipush 1000, 3) := by decide +kernel
theorem dX4_name_39 : decode cX4_name 39 = .ok (.iload 4, 2) := by decide +kernel
theorem dX4_name_41 : decode cX4_name 41 = .ok (.imul, 1) := by decide +kernel
theorem dX4_name_42 : decode cX4_name 42 = .ok (.aload_n 3, 1) := by decide +kernel
theorem dX4_name_43 : decode cX4_name 43 = .ok (.getfield 137, 3) := by decide +kernel
theorem dX4_name_46 : decode cX4_name 46 = .ok (.iload_n 2, 1) := by decide +kernel
theorem dX4_name_47 : decode cX4_name 47 = .ok (.iload 4, 2) := by decide +kernel
theorem dX4_name_49 : decode cX4_name 49 = .ok (.invokestatic 153, 3) := by decide +kernel
theorem dX4_name_52 : decode cX4_name 52 = .ok (.iadd, 1) := by decide +kernel
theorem dX4_name_53 : decode cX4_name 53 = .ok (.ireturn, 1) := by decide +kernel
theorem dX4_isSqueezed_0 : decode cX4_isSqueezed 0 = .ok (.aload_n 0, 1) := by decide +kernel
theorem dX4_isSqueezed_1 : decode cX4_isSqueezed 1 = .ok (.iload_n 1, 1) := by decide +kernel
theorem dX4_isSqueezed_2 : decode cX4_isSqueezed 2 = .ok (.invokevirtual 71, 3) := by decide +kernel
theorem dX4_isSqueezed_5 : decode cX4_isSqueezed 5 = .ok (.iload_n 2, 1) := by decide +kernel
theorem dX4_isSqueezed_6 : decode cX4_isSqueezed 6 = .ok (.invokestatic 146, 3) := by decide +kernel
theorem dX4_isSqueezed_9 : decode cX4_isSqueezed 9 = .ok (.getfield 157, 3) := by decide +kernel
theorem dX4_isSqueezed_12 : decode cX4_isSqueezed 12 = .ok (.ireturn, 1) := by decide +kernel
theorem dX4_thrown_0 : decode cX4_thrown 0 = .ok (.aload_n 0, 1) := by decide +kernel
theorem dX4_thrown_1 : decode cX4_thrown 1 = .ok (.iload_n 1, 1) := by decide +kernel
theorem dX4_thrown_2 : decode cX4_thrown 2 = .ok (.invokevirtual 71, 3) := by decide +kernel
theorem dX4_thrown_5 : decode cX4_thrown 5 = .ok (.getfield 160, 3) := by decide +kernel
theorem dX4_thrown_8 : decode cX4_thrown 8 = .ok (.ireturn, 1) := by decide +kernel
theorem dX4_holds_0 : decode cX4_holds 0 = .ok (.aload_n 0, 1) := by decide +kernel
theorem dX4_holds_1 : decode cX4_holds 1 = .ok (.iload_n 1, 1) := by decide +kernel
theorem dX4_holds_2 : decode cX4_holds 2 = .ok (.invokevirtual 82, 3) := by decide +kernel
theorem dX4_holds_5 : decode cX4_holds 5 = .ok (.astore_n 2, 1) := by decide +kernel
theorem dX4_holds_6 : decode cX4_holds 6 = .ok (.aload_n 2, 1) := by decide +kernel
theorem dX4_holds_7 : decode cX4_holds 7 = .ok (.getfield 86, 3) := by decide +kernel
theorem dX4_holds_10 : decode cX4_holds 10 = .ok (.astore_n 3, 1) := by decide +kernel
theorem dX4_holds_11 : decode cX4_holds 11 = .ok (.aload_n 3, 1) := by decide +kernel
theorem dX4_holds_12 : decode cX4_holds 12 = .ok (.ifnonnull 5, 3) := by decide +kernel
theorem dX4_holds_15 : decode cX4_holds 15 = .ok (.iconst (-1), 1) := by decide +kernel
theorem dX4_holds_16 : decode cX4_holds 16 = .ok (.ireturn, 1) := by decide +kernel
theorem dX4_holds_17 : decode cX4_holds 17 = .ok (.bipush 100, 2) := by decide +kernel
theorem dX4_holds_19 : decode cX4_holds 19 = .ok (.aload_n 3, 1) := by decide +kernel
theorem dX4_holds_20 : decode cX4_holds 20 = .ok (.getfield 163, 3) := by decide +kernel
theorem dX4_holds_23 : decode cX4_holds 23 = .ok (.imul, 1) := by decide +kernel
theorem dX4_holds_24 : decode cX4_holds 24 = .ok (.aload_n 3, 1) := by decide +kernel
theorem dX4_holds_25 : decode cX4_holds 25 = .ok (.getfield 137, 3) := by decide +kernel
theorem dX4_holds_28 : decode cX4_holds 28 = .ok (.aload_n 2, 1) := by decide +kernel
theorem dX4_holds_29 : decode cX4_holds 29 = .ok (.getfield 94, 3) := by decide +kernel
theorem dX4_holds_32 : decode cX4_holds 32 = .ok (.invokestatic 164, 3) := by decide +kernel
theorem dX4_holds_35 : decode cX4_holds 35 = .ok (.iadd, 1) := by decide +kernel
theorem dX4_holds_36 : decode cX4_holds 36 = .ok (.ireturn, 1) := by decide +kernel
theorem dX4_ruleOf_0 : decode cX4_ruleOf 0 = .ok (.iload_n 1, 1) := by decide +kernel
theorem dX4_ruleOf_1 : decode cX4_ruleOf 1 = .ok (.ifCond .lt 8, 3) := by decide +kernel
theorem dX4_ruleOf_4 : decode cX4_ruleOf 4 = .ok (.iload_n 1, 1) := by decide +kernel
theorem dX4_ruleOf_5 : decode cX4_ruleOf 5 = .ok (.iconst 3, 1) := by decide +kernel
theorem dX4_ruleOf_6 : decode cX4_ruleOf 6 = .ok (.if_icmp .lt 13, 3) := by decide +kernel
theorem dX4_ruleOf_9 : decode cX4_ruleOf 9 = .ok (.new 168, 3) := by decide +kernel
theorem dX4_ruleOf_12 : decode cX4_ruleOf 12 = .ok (.dup, 1) := by decide +kernel
theorem dX4_ruleOf_13 : decode cX4_ruleOf 13 = .ok (.ldc 170, 2) := by decide +kernel
theorem dX4_ruleOf_15 : decode cX4_ruleOf 15 = .ok (.invokespecial 172, 3) := by decide +kernel
theorem dX4_ruleOf_18 : decode cX4_ruleOf 18 = .ok (.athrow, 1) := by decide +kernel
theorem dX4_ruleOf_19 : decode cX4_ruleOf 19 = .ok (.aload_n 0, 1) := by decide +kernel
theorem dX4_ruleOf_20 : decode cX4_ruleOf 20 = .ok (.getfield 11, 3) := by decide +kernel
theorem dX4_ruleOf_23 : decode cX4_ruleOf 23 = .ok (.iload_n 1, 1) := by decide +kernel
theorem dX4_ruleOf_24 : decode cX4_ruleOf 24 = .ok (.aaload, 1) := by decide +kernel
theorem dX4_ruleOf_25 : decode cX4_ruleOf 25 = .ok (.areturn, 1) := by decide +kernel
theorem dX4_fileOf_0 : decode cX4_fileOf 0 = .ok (.iload_n 1, 1) := by decide +kernel
theorem dX4_fileOf_1 : decode cX4_fileOf 1 = .ok (.ifCond .lt 8, 3) := by decide +kernel
theorem dX4_fileOf_4 : decode cX4_fileOf 4 = .ok (.iload_n 1, 1) := by decide +kernel
theorem dX4_fileOf_5 : decode cX4_fileOf 5 = .ok (.iconst 5, 1) := by decide +kernel
theorem dX4_fileOf_6 : decode cX4_fileOf 6 = .ok (.if_icmp .lt 13, 3) := by decide +kernel
theorem dX4_fileOf_9 : decode cX4_fileOf 9 = .ok (.new 168, 3) := by decide +kernel
theorem dX4_fileOf_12 : decode cX4_fileOf 12 = .ok (.dup, 1) := by decide +kernel
theorem dX4_fileOf_13 : decode cX4_fileOf 13 = .ok (.ldc 173, 2) := by decide +kernel
theorem dX4_fileOf_15 : decode cX4_fileOf 15 = .ok (.invokespecial 172, 3) := by decide +kernel
theorem dX4_fileOf_18 : decode cX4_fileOf 18 = .ok (.athrow, 1) := by decide +kernel
theorem dX4_fileOf_19 : decode cX4_fileOf 19 = .ok (.aload_n 0, 1) := by decide +kernel
theorem dX4_fileOf_20 : decode cX4_fileOf 20 = .ok (.getfield 17, 3) := by decide +kernel
theorem dX4_fileOf_23 : decode cX4_fileOf 23 = .ok (.iload_n 1, 1) := by decide +kernel
theorem dX4_fileOf_24 : decode cX4_fileOf 24 = .ok (.aaload, 1) := by decide +kernel
theorem dX4_fileOf_25 : decode cX4_fileOf 25 = .ok (.areturn, 1) := by decide +kernel
theorem dX4_holderOf_0 : decode cX4_holderOf 0 = .ok (.iload_n 1, 1) := by decide +kernel
theorem dX4_holderOf_1 : decode cX4_holderOf 1 = .ok (.ifCond .lt 8, 3) := by decide +kernel
theorem dX4_holderOf_4 : decode cX4_holderOf 4 = .ok (.iload_n 1, 1) := by decide +kernel
theorem dX4_holderOf_5 : decode cX4_holderOf 5 = .ok (.iconst 4, 1) := by decide +kernel
theorem dX4_holderOf_6 : decode cX4_holderOf 6 = .ok (.if_icmp .lt 13, 3) := by decide +kernel
theorem dX4_holderOf_9 : decode cX4_holderOf 9 = .ok (.new 168, 3) := by decide +kernel
theorem dX4_holderOf_12 : decode cX4_holderOf 12 = .ok (.dup, 1) := by decide +kernel
theorem dX4_holderOf_13 : decode cX4_holderOf 13 = .ok (.ldc 175, 2) := by decide +kernel
theorem dX4_holderOf_15 : decode cX4_holderOf 15 = .ok (.invokespecial 172, 3) := by decide +kernel
theorem dX4_holderOf_18 : decode cX4_holderOf 18 = .ok (.athrow, 1) := by decide +kernel
theorem dX4_holderOf_19 : decode cX4_holderOf 19 = .ok (.aload_n 0, 1) := by decide +kernel
theorem dX4_holderOf_20 : decode cX4_holderOf 20 = .ok (.getfield 23, 3) := by decide +kernel
theorem dX4_holderOf_23 : decode cX4_holderOf 23 = .ok (.iload_n 1, 1) := by decide +kernel
theorem dX4_holderOf_24 : decode cX4_holderOf 24 = .ok (.aaload, 1) := by decide +kernel
theorem dX4_holderOf_25 : decode cX4_holderOf 25 = .ok (.areturn, 1) := by decide +kernel
theorem dX4_oldPartOf_0 : decode cX4_oldPartOf 0 = .ok (.iload_n 1, 1) := by decide +kernel
theorem dX4_oldPartOf_1 : decode cX4_oldPartOf 1 = .ok (.ifCond .lt 14, 3) := by decide +kernel
theorem dX4_oldPartOf_4 : decode cX4_oldPartOf 4 = .ok (.iload_n 1, 1) := by decide +kernel
theorem dX4_oldPartOf_5 : decode cX4_oldPartOf 5 = .ok (.aload_n 0, 1) := by decide +kernel
theorem dX4_oldPartOf_6 : decode cX4_oldPartOf 6 = .ok (.getfield 137, 3) := by decide +kernel
theorem dX4_oldPartOf_9 : decode cX4_oldPartOf 9 = .ok (.invokevirtual 141, 3) := by decide +kernel
theorem dX4_oldPartOf_12 : decode cX4_oldPartOf 12 = .ok (.if_icmp .lt 13, 3) := by decide +kernel
theorem dX4_oldPartOf_15 : decode cX4_oldPartOf 15 = .ok (.new 168, 3) := by decide +kernel
theorem dX4_oldPartOf_18 : decode cX4_oldPartOf 18 = .ok (.dup, 1) := by decide +kernel
theorem dX4_oldPartOf_19 : decode cX4_oldPartOf 19 = .ok (.ldc 177, 2) := by decide +kernel
theorem dX4_oldPartOf_21 : decode cX4_oldPartOf 21 = .ok (.invokespecial 172, 3) := by decide +kernel
theorem dX4_oldPartOf_24 : decode cX4_oldPartOf 24 = .ok (.athrow, 1) := by decide +kernel
theorem dX4_oldPartOf_25 : decode cX4_oldPartOf 25 = .ok (.aload_n 0, 1) := by decide +kernel
theorem dX4_oldPartOf_26 : decode cX4_oldPartOf 26 = .ok (.getfield 137, 3) := by decide +kernel
theorem dX4_oldPartOf_29 : decode cX4_oldPartOf 29 = .ok (.iload_n 1, 1) := by decide +kernel
theorem dX4_oldPartOf_30 : decode cX4_oldPartOf 30 = .ok (.invokevirtual 179, 3) := by decide +kernel
theorem dX4_oldPartOf_33 : decode cX4_oldPartOf 33 = .ok (.checkcast 105, 3) := by decide +kernel
theorem dX4_oldPartOf_36 : decode cX4_oldPartOf 36 = .ok (.areturn, 1) := by decide +kernel
theorem dX4_requireRange_0 : decode cX4_requireRange 0 = .ok (.iload_n 0, 1) := by decide +kernel
theorem dX4_requireRange_1 : decode cX4_requireRange 1 = .ok (.iload_n 1, 1) := by decide +kernel
theorem dX4_requireRange_2 : decode cX4_requireRange 2 = .ok (.if_icmp .lt 8, 3) := by decide +kernel
theorem dX4_requireRange_5 : decode cX4_requireRange 5 = .ok (.iload_n 0, 1) := by decide +kernel
theorem dX4_requireRange_6 : decode cX4_requireRange 6 = .ok (.iload_n 2, 1) := by decide +kernel
theorem dX4_requireRange_7 : decode cX4_requireRange 7 = .ok (.if_icmp .le 13, 3) := by decide +kernel
theorem dX4_requireRange_10 : decode cX4_requireRange 10 = .ok (.new 183, 3) := by decide +kernel
theorem dX4_requireRange_13 : decode cX4_requireRange 13 = .ok (.dup, 1) := by decide +kernel
theorem dX4_requireRange_14 : decode cX4_requireRange 14 = .ok (.ldc 185, 2) := by decide +kernel
theorem dX4_requireRange_16 : decode cX4_requireRange 16 = .ok (.invokespecial 187, 3) := by decide +kernel
theorem dX4_requireRange_19 : decode cX4_requireRange 19 = .ok (.athrow, 1) := by decide +kernel
theorem dX4_requireRange_20 : decode cX4_requireRange 20 = .ok (.return_, 1) := by decide +kernel
theorem dX4_isDueOn_0 : decode cX4_isDueOn 0 = .ok (.aload_n 0, 1) := by decide +kernel
theorem dX4_isDueOn_1 : decode cX4_isDueOn 1 = .ok (.getfield 75, 3) := by decide +kernel
theorem dX4_isDueOn_4 : decode cX4_isDueOn 4 = .ok (.astore_n 2, 1) := by decide +kernel
theorem dX4_isDueOn_5 : decode cX4_isDueOn 5 = .ok (.aload_n 0, 1) := by decide +kernel
theorem dX4_isDueOn_6 : decode cX4_isDueOn 6 = .ok (.getfield 90, 3) := by decide +kernel
theorem dX4_isDueOn_9 : decode cX4_isDueOn 9 = .ok (.getfield 104, 3) := by decide +kernel
theorem dX4_isDueOn_12 : decode cX4_isDueOn 12 = .ok (.istore_n 3, 1) := by decide +kernel
theorem dX4_isDueOn_13 : decode cX4_isDueOn 13 = .ok (.iload_n 3, 1) := by decide +kernel
theorem dX4_isDueOn_14 : decode cX4_isDueOn 14 = .ok (.ifCond .eq 11, 3) := by decide +kernel
theorem dX4_isDueOn_17 : decode cX4_isDueOn 17 = .ok (.aload_n 0, 1) := by decide +kernel
theorem dX4_isDueOn_18 : decode cX4_isDueOn 18 = .ok (.iload_n 1, 1) := by decide +kernel
theorem dX4_isDueOn_19 : decode cX4_isDueOn 19 = .ok (.invokestatic 188, 3) := by decide +kernel
theorem dX4_isDueOn_22 : decode cX4_isDueOn 22 = .ok (.ifCond .eq 5, 3) := by decide +kernel
theorem dX4_isDueOn_25 : decode cX4_isDueOn 25 = .ok (.iconst 0, 1) := by decide +kernel
theorem dX4_isDueOn_26 : decode cX4_isDueOn 26 = .ok (.ireturn, 1) := by decide +kernel
theorem dX4_isDueOn_27 : decode cX4_isDueOn 27 = .ok (.aload_n 2, 1) := by decide +kernel
theorem dX4_isDueOn_28 : decode cX4_isDueOn 28 = .ok (.getfield 42, 3) := by decide +kernel
theorem dX4_isDueOn_31 : decode cX4_isDueOn 31 = .ok (.ifCond .eq 15, 3) := by decide +kernel
theorem dX4_isDueOn_34 : decode cX4_isDueOn 34 = .ok (.iload_n 3, 1) := by decide +kernel
theorem dX4_isDueOn_35 : decode cX4_isDueOn 35 = .ok (.aload_n 2, 1) := by decide +kernel
theorem dX4_isDueOn_36 : decode cX4_isDueOn 36 = .ok (.getfield 42, 3) := by decide +kernel
theorem dX4_isDueOn_39 : decode cX4_isDueOn 39 = .ok (.if_icmp .lt 7, 3) := by decide +kernel
theorem dX4_isDueOn_42 : decode cX4_isDueOn 42 = .ok (.iconst 1, 1) := by decide +kernel
theorem dX4_isDueOn_43 : decode cX4_isDueOn 43 = .ok (.goto 4, 3) := by decide +kernel
theorem dX4_isDueOn_46 : decode cX4_isDueOn 46 = .ok (.iconst 0, 1) := by decide +kernel
theorem dX4_isDueOn_47 : decode cX4_isDueOn 47 = .ok (.istore 4, 2) := by decide +kernel
theorem dX4_isDueOn_49 : decode cX4_isDueOn 49 = .ok (.iload 4, 2) := by decide +kernel
theorem dX4_isDueOn_51 : decode cX4_isDueOn 51 = .ok (.ifCond .ne 33, 3) := by decide +kernel
theorem dX4_isDueOn_54 : decode cX4_isDueOn 54 = .ok (.aload_n 2, 1) := by decide +kernel
theorem dX4_isDueOn_55 : decode cX4_isDueOn 55 = .ok (.getfield 46, 3) := by decide +kernel
theorem dX4_isDueOn_58 : decode cX4_isDueOn 58 = .ok (.aload_n 0, 1) := by decide +kernel
theorem dX4_isDueOn_59 : decode cX4_isDueOn 59 = .ok (.getfield 130, 3) := by decide +kernel
theorem dX4_isDueOn_62 : decode cX4_isDueOn 62 = .ok (.iload_n 1, 1) := by decide +kernel
theorem dX4_isDueOn_63 : decode cX4_isDueOn 63 = .ok (.invokestatic 191, 3) := by decide +kernel
theorem dX4_isDueOn_66 : decode cX4_isDueOn 66 = .ok (.ifCond .ne 18, 3) := by decide +kernel
theorem dX4_isDueOn_69 : decode cX4_isDueOn 69 = .ok (.aload_n 2, 1) := by decide +kernel
theorem dX4_isDueOn_70 : decode cX4_isDueOn 70 = .ok (.getfield 49, 3) := by decide +kernel
theorem dX4_isDueOn_73 : decode cX4_isDueOn 73 = .ok (.aload_n 0, 1) := by decide +kernel
theorem dX4_isDueOn_74 : decode cX4_isDueOn 74 = .ok (.getfield 130, 3) := by decide +kernel
theorem dX4_isDueOn_77 : decode cX4_isDueOn 77 = .ok (.iload_n 1, 1) := by decide +kernel
theorem dX4_isDueOn_78 : decode cX4_isDueOn 78 = .ok (.invokestatic 195, 3) := by decide +kernel
theorem dX4_isDueOn_81 : decode cX4_isDueOn 81 = .ok (.ifCond .eq 7, 3) := by decide +kernel
theorem dX4_isDueOn_84 : decode cX4_isDueOn 84 = .ok (.iconst 1, 1) := by decide +kernel
theorem dX4_isDueOn_85 : decode cX4_isDueOn 85 = .ok (.goto 4, 3) := by decide +kernel
theorem dX4_isDueOn_88 : decode cX4_isDueOn 88 = .ok (.iconst 0, 1) := by decide +kernel
theorem dX4_isDueOn_89 : decode cX4_isDueOn 89 = .ok (.ireturn, 1) := by decide +kernel
theorem dX4_isTooSoon_0 : decode cX4_isTooSoon 0 = .ok (.aload_n 0, 1) := by decide +kernel
theorem dX4_isTooSoon_1 : decode cX4_isTooSoon 1 = .ok (.getfield 198, 3) := by decide +kernel
theorem dX4_isTooSoon_4 : decode cX4_isTooSoon 4 = .ok (.ifCond .eq 23, 3) := by decide +kernel
theorem dX4_isTooSoon_7 : decode cX4_isTooSoon 7 = .ok (.iload_n 1, 1) := by decide +kernel
theorem dX4_isTooSoon_8 : decode cX4_isTooSoon 8 = .ok (.aload_n 0, 1) := by decide +kernel
theorem dX4_isTooSoon_9 : decode cX4_isTooSoon 9 = .ok (.getfield 130, 3) := by decide +kernel
theorem dX4_isTooSoon_12 : decode cX4_isTooSoon 12 = .ok (.isub, 1) := by decide +kernel
theorem dX4_isTooSoon_13 : decode cX4_isTooSoon 13 = .ok (.aload_n 0, 1) := by decide +kernel
theorem dX4_isTooSoon_14 : decode cX4_isTooSoon 14 = .ok (.getfield 75, 3) := by decide +kernel
theorem dX4_isTooSoon_17 : decode cX4_isTooSoon 17 = .ok (.getfield 52, 3) := by decide +kernel
theorem dX4_isTooSoon_20 : decode cX4_isTooSoon 20 = .ok (.if_icmp .ge 7, 3) := by decide +kernel
theorem dX4_isTooSoon_23 : decode cX4_isTooSoon 23 = .ok (.iconst 1, 1) := by decide +kernel
theorem dX4_isTooSoon_24 : decode cX4_isTooSoon 24 = .ok (.goto 4, 3) := by decide +kernel
theorem dX4_isTooSoon_27 : decode cX4_isTooSoon 27 = .ok (.iconst 0, 1) := by decide +kernel
theorem dX4_isTooSoon_28 : decode cX4_isTooSoon 28 = .ok (.ireturn, 1) := by decide +kernel
theorem dX4_hasWeekdayCome_0 : decode cX4_hasWeekdayCome 0 = .ok (.iload_n 1, 1) := by decide +kernel
theorem dX4_hasWeekdayCome_1 : decode cX4_hasWeekdayCome 1 = .ok (.iconst 1, 1) := by decide +kernel
theorem dX4_hasWeekdayCome_2 : decode cX4_hasWeekdayCome 2 = .ok (.iadd, 1) := by decide +kernel
theorem dX4_hasWeekdayCome_3 : decode cX4_hasWeekdayCome 3 = .ok (.istore_n 3, 1) := by decide +kernel
theorem dX4_hasWeekdayCome_4 : decode cX4_hasWeekdayCome 4 = .ok (.iload_n 0, 1) := by decide +kernel
theorem dX4_hasWeekdayCome_5 : decode cX4_hasWeekdayCome 5 = .ok (.iconst (-1), 1) := by decide +kernel
theorem dX4_hasWeekdayCome_6 : decode cX4_hasWeekdayCome 6 = .ok (.if_icmp .eq 21, 3) := by decide +kernel
theorem dX4_hasWeekdayCome_9 : decode cX4_hasWeekdayCome 9 = .ok (.iload_n 3, 1) := by decide +kernel
theorem dX4_hasWeekdayCome_10 : decode cX4_hasWeekdayCome 10 = .ok (.iload_n 0, 1) := by decide +kernel
theorem dX4_hasWeekdayCome_11 : decode cX4_hasWeekdayCome 11 = .ok (.iload_n 3, 1) := by decide +kernel
theorem dX4_hasWeekdayCome_12 : decode cX4_hasWeekdayCome 12 = .ok (.isub, 1) := by decide +kernel
theorem dX4_hasWeekdayCome_13 : decode cX4_hasWeekdayCome 13 = .ok (.bipush 7, 2) := by decide +kernel
theorem dX4_hasWeekdayCome_15 : decode cX4_hasWeekdayCome 15 = .ok (.invokestatic 201, 3) := by decide +kernel
theorem dX4_hasWeekdayCome_18 : decode cX4_hasWeekdayCome 18 = .ok (.iadd, 1) := by decide +kernel
theorem dX4_hasWeekdayCome_19 : decode cX4_hasWeekdayCome 19 = .ok (.iload_n 2, 1) := by decide +kernel
theorem dX4_hasWeekdayCome_20 : decode cX4_hasWeekdayCome 20 = .ok (.if_icmp .gt 7, 3) := by decide +kernel
theorem dX4_hasWeekdayCome_23 : decode cX4_hasWeekdayCome 23 = .ok (.iconst 1, 1) := by decide +kernel
theorem dX4_hasWeekdayCome_24 : decode cX4_hasWeekdayCome 24 = .ok (.goto 4, 3) := by decide +kernel
theorem dX4_hasWeekdayCome_27 : decode cX4_hasWeekdayCome 27 = .ok (.iconst 0, 1) := by decide +kernel
theorem dX4_hasWeekdayCome_28 : decode cX4_hasWeekdayCome 28 = .ok (.ireturn, 1) := by decide +kernel
theorem dX4_hasMonthlyCome_0 : decode cX4_hasMonthlyCome 0 = .ok (.iload_n 1, 1) := by decide +kernel
theorem dX4_hasMonthlyCome_1 : decode cX4_hasMonthlyCome 1 = .ok (.iconst 1, 1) := by decide +kernel
theorem dX4_hasMonthlyCome_2 : decode cX4_hasMonthlyCome 2 = .ok (.iadd, 1) := by decide +kernel
theorem dX4_hasMonthlyCome_3 : decode cX4_hasMonthlyCome 3 = .ok (.istore_n 3, 1) := by decide +kernel
theorem dX4_hasMonthlyCome_4 : decode cX4_hasMonthlyCome 4 = .ok (.iload_n 0, 1) := by decide +kernel
theorem dX4_hasMonthlyCome_5 : decode cX4_hasMonthlyCome 5 = .ok (.iconst (-1), 1) := by decide +kernel
theorem dX4_hasMonthlyCome_6 : decode cX4_hasMonthlyCome 6 = .ok (.if_icmp .eq 21, 3) := by decide +kernel
theorem dX4_hasMonthlyCome_9 : decode cX4_hasMonthlyCome 9 = .ok (.iload_n 3, 1) := by decide +kernel
theorem dX4_hasMonthlyCome_10 : decode cX4_hasMonthlyCome 10 = .ok (.iload_n 0, 1) := by decide +kernel
theorem dX4_hasMonthlyCome_11 : decode cX4_hasMonthlyCome 11 = .ok (.iload_n 3, 1) := by decide +kernel
theorem dX4_hasMonthlyCome_12 : decode cX4_hasMonthlyCome 12 = .ok (.isub, 1) := by decide +kernel
theorem dX4_hasMonthlyCome_13 : decode cX4_hasMonthlyCome 13 = .ok (.bipush 30, 2) := by decide +kernel
theorem dX4_hasMonthlyCome_15 : decode cX4_hasMonthlyCome 15 = .ok (.invokestatic 201, 3) := by decide +kernel
theorem dX4_hasMonthlyCome_18 : decode cX4_hasMonthlyCome 18 = .ok (.iadd, 1) := by decide +kernel
theorem dX4_hasMonthlyCome_19 : decode cX4_hasMonthlyCome 19 = .ok (.iload_n 2, 1) := by decide +kernel
theorem dX4_hasMonthlyCome_20 : decode cX4_hasMonthlyCome 20 = .ok (.if_icmp .gt 7, 3) := by decide +kernel
theorem dX4_hasMonthlyCome_23 : decode cX4_hasMonthlyCome 23 = .ok (.iconst 1, 1) := by decide +kernel
theorem dX4_hasMonthlyCome_24 : decode cX4_hasMonthlyCome 24 = .ok (.goto 4, 3) := by decide +kernel
theorem dX4_hasMonthlyCome_27 : decode cX4_hasMonthlyCome 27 = .ok (.iconst 0, 1) := by decide +kernel
theorem dX4_hasMonthlyCome_28 : decode cX4_hasMonthlyCome 28 = .ok (.ireturn, 1) := by decide +kernel
theorem dX4_turnToday_0 : decode cX4_turnToday 0 = .ok (.aload_n 1, 1) := by decide +kernel
theorem dX4_turnToday_1 : decode cX4_turnToday 1 = .ok (.getfield 137, 3) := by decide +kernel
theorem dX4_turnToday_4 : decode cX4_turnToday 4 = .ok (.invokevirtual 141, 3) := by decide +kernel
theorem dX4_turnToday_7 : decode cX4_turnToday 7 = .ok (.sipush 512, 3) := by decide +kernel
theorem dX4_turnToday_10 : decode cX4_turnToday 10 = .ok (.if_icmp .lt 5, 3) := by decide +kernel
theorem dX4_turnToday_13 : decode cX4_turnToday 13 = .ok (.iconst 0, 1) := by decide +kernel
theorem dX4_turnToday_14 : decode cX4_turnToday 14 = .ok (.ireturn, 1) := by decide +kernel
theorem dX4_turnToday_15 : decode cX4_turnToday 15 = .ok (.aload_n 1, 1) := by decide +kernel
theorem dX4_turnToday_16 : decode cX4_turnToday 16 = .ok (.getfield 90, 3) := by decide +kernel
theorem dX4_turnToday_19 : decode cX4_turnToday 19 = .ok (.astore_n 2, 1) := by decide +kernel
theorem dX4_turnToday_20 : decode cX4_turnToday 20 = .ok (.aload_n 2, 1) := by decide +kernel
theorem dX4_turnToday_21 : decode cX4_turnToday 21 = .ok (.aload_n 0, 1) := by decide +kernel
theorem dX4_turnToday_22 : decode cX4_turnToday 22 = .ok (.getfield 109, 3) := by decide +kernel
theorem dX4_turnToday_25 : decode cX4_turnToday 25 = .ok (.putfield 150, 3) := by decide +kernel
theorem dX4_turnToday_28 : decode cX4_turnToday 28 = .ok (.aload_n 1, 1) := by decide +kernel
theorem dX4_turnToday_29 : decode cX4_turnToday 29 = .ok (.getfield 137, 3) := by decide +kernel
theorem dX4_turnToday_32 : decode cX4_turnToday 32 = .ok (.aload_n 2, 1) := by decide +kernel
theorem dX4_turnToday_33 : decode cX4_turnToday 33 = .ok (.invokevirtual 207, 3) := by decide +kernel
theorem dX4_turnToday_36 : decode cX4_turnToday 36 = .ok (.pop, 1) := by decide +kernel
theorem dX4_turnToday_37 : decode cX4_turnToday 37 = .ok (.aload_n 1, 1) := by decide +kernel
theorem dX4_turnToday_38 : decode cX4_turnToday 38 = .ok (.new 105, 3) := by decide +kernel
theorem dX4_turnToday_41 : decode cX4_turnToday 41 = .ok (.dup, 1) := by decide +kernel
theorem dX4_turnToday_42 : decode cX4_turnToday 42 = .ok (.invokespecial 211, 3) := by decide +kernel
theorem dX4_turnToday_45 : decode cX4_turnToday 45 = .ok (.putfield 90, 3) := by decide +kernel
theorem dX4_turnToday_48 : decode cX4_turnToday 48 = .ok (.aload_n 0, 1) := by decide +kernel
theorem dX4_turnToday_49 : decode cX4_turnToday 49 = .ok (.aload_n 1, 1) := by decide +kernel
theorem dX4_turnToday_50 : decode cX4_turnToday 50 = .ok (.invokevirtual 133, 3) := by decide +kernel
theorem dX4_turnToday_53 : decode cX4_turnToday 53 = .ok (.aload_n 1, 1) := by decide +kernel
theorem dX4_turnToday_54 : decode cX4_turnToday 54 = .ok (.getfield 75, 3) := by decide +kernel
theorem dX4_turnToday_57 : decode cX4_turnToday 57 = .ok (.getfield 61, 3) := by decide +kernel
theorem dX4_turnToday_60 : decode cX4_turnToday 60 = .ok (.ifCond .eq 11, 3) := by decide +kernel
theorem dX4_turnToday_63 : decode cX4_turnToday 63 = .ok (.aload_n 0, 1) := by decide +kernel
theorem dX4_turnToday_64 : decode cX4_turnToday 64 = .ok (.aload_n 1, 1) := by decide +kernel
theorem dX4_turnToday_65 : decode cX4_turnToday 65 = .ok (.getfield 137, 3) := by decide +kernel
theorem dX4_turnToday_68 : decode cX4_turnToday 68 = .ok (.invokevirtual 212, 3) := by decide +kernel
theorem dX4_turnToday_71 : decode cX4_turnToday 71 = .ok (.aload_n 0, 1) := by decide +kernel
theorem dX4_turnToday_72 : decode cX4_turnToday 72 = .ok (.aload_n 1, 1) := by decide +kernel
theorem dX4_turnToday_73 : decode cX4_turnToday 73 = .ok (.invokevirtual 216, 3) := by decide +kernel
theorem dX4_turnToday_76 : decode cX4_turnToday 76 = .ok (.ireturn, 1) := by decide +kernel
theorem dX4_markTurnedToday_0 : decode cX4_markTurnedToday 0 = .ok (.aload_n 1, 1) := by decide +kernel
theorem dX4_markTurnedToday_1 : decode cX4_markTurnedToday 1 = .ok (.aload_n 0, 1) := by decide +kernel
theorem dX4_markTurnedToday_2 : decode cX4_markTurnedToday 2 = .ok (.getfield 109, 3) := by decide +kernel
theorem dX4_markTurnedToday_5 : decode cX4_markTurnedToday 5 = .ok (.putfield 130, 3) := by decide +kernel
theorem dX4_markTurnedToday_8 : decode cX4_markTurnedToday 8 = .ok (.aload_n 1, 1) := by decide +kernel
theorem dX4_markTurnedToday_9 : decode cX4_markTurnedToday 9 = .ok (.iconst 1, 1) := by decide +kernel
theorem dX4_markTurnedToday_10 : decode cX4_markTurnedToday 10 = .ok (.putfield 198, 3) := by decide +kernel
theorem dX4_markTurnedToday_13 : decode cX4_markTurnedToday 13 = .ok (.return_, 1) := by decide +kernel
theorem dX4_squeezeOldParts_0 : decode cX4_squeezeOldParts 0 = .ok (.iconst 0, 1) := by decide +kernel
theorem dX4_squeezeOldParts_1 : decode cX4_squeezeOldParts 1 = .ok (.istore_n 2, 1) := by decide +kernel
theorem dX4_squeezeOldParts_2 : decode cX4_squeezeOldParts 2 = .ok (.iload_n 2, 1) := by decide +kernel
theorem dX4_squeezeOldParts_3 : decode cX4_squeezeOldParts 3 = .ok (.aload_n 1, 1) := by decide +kernel
theorem dX4_squeezeOldParts_4 : decode cX4_squeezeOldParts 4 = .ok (.invokevirtual 141, 3) := by decide +kernel
theorem dX4_squeezeOldParts_7 : decode cX4_squeezeOldParts 7 = .ok (.iconst 1, 1) := by decide +kernel
theorem dX4_squeezeOldParts_8 : decode cX4_squeezeOldParts 8 = .ok (.isub, 1) := by decide +kernel
theorem dX4_squeezeOldParts_9 : decode cX4_squeezeOldParts 9 = .ok (.if_icmp .ge 31, 3) := by decide +kernel
theorem dX4_squeezeOldParts_12 : decode cX4_squeezeOldParts 12 = .ok (.aload_n 1, 1) := by decide +kernel
theorem dX4_squeezeOldParts_13 : decode cX4_squeezeOldParts 13 = .ok (.iload_n 2, 1) := by decide +kernel
theorem dX4_squeezeOldParts_14 : decode cX4_squeezeOldParts 14 = .ok (.invokevirtual 179, 3) := by decide +kernel
theorem dX4_squeezeOldParts_17 : decode cX4_squeezeOldParts 17 = .ok (.checkcast 105, 3) := by decide +kernel
theorem dX4_squeezeOldParts_20 : decode cX4_squeezeOldParts 20 = .ok (.astore_n 3, 1) := by decide +kernel
theorem dX4_squeezeOldParts_21 : decode cX4_squeezeOldParts 21 = .ok (.aload_n 0, 1) := by decide +kernel
theorem dX4_squeezeOldParts_22 : decode cX4_squeezeOldParts 22 = .ok (.aload_n 3, 1) := by decide +kernel
theorem dX4_squeezeOldParts_23 : decode cX4_squeezeOldParts 23 = .ok (.invokevirtual 219, 3) := by decide +kernel
theorem dX4_squeezeOldParts_26 : decode cX4_squeezeOldParts 26 = .ok (.ifCond .ne 8, 3) := by decide +kernel
theorem dX4_squeezeOldParts_29 : decode cX4_squeezeOldParts 29 = .ok (.aload_n 3, 1) := by decide +kernel
theorem dX4_squeezeOldParts_30 : decode cX4_squeezeOldParts 30 = .ok (.iconst 1, 1) := by decide +kernel
theorem dX4_squeezeOldParts_31 : decode cX4_squeezeOldParts 31 = .ok (.putfield 157, 3) := by decide +kernel
theorem dX4_squeezeOldParts_34 : decode cX4_squeezeOldParts 34 = .ok (.iinc 2 1, 3) := by decide +kernel
theorem dX4_squeezeOldParts_37 : decode cX4_squeezeOldParts 37 = .ok (.goto (-35), 3) := by decide +kernel
theorem dX4_squeezeOldParts_40 : decode cX4_squeezeOldParts 40 = .ok (.return_, 1) := by decide +kernel
theorem dX4_throwOldParts_0 : decode cX4_throwOldParts 0 = .ok (.aload_n 1, 1) := by decide +kernel
theorem dX4_throwOldParts_1 : decode cX4_throwOldParts 1 = .ok (.getfield 137, 3) := by decide +kernel
theorem dX4_throwOldParts_4 : decode cX4_throwOldParts 4 = .ok (.astore_n 2, 1) := by decide +kernel
theorem dX4_throwOldParts_5 : decode cX4_throwOldParts 5 = .ok (.aload_n 2, 1) := by decide +kernel
theorem dX4_throwOldParts_6 : decode cX4_throwOldParts 6 = .ok (.invokevirtual 141, 3) := by decide +kernel
theorem dX4_throwOldParts_9 : decode cX4_throwOldParts 9 = .ok (.istore_n 3, 1) := by decide +kernel
theorem dX4_throwOldParts_10 : decode cX4_throwOldParts 10 = .ok (.iconst 0, 1) := by decide +kernel
theorem dX4_throwOldParts_11 : decode cX4_throwOldParts 11 = .ok (.istore 4, 2) := by decide +kernel
theorem dX4_throwOldParts_13 : decode cX4_throwOldParts 13 = .ok (.iconst 0, 1) := by decide +kernel
theorem dX4_throwOldParts_14 : decode cX4_throwOldParts 14 = .ok (.istore 5, 2) := by decide +kernel
theorem dX4_throwOldParts_16 : decode cX4_throwOldParts 16 = .ok (.iload 5, 2) := by decide +kernel
theorem dX4_throwOldParts_18 : decode cX4_throwOldParts 18 = .ok (.iload_n 3, 1) := by decide +kernel
theorem dX4_throwOldParts_19 : decode cX4_throwOldParts 19 = .ok (.if_icmp .ge 67, 3) := by decide +kernel
theorem dX4_throwOldParts_22 : decode cX4_throwOldParts 22 = .ok (.aload_n 2, 1) := by decide +kernel
theorem dX4_throwOldParts_23 : decode cX4_throwOldParts 23 = .ok (.iload 5, 2) := by decide +kernel
theorem dX4_throwOldParts_25 : decode cX4_throwOldParts 25 = .ok (.iload 4, 2) := by decide +kernel
theorem dX4_throwOldParts_27 : decode cX4_throwOldParts 27 = .ok (.isub, 1) := by decide +kernel
theorem dX4_throwOldParts_28 : decode cX4_throwOldParts 28 = .ok (.invokevirtual 179, 3) := by decide +kernel
theorem dX4_throwOldParts_31 : decode cX4_throwOldParts 31 = .ok (.checkcast 105, 3) := by decide +kernel
theorem dX4_throwOldParts_34 : decode cX4_throwOldParts 34 = .ok (.astore 6, 2) := by decide +kernel
theorem dX4_throwOldParts_36 : decode cX4_throwOldParts 36 = .ok (.aload_n 0, 1) := by decide +kernel
theorem dX4_throwOldParts_37 : decode cX4_throwOldParts 37 = .ok (.aload 6, 2) := by decide +kernel
theorem dX4_throwOldParts_39 : decode cX4_throwOldParts 39 = .ok (.aload_n 1, 1) := by decide +kernel
theorem dX4_throwOldParts_40 : decode cX4_throwOldParts 40 = .ok (.getfield 75, 3) := by decide +kernel
theorem dX4_throwOldParts_43 : decode cX4_throwOldParts 43 = .ok (.iload_n 3, 1) := by decide +kernel
theorem dX4_throwOldParts_44 : decode cX4_throwOldParts 44 = .ok (.iload 4, 2) := by decide +kernel
theorem dX4_throwOldParts_46 : decode cX4_throwOldParts 46 = .ok (.isub, 1) := by decide +kernel
theorem dX4_throwOldParts_47 : decode cX4_throwOldParts 47 = .ok (.invokevirtual 223, 3) := by decide +kernel
theorem dX4_throwOldParts_50 : decode cX4_throwOldParts 50 = .ok (.ifCond .eq 30, 3) := by decide +kernel
theorem dX4_throwOldParts_53 : decode cX4_throwOldParts 53 = .ok (.aload_n 1, 1) := by decide +kernel
theorem dX4_throwOldParts_54 : decode cX4_throwOldParts 54 = .ok (.dup, 1) := by decide +kernel
theorem dX4_throwOldParts_55 : decode cX4_throwOldParts 55 = .ok (.getfield 160, 3) := by decide +kernel
theorem dX4_throwOldParts_58 : decode cX4_throwOldParts 58 = .ok (.aload 6, 2) := by decide +kernel
theorem dX4_throwOldParts_60 : decode cX4_throwOldParts 60 = .ok (.getfield 104, 3) := by decide +kernel
theorem dX4_throwOldParts_63 : decode cX4_throwOldParts 63 = .ok (.iadd, 1) := by decide +kernel
theorem dX4_throwOldParts_64 : decode cX4_throwOldParts 64 = .ok (.putfield 160, 3) := by decide +kernel
theorem dX4_throwOldParts_67 : decode cX4_throwOldParts 67 = .ok (.aload_n 2, 1) := by decide +kernel
theorem dX4_throwOldParts_68 : decode cX4_throwOldParts 68 = .ok (.iload 5, 2) := by decide +kernel
theorem dX4_throwOldParts_70 : decode cX4_throwOldParts 70 = .ok (.iload 4, 2) := by decide +kernel
theorem dX4_throwOldParts_72 : decode cX4_throwOldParts 72 = .ok (.isub, 1) := by decide +kernel
theorem dX4_throwOldParts_73 : decode cX4_throwOldParts 73 = .ok (.invokevirtual 227, 3) := by decide +kernel
theorem dX4_throwOldParts_76 : decode cX4_throwOldParts 76 = .ok (.pop, 1) := by decide +kernel
theorem dX4_throwOldParts_77 : decode cX4_throwOldParts 77 = .ok (.iinc 4 1, 3) := by decide +kernel
theorem dX4_throwOldParts_80 : decode cX4_throwOldParts 80 = .ok (.iinc 5 1, 3) := by decide +kernel
theorem dX4_throwOldParts_83 : decode cX4_throwOldParts 83 = .ok (.goto (-67), 3) := by decide +kernel
theorem dX4_throwOldParts_86 : decode cX4_throwOldParts 86 = .ok (.iload 4, 2) := by decide +kernel
theorem dX4_throwOldParts_88 : decode cX4_throwOldParts 88 = .ok (.ireturn, 1) := by decide +kernel
theorem dX4_mustGo_0 : decode cX4_mustGo 0 = .ok (.aload_n 0, 1) := by decide +kernel
theorem dX4_mustGo_1 : decode cX4_mustGo 1 = .ok (.getfield 109, 3) := by decide +kernel
theorem dX4_mustGo_4 : decode cX4_mustGo 4 = .ok (.aload_n 1, 1) := by decide +kernel
theorem dX4_mustGo_5 : decode cX4_mustGo 5 = .ok (.getfield 150, 3) := by decide +kernel
theorem dX4_mustGo_8 : decode cX4_mustGo 8 = .ok (.isub, 1) := by decide +kernel
theorem dX4_mustGo_9 : decode cX4_mustGo 9 = .ok (.istore 4, 2) := by decide +kernel
theorem dX4_mustGo_11 : decode cX4_mustGo 11 = .ok (.iload 4, 2) := by decide +kernel
theorem dX4_mustGo_13 : decode cX4_mustGo 13 = .ok (.aload_n 2, 1) := by decide +kernel
theorem dX4_mustGo_14 : decode cX4_mustGo 14 = .ok (.getfield 52, 3) := by decide +kernel
theorem dX4_mustGo_17 : decode cX4_mustGo 17 = .ok (.if_icmp .lt 11, 3) := by decide +kernel
theorem dX4_mustGo_20 : decode cX4_mustGo 20 = .ok (.aload_n 0, 1) := by decide +kernel
theorem dX4_mustGo_21 : decode cX4_mustGo 21 = .ok (.aload_n 1, 1) := by decide +kernel
theorem dX4_mustGo_22 : decode cX4_mustGo 22 = .ok (.invokevirtual 219, 3) := by decide +kernel
theorem dX4_mustGo_25 : decode cX4_mustGo 25 = .ok (.ifCond .eq 5, 3) := by decide +kernel
theorem dX4_mustGo_28 : decode cX4_mustGo 28 = .ok (.iconst 0, 1) := by decide +kernel
theorem dX4_mustGo_29 : decode cX4_mustGo 29 = .ok (.ireturn, 1) := by decide +kernel
theorem dX4_mustGo_30 : decode cX4_mustGo 30 = .ok (.aload_n 2, 1) := by decide +kernel
theorem dX4_mustGo_31 : decode cX4_mustGo 31 = .ok (.getfield 58, 3) := by decide +kernel
theorem dX4_mustGo_34 : decode cX4_mustGo 34 = .ok (.ifCond .eq 16, 3) := by decide +kernel
theorem dX4_mustGo_37 : decode cX4_mustGo 37 = .ok (.iload 4, 2) := by decide +kernel
theorem dX4_mustGo_39 : decode cX4_mustGo 39 = .ok (.aload_n 2, 1) := by decide +kernel
theorem dX4_mustGo_40 : decode cX4_mustGo 40 = .ok (.getfield 58, 3) := by decide +kernel
theorem dX4_mustGo_43 : decode cX4_mustGo 43 = .ok (.if_icmp .le 7, 3) := by decide +kernel
theorem dX4_mustGo_46 : decode cX4_mustGo 46 = .ok (.iconst 1, 1) := by decide +kernel
theorem dX4_mustGo_47 : decode cX4_mustGo 47 = .ok (.goto 4, 3) := by decide +kernel
theorem dX4_mustGo_50 : decode cX4_mustGo 50 = .ok (.iconst 0, 1) := by decide +kernel
theorem dX4_mustGo_51 : decode cX4_mustGo 51 = .ok (.istore 5, 2) := by decide +kernel
theorem dX4_mustGo_53 : decode cX4_mustGo 53 = .ok (.iload_n 3, 1) := by decide +kernel
theorem dX4_mustGo_54 : decode cX4_mustGo 54 = .ok (.aload_n 2, 1) := by decide +kernel
theorem dX4_mustGo_55 : decode cX4_mustGo 55 = .ok (.getfield 55, 3) := by decide +kernel
theorem dX4_mustGo_58 : decode cX4_mustGo 58 = .ok (.if_icmp .gt 8, 3) := by decide +kernel
theorem dX4_mustGo_61 : decode cX4_mustGo 61 = .ok (.iload 5, 2) := by decide +kernel
theorem dX4_mustGo_63 : decode cX4_mustGo 63 = .ok (.ifCond .eq 7, 3) := by decide +kernel
theorem dX4_mustGo_66 : decode cX4_mustGo 66 = .ok (.iconst 1, 1) := by decide +kernel
theorem dX4_mustGo_67 : decode cX4_mustGo 67 = .ok (.goto 4, 3) := by decide +kernel
theorem dX4_mustGo_70 : decode cX4_mustGo 70 = .ok (.iconst 0, 1) := by decide +kernel
theorem dX4_mustGo_71 : decode cX4_mustGo 71 = .ok (.ireturn, 1) := by decide +kernel
theorem dX4_isHeld_0 : decode cX4_isHeld 0 = .ok (.iconst 0, 1) := by decide +kernel
theorem dX4_isHeld_1 : decode cX4_isHeld 1 = .ok (.istore_n 2, 1) := by decide +kernel
theorem dX4_isHeld_2 : decode cX4_isHeld 2 = .ok (.iload_n 2, 1) := by decide +kernel
theorem dX4_isHeld_3 : decode cX4_isHeld 3 = .ok (.iconst 4, 1) := by decide +kernel
theorem dX4_isHeld_4 : decode cX4_isHeld 4 = .ok (.if_icmp .ge 24, 3) := by decide +kernel
theorem dX4_isHeld_7 : decode cX4_isHeld 7 = .ok (.aload_n 0, 1) := by decide +kernel
theorem dX4_isHeld_8 : decode cX4_isHeld 8 = .ok (.getfield 23, 3) := by decide +kernel
theorem dX4_isHeld_11 : decode cX4_isHeld 11 = .ok (.iload_n 2, 1) := by decide +kernel
theorem dX4_isHeld_12 : decode cX4_isHeld 12 = .ok (.aaload, 1) := by decide +kernel
theorem dX4_isHeld_13 : decode cX4_isHeld 13 = .ok (.getfield 94, 3) := by decide +kernel
theorem dX4_isHeld_16 : decode cX4_isHeld 16 = .ok (.aload_n 1, 1) := by decide +kernel
theorem dX4_isHeld_17 : decode cX4_isHeld 17 = .ok (.if_acmp .ne 5, 3) := by decide +kernel
theorem dX4_isHeld_20 : decode cX4_isHeld 20 = .ok (.iconst 1, 1) := by decide +kernel
theorem dX4_isHeld_21 : decode cX4_isHeld 21 = .ok (.ireturn, 1) := by decide +kernel
theorem dX4_isHeld_22 : decode cX4_isHeld 22 = .ok (.iinc 2 1, 3) := by decide +kernel
theorem dX4_isHeld_25 : decode cX4_isHeld 25 = .ok (.goto (-23), 3) := by decide +kernel
theorem dX4_isHeld_28 : decode cX4_isHeld 28 = .ok (.iconst 0, 1) := by decide +kernel
theorem dX4_isHeld_29 : decode cX4_isHeld 29 = .ok (.ireturn, 1) := by decide +kernel
theorem dX4_hasFileAmong_0 : decode cX4_hasFileAmong 0 = .ok (.iconst 0, 1) := by decide +kernel
theorem dX4_hasFileAmong_1 : decode cX4_hasFileAmong 1 = .ok (.istore_n 3, 1) := by decide +kernel
theorem dX4_hasFileAmong_2 : decode cX4_hasFileAmong 2 = .ok (.iload_n 3, 1) := by decide +kernel
theorem dX4_hasFileAmong_3 : decode cX4_hasFileAmong 3 = .ok (.iconst 5, 1) := by decide +kernel
theorem dX4_hasFileAmong_4 : decode cX4_hasFileAmong 4 = .ok (.if_icmp .ge 32, 3) := by decide +kernel
theorem dX4_hasFileAmong_7 : decode cX4_hasFileAmong 7 = .ok (.iload_n 2, 1) := by decide +kernel
theorem dX4_hasFileAmong_8 : decode cX4_hasFileAmong 8 = .ok (.iload_n 3, 1) := by decide +kernel
theorem dX4_hasFileAmong_9 : decode cX4_hasFileAmong 9 = .ok (.ishr, 1) := by decide +kernel
theorem dX4_hasFileAmong_10 : decode cX4_hasFileAmong 10 = .ok (.iconst 1, 1) := by decide +kernel
theorem dX4_hasFileAmong_11 : decode cX4_hasFileAmong 11 = .ok (.iand, 1) := by decide +kernel
theorem dX4_hasFileAmong_12 : decode cX4_hasFileAmong 12 = .ok (.ifCond .eq 18, 3) := by decide +kernel
theorem dX4_hasFileAmong_15 : decode cX4_hasFileAmong 15 = .ok (.aload_n 0, 1) := by decide +kernel
theorem dX4_hasFileAmong_16 : decode cX4_hasFileAmong 16 = .ok (.getfield 17, 3) := by decide +kernel
theorem dX4_hasFileAmong_19 : decode cX4_hasFileAmong 19 = .ok (.iload_n 3, 1) := by decide +kernel
theorem dX4_hasFileAmong_20 : decode cX4_hasFileAmong 20 = .ok (.aaload, 1) := by decide +kernel
theorem dX4_hasFileAmong_21 : decode cX4_hasFileAmong 21 = .ok (.getfield 75, 3) := by decide +kernel
theorem dX4_hasFileAmong_24 : decode cX4_hasFileAmong 24 = .ok (.aload_n 1, 1) := by decide +kernel
theorem dX4_hasFileAmong_25 : decode cX4_hasFileAmong 25 = .ok (.if_acmp .ne 5, 3) := by decide +kernel
theorem dX4_hasFileAmong_28 : decode cX4_hasFileAmong 28 = .ok (.iconst 1, 1) := by decide +kernel
theorem dX4_hasFileAmong_29 : decode cX4_hasFileAmong 29 = .ok (.ireturn, 1) := by decide +kernel
theorem dX4_hasFileAmong_30 : decode cX4_hasFileAmong 30 = .ok (.iinc 3 1, 3) := by decide +kernel
theorem dX4_hasFileAmong_33 : decode cX4_hasFileAmong 33 = .ok (.goto (-31), 3) := by decide +kernel
theorem dX4_hasFileAmong_36 : decode cX4_hasFileAmong 36 = .ok (.iconst 0, 1) := by decide +kernel
theorem dX4_hasFileAmong_37 : decode cX4_hasFileAmong 37 = .ok (.ireturn, 1) := by decide +kernel
theorem dX4_tellHoldersOf_0 : decode cX4_tellHoldersOf 0 = .ok (.iconst 0, 1) := by decide +kernel
theorem dX4_tellHoldersOf_1 : decode cX4_tellHoldersOf 1 = .ok (.istore_n 2, 1) := by decide +kernel
theorem dX4_tellHoldersOf_2 : decode cX4_tellHoldersOf 2 = .ok (.iload_n 2, 1) := by decide +kernel
theorem dX4_tellHoldersOf_3 : decode cX4_tellHoldersOf 3 = .ok (.iconst 4, 1) := by decide +kernel
theorem dX4_tellHoldersOf_4 : decode cX4_tellHoldersOf 4 = .ok (.if_icmp .ge 44, 3) := by decide +kernel
theorem dX4_tellHoldersOf_7 : decode cX4_tellHoldersOf 7 = .ok (.aload_n 0, 1) := by decide +kernel
theorem dX4_tellHoldersOf_8 : decode cX4_tellHoldersOf 8 = .ok (.getfield 23, 3) := by decide +kernel
theorem dX4_tellHoldersOf_11 : decode cX4_tellHoldersOf 11 = .ok (.iload_n 2, 1) := by decide +kernel
theorem dX4_tellHoldersOf_12 : decode cX4_tellHoldersOf 12 = .ok (.aaload, 1) := by decide +kernel
theorem dX4_tellHoldersOf_13 : decode cX4_tellHoldersOf 13 = .ok (.getfield 86, 3) := by decide +kernel
theorem dX4_tellHoldersOf_16 : decode cX4_tellHoldersOf 16 = .ok (.astore_n 3, 1) := by decide +kernel
theorem dX4_tellHoldersOf_17 : decode cX4_tellHoldersOf 17 = .ok (.aload_n 3, 1) := by decide +kernel
theorem dX4_tellHoldersOf_18 : decode cX4_tellHoldersOf 18 = .ok (.ifnull 24, 3) := by decide +kernel
theorem dX4_tellHoldersOf_21 : decode cX4_tellHoldersOf 21 = .ok (.aload_n 3, 1) := by decide +kernel
theorem dX4_tellHoldersOf_22 : decode cX4_tellHoldersOf 22 = .ok (.getfield 75, 3) := by decide +kernel
theorem dX4_tellHoldersOf_25 : decode cX4_tellHoldersOf 25 = .ok (.aload_n 1, 1) := by decide +kernel
theorem dX4_tellHoldersOf_26 : decode cX4_tellHoldersOf 26 = .ok (.if_acmp .ne 16, 3) := by decide +kernel
theorem dX4_tellHoldersOf_29 : decode cX4_tellHoldersOf 29 = .ok (.aload_n 0, 1) := by decide +kernel
theorem dX4_tellHoldersOf_30 : decode cX4_tellHoldersOf 30 = .ok (.getfield 23, 3) := by decide +kernel
theorem dX4_tellHoldersOf_33 : decode cX4_tellHoldersOf 33 = .ok (.iload_n 2, 1) := by decide +kernel
theorem dX4_tellHoldersOf_34 : decode cX4_tellHoldersOf 34 = .ok (.aaload, 1) := by decide +kernel
theorem dX4_tellHoldersOf_35 : decode cX4_tellHoldersOf 35 = .ok (.aload_n 3, 1) := by decide +kernel
theorem dX4_tellHoldersOf_36 : decode cX4_tellHoldersOf 36 = .ok (.getfield 90, 3) := by decide +kernel
theorem dX4_tellHoldersOf_39 : decode cX4_tellHoldersOf 39 = .ok (.putfield 94, 3) := by decide +kernel
theorem dX4_tellHoldersOf_42 : decode cX4_tellHoldersOf 42 = .ok (.iinc 2 1, 3) := by decide +kernel
theorem dX4_tellHoldersOf_45 : decode cX4_tellHoldersOf 45 = .ok (.goto (-43), 3) := by decide +kernel
theorem dX4_tellHoldersOf_48 : decode cX4_tellHoldersOf 48 = .ok (.return_, 1) := by decide +kernel
theorem dX4_countOlderOfDay_0 : decode cX4_countOlderOfDay 0 = .ok (.iconst 0, 1) := by decide +kernel
theorem dX4_countOlderOfDay_1 : decode cX4_countOlderOfDay 1 = .ok (.istore_n 3, 1) := by decide +kernel
theorem dX4_countOlderOfDay_2 : decode cX4_countOlderOfDay 2 = .ok (.iconst 0, 1) := by decide +kernel
theorem dX4_countOlderOfDay_3 : decode cX4_countOlderOfDay 3 = .ok (.istore 4, 2) := by decide +kernel
theorem dX4_countOlderOfDay_5 : decode cX4_countOlderOfDay 5 = .ok (.iload 4, 2) := by decide +kernel
theorem dX4_countOlderOfDay_7 : decode cX4_countOlderOfDay 7 = .ok (.iload_n 1, 1) := by decide +kernel
theorem dX4_countOlderOfDay_8 : decode cX4_countOlderOfDay 8 = .ok (.if_icmp .ge 37, 3) := by decide +kernel
theorem dX4_countOlderOfDay_11 : decode cX4_countOlderOfDay 11 = .ok (.iload 4, 2) := by decide +kernel
theorem dX4_countOlderOfDay_13 : decode cX4_countOlderOfDay 13 = .ok (.aload_n 0, 1) := by decide +kernel
theorem dX4_countOlderOfDay_14 : decode cX4_countOlderOfDay 14 = .ok (.invokevirtual 141, 3) := by decide +kernel
theorem dX4_countOlderOfDay_17 : decode cX4_countOlderOfDay 17 = .ok (.if_icmp .ge 28, 3) := by decide +kernel
theorem dX4_countOlderOfDay_20 : decode cX4_countOlderOfDay 20 = .ok (.aload_n 0, 1) := by decide +kernel
theorem dX4_countOlderOfDay_21 : decode cX4_countOlderOfDay 21 = .ok (.iload 4, 2) := by decide +kernel
theorem dX4_countOlderOfDay_23 : decode cX4_countOlderOfDay 23 = .ok (.invokevirtual 179, 3) := by decide +kernel
theorem dX4_countOlderOfDay_26 : decode cX4_countOlderOfDay 26 = .ok (.checkcast 105, 3) := by decide +kernel
theorem dX4_countOlderOfDay_29 : decode cX4_countOlderOfDay 29 = .ok (.getfield 150, 3) := by decide +kernel
theorem dX4_countOlderOfDay_32 : decode cX4_countOlderOfDay 32 = .ok (.iload_n 2, 1) := by decide +kernel
theorem dX4_countOlderOfDay_33 : decode cX4_countOlderOfDay 33 = .ok (.if_icmp .ne 6, 3) := by decide +kernel
theorem dX4_countOlderOfDay_36 : decode cX4_countOlderOfDay 36 = .ok (.iinc 3 1, 3) := by decide +kernel
theorem dX4_countOlderOfDay_39 : decode cX4_countOlderOfDay 39 = .ok (.iinc 4 1, 3) := by decide +kernel
theorem dX4_countOlderOfDay_42 : decode cX4_countOlderOfDay 42 = .ok (.goto (-37), 3) := by decide +kernel
theorem dX4_countOlderOfDay_45 : decode cX4_countOlderOfDay 45 = .ok (.iload_n 3, 1) := by decide +kernel
theorem dX4_countOlderOfDay_46 : decode cX4_countOlderOfDay 46 = .ok (.ireturn, 1) := by decide +kernel
theorem dX4_placeOf_0 : decode cX4_placeOf 0 = .ok (.iconst 0, 1) := by decide +kernel
theorem dX4_placeOf_1 : decode cX4_placeOf 1 = .ok (.istore_n 2, 1) := by decide +kernel
theorem dX4_placeOf_2 : decode cX4_placeOf 2 = .ok (.iload_n 2, 1) := by decide +kernel
theorem dX4_placeOf_3 : decode cX4_placeOf 3 = .ok (.aload_n 0, 1) := by decide +kernel
theorem dX4_placeOf_4 : decode cX4_placeOf 4 = .ok (.invokevirtual 141, 3) := by decide +kernel
theorem dX4_placeOf_7 : decode cX4_placeOf 7 = .ok (.if_icmp .ge 22, 3) := by decide +kernel
theorem dX4_placeOf_10 : decode cX4_placeOf 10 = .ok (.aload_n 0, 1) := by decide +kernel
theorem dX4_placeOf_11 : decode cX4_placeOf 11 = .ok (.iload_n 2, 1) := by decide +kernel
theorem dX4_placeOf_12 : decode cX4_placeOf 12 = .ok (.invokevirtual 179, 3) := by decide +kernel
theorem dX4_placeOf_15 : decode cX4_placeOf 15 = .ok (.aload_n 1, 1) := by decide +kernel
theorem dX4_placeOf_16 : decode cX4_placeOf 16 = .ok (.if_acmp .ne 7, 3) := by decide +kernel
theorem dX4_placeOf_19 : decode cX4_placeOf 19 = .ok (.iload_n 2, 1) := by decide +kernel
theorem dX4_placeOf_20 : decode cX4_placeOf 20 = .ok (.iconst 1, 1) := by decide +kernel
theorem dX4_placeOf_21 : decode cX4_placeOf 21 = .ok (.iadd, 1) := by decide +kernel
theorem dX4_placeOf_22 : decode cX4_placeOf 22 = .ok (.ireturn, 1) := by decide +kernel
theorem dX4_placeOf_23 : decode cX4_placeOf 23 = .ok (.iinc 2 1, 3) := by decide +kernel
theorem dX4_placeOf_26 : decode cX4_placeOf 26 = .ok (.goto (-24), 3) := by decide +kernel
theorem dX4_placeOf_29 : decode cX4_placeOf 29 = .ok (.iconst 0, 1) := by decide +kernel
theorem dX4_placeOf_30 : decode cX4_placeOf 30 = .ok (.ireturn, 1) := by decide +kernel
