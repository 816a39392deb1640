theorem dBS_init_0 : decode cBS_init 0 = .ok (.aload_n 0, 1) := by decide +kernel
theorem dBS_init_1 : decode cBS_init 1 = .ok (.invokespecial 1, 3) := by decide +kernel
theorem dBS_init_4 : decode cBS_init 4 = .ok (.aload_n 0, 1) := by decide +kernel
theorem dBS_init_5 : decode cBS_init 5 = .ok (.new 7, 3) := by decide +kernel
theorem dBS_init_8 : decode cBS_init 8 = .ok (.dup, 1) := by decide +kernel
theorem dBS_init_9 : decode cBS_init 9 = .ok (.invokespecial 9, 3) := by decide +kernel
theorem dBS_init_12 : decode cBS_init 12 = .ok (.putfield 10, 3) := by decide +kernel
theorem dBS_init_15 : decode cBS_init 15 = .ok (.aload_n 0, 1) := by decide +kernel
theorem dBS_init_16 : decode cBS_init 16 = .ok (.new 16, 3) := by decide +kernel
theorem dBS_init_19 : decode cBS_init 19 = .ok (.dup, 1) := by decide +kernel
theorem dBS_init_20 : decode cBS_init 20 = .ok (.invokespecial 18, 3) := by decide +kernel
theorem dBS_init_23 : decode cBS_init 23 = .ok (.putfield 19, 3) := by decide +kernel
theorem dBS_init_26 : decode cBS_init 26 = .ok (.aload_n 0, 1) := by decide +kernel
theorem dBS_init_27 : decode cBS_init 27 = .ok (.iconst 2, 1) := by decide +kernel
theorem dBS_init_28 : decode cBS_init 28 = .ok (.anewarray 23, 3) := by decide +kernel
theorem dBS_init_31 : decode cBS_init 31 = .ok (.dup, 1) := by decide +kernel
theorem dBS_init_32 : decode cBS_init 32 = .ok (.iconst 0, 1) := by decide +kernel
theorem dBS_init_33 : decode cBS_init 33 = .ok (.new 23, 3) := by decide +kernel
theorem dBS_init_36 : decode cBS_init 36 = .ok (.dup, 1) := by decide +kernel
theorem dBS_init_37 : decode cBS_init 37 = .ok (.iconst 0, 1) := by decide +kernel
theorem dBS_init_38 : decode cBS_init 38 = .ok (.invokespecial 25, 3) := by decide +kernel
theorem dBS_init_41 : decode cBS_init 41 = .ok (.aastore, 1) := by decide +kernel
theorem dBS_init_42 : decode cBS_init 42 = .ok (.dup, 1) := by decide +kernel
theorem dBS_init_43 : decode cBS_init 43 = .ok (.iconst 1, 1) := by decide +kernel
theorem dBS_init_44 : decode cBS_init 44 = .ok (.new 23, 3) := by decide +kernel
theorem dBS_init_47 : decode cBS_init 47 = .ok (.dup, 1) := by decide +kernel
theorem dBS_init_48 : decode cBS_init 48 = .ok (.iconst 1, 1) := by decide +kernel
theorem dBS_init_49 : decode cBS_init 49 = .ok (.invokespecial 25, 3) := by decide +kernel
theorem dBS_init_52 : decode cBS_init 52 = .ok (.aastore, 1) := by decide +kernel
theorem dBS_init_53 : decode cBS_init 53 = .ok (.putfield 28, 3) := by decide +kernel
theorem dBS_init_56 : decode cBS_init 56 = .ok (.aload_n 0, 1) := by decide +kernel
theorem dBS_init_57 : decode cBS_init 57 = .ok (.iconst 2, 1) := by decide +kernel
theorem dBS_init_58 : decode cBS_init 58 = .ok (.anewarray 32, 3) := by decide +kernel
theorem dBS_init_61 : decode cBS_init 61 = .ok (.dup, 1) := by decide +kernel
theorem dBS_init_62 : decode cBS_init 62 = .ok (.iconst 0, 1) := by decide +kernel
theorem dBS_init_63 : decode cBS_init 63 = .ok (.new 32, 3) := by decide +kernel
theorem dBS_init_66 : decode cBS_init 66 = .ok (.dup, 1) := by decide +kernel
theorem dBS_init_67 : decode cBS_init 67 = .ok (.invokespecial 34, 3) := by decide +kernel
theorem dBS_init_70 : decode cBS_init 70 = .ok (.aastore, 1) := by decide +kernel
theorem dBS_init_71 : decode cBS_init 71 = .ok (.dup, 1) := by decide +kernel
theorem dBS_init_72 : decode cBS_init 72 = .ok (.iconst 1, 1) := by decide +kernel
theorem dBS_init_73 : decode cBS_init 73 = .ok (.new 32, 3) := by decide +kernel
theorem dBS_init_76 : decode cBS_init 76 = .ok (.dup, 1) := by decide +kernel
theorem dBS_init_77 : decode cBS_init 77 = .ok (.invokespecial 34, 3) := by decide +kernel
theorem dBS_init_80 : decode cBS_init 80 = .ok (.aastore, 1) := by decide +kernel
theorem dBS_init_81 : decode cBS_init 81 = .ok (.putfield 35, 3) := by decide +kernel
theorem dBS_init_84 : decode cBS_init 84 = .ok (.return_, 1) := by decide +kernel
theorem dBC_init_0 : decode cBC_init 0 = .ok (.aload_n 0, 1) := by decide +kernel
theorem dBC_init_1 : decode cBC_init 1 = .ok (.invokespecial 1, 3) := by decide +kernel
theorem dBC_init_4 : decode cBC_init 4 = .ok (.aload_n 0, 1) := by decide +kernel
theorem dBC_init_5 : decode cBC_init 5 = .ok (.sipush 256, 3) := by decide +kernel
theorem dBC_init_8 : decode cBC_init 8 = .ok (.newarray .int, 2) := by decide +kernel
theorem dBC_init_10 : decode cBC_init 10 = .ok (.putfield 7, 3) := by decide +kernel
theorem dBC_init_13 : decode cBC_init 13 = .ok (.aload_n 0, 1) := by decide +kernel
theorem dBC_init_14 : decode cBC_init 14 = .ok (.sipush 256, 3) := by decide +kernel
theorem dBC_init_17 : decode cBC_init 17 = .ok (.newarray .int, 2) := by decide +kernel
theorem dBC_init_19 : decode cBC_init 19 = .ok (.putfield 13, 3) := by decide +kernel
theorem dBC_init_22 : decode cBC_init 22 = .ok (.aload_n 0, 1) := by decide +kernel
theorem dBC_init_23 : decode cBC_init 23 = .ok (.iconst 2, 1) := by decide +kernel
theorem dBC_init_24 : decode cBC_init 24 = .ok (.bipush 44, 2) := by decide +kernel
theorem dBC_init_26 : decode cBC_init 26 = .ok (.multianewarray 16 2, 4) := by decide +kernel
theorem dBC_init_30 : decode cBC_init 30 = .ok (.putfield 18, 3) := by decide +kernel
theorem dBC_init_33 : decode cBC_init 33 = .ok (.aload_n 0, 1) := by decide +kernel
theorem dBC_init_34 : decode cBC_init 34 = .ok (.invokevirtual 21, 3) := by decide +kernel
theorem dBC_init_37 : decode cBC_init 37 = .ok (.aload_n 0, 1) := by decide +kernel
theorem dBC_init_38 : decode cBC_init 38 = .ok (.aload_n 0, 1) := by decide +kernel
theorem dBC_init_39 : decode cBC_init 39 = .ok (.getfield 18, 3) := by decide +kernel
theorem dBC_init_42 : decode cBC_init 42 = .ok (.iconst 0, 1) := by decide +kernel
theorem dBC_init_43 : decode cBC_init 43 = .ok (.aaload, 1) := by decide +kernel
theorem dBC_init_44 : decode cBC_init 44 = .ok (.bipush 16, 2) := by decide +kernel
theorem dBC_init_46 : decode cBC_init 46 = .ok (.iconst 1, 1) := by decide +kernel
theorem dBC_init_47 : decode cBC_init 47 = .ok (.invokevirtual 24, 3) := by decide +kernel
theorem dBC_init_50 : decode cBC_init 50 = .ok (.aload_n 0, 1) := by decide +kernel
theorem dBC_init_51 : decode cBC_init 51 = .ok (.aload_n 0, 1) := by decide +kernel
theorem dBC_init_52 : decode cBC_init 52 = .ok (.getfield 18, 3) := by decide +kernel
theorem dBC_init_55 : decode cBC_init 55 = .ok (.iconst 1, 1) := by decide +kernel
theorem dBC_init_56 : decode cBC_init 56 = .ok (.aaload, 1) := by decide +kernel
theorem dBC_init_57 : decode cBC_init 57 = .ok (.bipush 15, 2) := by decide +kernel
theorem dBC_init_59 : decode cBC_init 59 = .ok (.iconst 2, 1) := by decide +kernel
theorem dBC_init_60 : decode cBC_init 60 = .ok (.invokevirtual 24, 3) := by decide +kernel
theorem dBC_init_63 : decode cBC_init 63 = .ok (.return_, 1) := by decide +kernel
theorem dBC_fillTables_0 : decode cBC_fillTables 0 = .ok (.sipush 256, 3) := by decide +kernel
theorem dBC_fillTables_3 : decode cBC_fillTables 3 = .ok (.newarray .int, 2) := by decide +kernel
theorem dBC_fillTables_5 : decode cBC_fillTables 5 = .ok (.astore_n 1, 1) := by decide +kernel
theorem dBC_fillTables_6 : decode cBC_fillTables 6 = .ok (.iconst 1, 1) := by decide +kernel
theorem dBC_fillTables_7 : decode cBC_fillTables 7 = .ok (.istore_n 2, 1) := by decide +kernel
theorem dBC_fillTables_8 : decode cBC_fillTables 8 = .ok (.iconst 0, 1) := by decide +kernel
theorem dBC_fillTables_9 : decode cBC_fillTables 9 = .ok (.istore_n 3, 1) := by decide +kernel
theorem dBC_fillTables_10 : decode cBC_fillTables 10 = .ok (.iload_n 3, 1) := by decide +kernel
theorem dBC_fillTables_11 : decode cBC_fillTables 11 = .ok (.sipush 256, 3) := by decide +kernel
theorem dBC_fillTables_14 : decode cBC_fillTables 14 = .ok (.if_icmp .ge 20, 3) := by decide +kernel
theorem dBC_fillTables_17 : decode cBC_fillTables 17 = .ok (.aload_n 1, 1) := by decide +kernel
theorem dBC_fillTables_18 : decode cBC_fillTables 18 = .ok (.iload_n 3, 1) := by decide +kernel
theorem dBC_fillTables_19 : decode cBC_fillTables 19 = .ok (.iload_n 2, 1) := by decide +kernel
theorem dBC_fillTables_20 : decode cBC_fillTables 20 = .ok (.iastore, 1) := by decide +kernel
theorem dBC_fillTables_21 : decode cBC_fillTables 21 = .ok (.iload_n 2, 1) := by decide +kernel
theorem dBC_fillTables_22 : decode cBC_fillTables 22 = .ok (.iload_n 2, 1) := by decide +kernel
theorem dBC_fillTables_23 : decode cBC_fillTables 23 = .ok (.invokestatic 56, 3) := by decide +kernel
theorem dBC_fillTables_26 : decode cBC_fillTables 26 = .ok (.ixor, 1) := by decide +kernel
theorem dBC_fillTables_27 : decode cBC_fillTables 27 = .ok (.istore_n 2, 1) := by decide +kernel
theorem dBC_fillTables_28 : decode cBC_fillTables 28 = .ok (.iinc 3 1, 3) := by decide +kernel
theorem dBC_fillTables_31 : decode cBC_fillTables 31 = .ok (.goto (-21), 3) := by decide +kernel
theorem dBC_fillTables_34 : decode cBC_fillTables 34 = .ok (.aload_n 0, 1) := by decide +kernel
theorem dBC_fillTables_35 : decode cBC_fillTables 35 = .ok (.iconst 0, 1) := by decide +kernel
theorem dBC_fillTables_36 : decode cBC_fillTables 36 = .ok (.iconst 0, 1) := by decide +kernel
theorem dBC_fillTables_37 : decode cBC_fillTables 37 = .ok (.invokevirtual 60, 3) := by decide +kernel
theorem dBC_fillTables_40 : decode cBC_fillTables 40 = .ok (.iconst 0, 1) := by decide +kernel
theorem dBC_fillTables_41 : decode cBC_fillTables 41 = .ok (.istore_n 3, 1) := by decide +kernel
theorem dBC_fillTables_42 : decode cBC_fillTables 42 = .ok (.iload_n 3, 1) := by decide +kernel
theorem dBC_fillTables_43 : decode cBC_fillTables 43 = .ok (.sipush 255, 3) := by decide +kernel
theorem dBC_fillTables_46 : decode cBC_fillTables 46 = .ok (.if_icmp .ge 23, 3) := by decide +kernel
theorem dBC_fillTables_49 : decode cBC_fillTables 49 = .ok (.aload_n 0, 1) := by decide +kernel
theorem dBC_fillTables_50 : decode cBC_fillTables 50 = .ok (.aload_n 1, 1) := by decide +kernel
theorem dBC_fillTables_51 : decode cBC_fillTables 51 = .ok (.iload_n 3, 1) := by decide +kernel
theorem dBC_fillTables_52 : decode cBC_fillTables 52 = .ok (.iaload, 1) := by decide +kernel
theorem dBC_fillTables_53 : decode cBC_fillTables 53 = .ok (.aload_n 1, 1) := by decide +kernel
theorem dBC_fillTables_54 : decode cBC_fillTables 54 = .ok (.sipush 255, 3) := by decide +kernel
theorem dBC_fillTables_57 : decode cBC_fillTables 57 = .ok (.iload_n 3, 1) := by decide +kernel
theorem dBC_fillTables_58 : decode cBC_fillTables 58 = .ok (.isub, 1) := by decide +kernel
theorem dBC_fillTables_59 : decode cBC_fillTables 59 = .ok (.iaload, 1) := by decide +kernel
theorem dBC_fillTables_60 : decode cBC_fillTables 60 = .ok (.invokevirtual 60, 3) := by decide +kernel
theorem dBC_fillTables_63 : decode cBC_fillTables 63 = .ok (.iinc 3 1, 3) := by decide +kernel
theorem dBC_fillTables_66 : decode cBC_fillTables 66 = .ok (.goto (-24), 3) := by decide +kernel
theorem dBC_fillTables_69 : decode cBC_fillTables 69 = .ok (.return_, 1) := by decide +kernel
theorem dBC_timesX_0 : decode cBC_timesX 0 = .ok (.iload_n 0, 1) := by decide +kernel
theorem dBC_timesX_1 : decode cBC_timesX 1 = .ok (.sipush 128, 3) := by decide +kernel
theorem dBC_timesX_4 : decode cBC_timesX 4 = .ok (.iand, 1) := by decide +kernel
theorem dBC_timesX_5 : decode cBC_timesX 5 = .ok (.ifCond .ne 9, 3) := by decide +kernel
theorem dBC_timesX_8 : decode cBC_timesX 8 = .ok (.iload_n 0, 1) := by decide +kernel
theorem dBC_timesX_9 : decode cBC_timesX 9 = .ok (.iconst 1, 1) := by decide +kernel
theorem dBC_timesX_10 : decode cBC_timesX 10 = .ok (.ishl, 1) := by decide +kernel
theorem dBC_timesX_11 : decode cBC_timesX 11 = .ok (.goto 10, 3) := by decide +kernel
theorem dBC_timesX_14 : decode cBC_timesX 14 = .ok (.iload_n 0, 1) := by decide +kernel
theorem dBC_timesX_15 : decode cBC_timesX 15 = .ok (.iconst 1, 1) := by decide +kernel
theorem dBC_timesX_16 : decode cBC_timesX 16 = .ok (.ishl, 1) := by decide +kernel
theorem dBC_timesX_17 : decode cBC_timesX 17 = .ok (.sipush 283, 3) := by decide +kernel
theorem dBC_timesX_20 : decode cBC_timesX 20 = .ok (.ixor, 1) := by decide +kernel
theorem dBC_timesX_21 : decode cBC_timesX 21 = .ok (.ireturn, 1) := by decide +kernel
theorem dBC_setTables_0 : decode cBC_setTables 0 = .ok (.iload_n 2, 1) := by decide +kernel
theorem dBC_setTables_1 : decode cBC_setTables 1 = .ok (.iload_n 2, 1) := by decide +kernel
theorem dBC_setTables_2 : decode cBC_setTables 2 = .ok (.bipush 8, 2) := by decide +kernel
theorem dBC_setTables_4 : decode cBC_setTables 4 = .ok (.ishl, 1) := by decide +kernel
theorem dBC_setTables_5 : decode cBC_setTables 5 = .ok (.ior, 1) := by decide +kernel
theorem dBC_setTables_6 : decode cBC_setTables 6 = .ok (.istore_n 3, 1) := by decide +kernel
theorem dBC_setTables_7 : decode cBC_setTables 7 = .ok (.iload_n 3, 1) := by decide +kernel
theorem dBC_setTables_8 : decode cBC_setTables 8 = .ok (.iload_n 3, 1) := by decide +kernel
theorem dBC_setTables_9 : decode cBC_setTables 9 = .ok (.iconst 4, 1) := by decide +kernel
theorem dBC_setTables_10 : decode cBC_setTables 10 = .ok (.iushr, 1) := by decide +kernel
theorem dBC_setTables_11 : decode cBC_setTables 11 = .ok (.ixor, 1) := by decide +kernel
theorem dBC_setTables_12 : decode cBC_setTables 12 = .ok (.iload_n 3, 1) := by decide +kernel
theorem dBC_setTables_13 : decode cBC_setTables 13 = .ok (.iconst 5, 1) := by decide +kernel
theorem dBC_setTables_14 : decode cBC_setTables 14 = .ok (.iushr, 1) := by decide +kernel
theorem dBC_setTables_15 : decode cBC_setTables 15 = .ok (.ixor, 1) := by decide +kernel
theorem dBC_setTables_16 : decode cBC_setTables 16 = .ok (.iload_n 3, 1) := by decide +kernel
theorem dBC_setTables_17 : decode cBC_setTables 17 = .ok (.bipush 6, 2) := by decide +kernel
theorem dBC_setTables_19 : decode cBC_setTables 19 = .ok (.iushr, 1) := by decide +kernel
theorem dBC_setTables_20 : decode cBC_setTables 20 = .ok (.ixor, 1) := by decide +kernel
theorem dBC_setTables_21 : decode cBC_setTables 21 = .ok (.iload_n 3, 1) := by decide +kernel
theorem dBC_setTables_22 : decode cBC_setTables 22 = .ok (.bipush 7, 2) := by decide +kernel
theorem dBC_setTables_24 : decode cBC_setTables 24 = .ok (.iushr, 1) := by decide +kernel
theorem dBC_setTables_25 : decode cBC_setTables 25 = .ok (.ixor, 1) := by decide +kernel
theorem dBC_setTables_26 : decode cBC_setTables 26 = .ok (.bipush 99, 2) := by decide +kernel
theorem dBC_setTables_28 : decode cBC_setTables 28 = .ok (.ixor, 1) := by decide +kernel
theorem dBC_setTables_29 : decode cBC_setTables 29 = .ok (.sipush 255, 3) := by decide +kernel
theorem dBC_setTables_32 : decode cBC_setTables 32 = .ok (.iand, 1) := by decide +kernel
theorem dBC_setTables_33 : decode cBC_setTables 33 = .ok (.istore 4, 2) := by decide +kernel
theorem dBC_setTables_35 : decode cBC_setTables 35 = .ok (.aload_n 0, 1) := by decide +kernel
theorem dBC_setTables_36 : decode cBC_setTables 36 = .ok (.getfield 7, 3) := by decide +kernel
theorem dBC_setTables_39 : decode cBC_setTables 39 = .ok (.iload_n 1, 1) := by decide +kernel
theorem dBC_setTables_40 : decode cBC_setTables 40 = .ok (.iload 4, 2) := by decide +kernel
theorem dBC_setTables_42 : decode cBC_setTables 42 = .ok (.iastore, 1) := by decide +kernel
theorem dBC_setTables_43 : decode cBC_setTables 43 = .ok (.aload_n 0, 1) := by decide +kernel
theorem dBC_setTables_44 : decode cBC_setTables 44 = .ok (.getfield 13, 3) := by decide +kernel
theorem dBC_setTables_47 : decode cBC_setTables 47 = .ok (.iload_n 1, 1) := by decide +kernel
theorem dBC_setTables_48 : decode cBC_setTables 48 = .ok (.iload 4, 2) := by decide +kernel
theorem dBC_setTables_50 : decode cBC_setTables 50 = .ok (.invokestatic 56, 3) := by decide +kernel
theorem dBC_setTables_53 : decode cBC_setTables 53 = .ok (.bipush 24, 2) := by decide +kernel
theorem dBC_setTables_55 : decode cBC_setTables 55 = .ok (.ishl, 1) := by decide +kernel
theorem dBC_setTables_56 : decode cBC_setTables 56 = .ok (.iload 4, 2) := by decide +kernel
theorem dBC_setTables_58 : decode cBC_setTables 58 = .ok (.bipush 16, 2) := by decide +kernel
theorem dBC_setTables_60 : decode cBC_setTables 60 = .ok (.ishl, 1) := by decide +kernel
theorem dBC_setTables_61 : decode cBC_setTables 61 = .ok (.ior, 1) := by decide +kernel
theorem dBC_setTables_62 : decode cBC_setTables 62 = .ok (.iload 4, 2) := by decide +kernel
theorem dBC_setTables_64 : decode cBC_setTables 64 = .ok (.bipush 8, 2) := by decide +kernel
theorem dBC_setTables_66 : decode cBC_setTables 66 = .ok (.ishl, 1) := by decide +kernel
theorem dBC_setTables_67 : decode cBC_setTables 67 = .ok (.ior, 1) := by decide +kernel
theorem dBC_setTables_68 : decode cBC_setTables 68 = .ok (.iload 4, 2) := by decide +kernel
theorem dBC_setTables_70 : decode cBC_setTables 70 = .ok (.invokestatic 56, 3) := by decide +kernel
theorem dBC_setTables_73 : decode cBC_setTables 73 = .ok (.iload 4, 2) := by decide +kernel
theorem dBC_setTables_75 : decode cBC_setTables 75 = .ok (.ixor, 1) := by decide +kernel
theorem dBC_setTables_76 : decode cBC_setTables 76 = .ok (.ior, 1) := by decide +kernel
theorem dBC_setTables_77 : decode cBC_setTables 77 = .ok (.iastore, 1) := by decide +kernel
theorem dBC_setTables_78 : decode cBC_setTables 78 = .ok (.return_, 1) := by decide +kernel
theorem dBC_fillRoundKeys_0 : decode cBC_fillRoundKeys 0 = .ok (.iconst 0, 1) := by decide +kernel
theorem dBC_fillRoundKeys_1 : decode cBC_fillRoundKeys 1 = .ok (.istore 4, 2) := by decide +kernel
theorem dBC_fillRoundKeys_3 : decode cBC_fillRoundKeys 3 = .ok (.iload 4, 2) := by decide +kernel
theorem dBC_fillRoundKeys_5 : decode cBC_fillRoundKeys 5 = .ok (.bipush 16, 2) := by decide +kernel
theorem dBC_fillRoundKeys_7 : decode cBC_fillRoundKeys 7 = .ok (.if_icmp .ge 35, 3) := by decide +kernel
theorem dBC_fillRoundKeys_10 : decode cBC_fillRoundKeys 10 = .ok (.aload_n 1, 1) := by decide +kernel
theorem dBC_fillRoundKeys_11 : decode cBC_fillRoundKeys 11 = .ok (.iload 4, 2) := by decide +kernel
theorem dBC_fillRoundKeys_13 : decode cBC_fillRoundKeys 13 = .ok (.iconst 4, 1) := by decide +kernel
theorem dBC_fillRoundKeys_14 : decode cBC_fillRoundKeys 14 = .ok (.idiv, 1) := by decide +kernel
theorem dBC_fillRoundKeys_15 : decode cBC_fillRoundKeys 15 = .ok (.aload_n 1, 1) := by decide +kernel
theorem dBC_fillRoundKeys_16 : decode cBC_fillRoundKeys 16 = .ok (.iload 4, 2) := by decide +kernel
theorem dBC_fillRoundKeys_18 : decode cBC_fillRoundKeys 18 = .ok (.iconst 4, 1) := by decide +kernel
theorem dBC_fillRoundKeys_19 : decode cBC_fillRoundKeys 19 = .ok (.idiv, 1) := by decide +kernel
theorem dBC_fillRoundKeys_20 : decode cBC_fillRoundKeys 20 = .ok (.iaload, 1) := by decide +kernel
theorem dBC_fillRoundKeys_21 : decode cBC_fillRoundKeys 21 = .ok (.bipush 8, 2) := by decide +kernel
theorem dBC_fillRoundKeys_23 : decode cBC_fillRoundKeys 23 = .ok (.ishl, 1) := by decide +kernel
theorem dBC_fillRoundKeys_24 : decode cBC_fillRoundKeys 24 = .ok (.iload_n 2, 1) := by decide +kernel
theorem dBC_fillRoundKeys_25 : decode cBC_fillRoundKeys 25 = .ok (.iload 4, 2) := by decide +kernel
theorem dBC_fillRoundKeys_27 : decode cBC_fillRoundKeys 27 = .ok (.imul, 1) := by decide +kernel
theorem dBC_fillRoundKeys_28 : decode cBC_fillRoundKeys 28 = .ok (.iload_n 3, 1) := by decide +kernel
theorem dBC_fillRoundKeys_29 : decode cBC_fillRoundKeys 29 = .ok (.iadd, 1) := by decide +kernel
theorem dBC_fillRoundKeys_30 : decode cBC_fillRoundKeys 30 = .ok (.sipush 255, 3) := by decide +kernel
theorem dBC_fillRoundKeys_33 : decode cBC_fillRoundKeys 33 = .ok (.iand, 1) := by decide +kernel
theorem dBC_fillRoundKeys_34 : decode cBC_fillRoundKeys 34 = .ok (.ior, 1) := by decide +kernel
theorem dBC_fillRoundKeys_35 : decode cBC_fillRoundKeys 35 = .ok (.iastore, 1) := by decide +kernel
theorem dBC_fillRoundKeys_36 : decode cBC_fillRoundKeys 36 = .ok (.iinc 4 1, 3) := by decide +kernel
theorem dBC_fillRoundKeys_39 : decode cBC_fillRoundKeys 39 = .ok (.goto (-36), 3) := by decide +kernel
theorem dBC_fillRoundKeys_42 : decode cBC_fillRoundKeys 42 = .ok (.iconst 1, 1) := by decide +kernel
theorem dBC_fillRoundKeys_43 : decode cBC_fillRoundKeys 43 = .ok (.istore 4, 2) := by decide +kernel
theorem dBC_fillRoundKeys_45 : decode cBC_fillRoundKeys 45 = .ok (.iconst 4, 1) := by decide +kernel
theorem dBC_fillRoundKeys_46 : decode cBC_fillRoundKeys 46 = .ok (.istore 5, 2) := by decide +kernel
theorem dBC_fillRoundKeys_48 : decode cBC_fillRoundKeys 48 = .ok (.iload 5, 2) := by decide +kernel
theorem dBC_fillRoundKeys_50 : decode cBC_fillRoundKeys 50 = .ok (.bipush 44, 2) := by decide +kernel
theorem dBC_fillRoundKeys_52 : decode cBC_fillRoundKeys 52 = .ok (.if_icmp .ge 77, 3) := by decide +kernel
theorem dBC_fillRoundKeys_55 : decode cBC_fillRoundKeys 55 = .ok (.aload_n 1, 1) := by decide +kernel
theorem dBC_fillRoundKeys_56 : decode cBC_fillRoundKeys 56 = .ok (.iload 5, 2) := by decide +kernel
theorem dBC_fillRoundKeys_58 : decode cBC_fillRoundKeys 58 = .ok (.iconst 1, 1) := by decide +kernel
theorem dBC_fillRoundKeys_59 : decode cBC_fillRoundKeys 59 = .ok (.isub, 1) := by decide +kernel
theorem dBC_fillRoundKeys_60 : decode cBC_fillRoundKeys 60 = .ok (.iaload, 1) := by decide +kernel
theorem dBC_fillRoundKeys_61 : decode cBC_fillRoundKeys 61 = .ok (.istore 6, 2) := by decide +kernel
theorem dBC_fillRoundKeys_63 : decode cBC_fillRoundKeys 63 = .ok (.iload 5, 2) := by decide +kernel
theorem dBC_fillRoundKeys_65 : decode cBC_fillRoundKeys 65 = .ok (.iconst 4, 1) := by decide +kernel
theorem dBC_fillRoundKeys_66 : decode cBC_fillRoundKeys 66 = .ok (.irem, 1) := by decide +kernel
theorem dBC_fillRoundKeys_67 : decode cBC_fillRoundKeys 67 = .ok (.ifCond .ne 43, 3) := by decide +kernel
theorem dBC_fillRoundKeys_70 : decode cBC_fillRoundKeys 70 = .ok (.iload 6, 2) := by decide +kernel
theorem dBC_fillRoundKeys_72 : decode cBC_fillRoundKeys 72 = .ok (.bipush 8, 2) := by decide +kernel
theorem dBC_fillRoundKeys_74 : decode cBC_fillRoundKeys 74 = .ok (.ishl, 1) := by decide +kernel
theorem dBC_fillRoundKeys_75 : decode cBC_fillRoundKeys 75 = .ok (.iload 6, 2) := by decide +kernel
theorem dBC_fillRoundKeys_77 : decode cBC_fillRoundKeys 77 = .ok (.bipush 24, 2) := by decide +kernel
theorem dBC_fillRoundKeys_79 : decode cBC_fillRoundKeys 79 = .ok (.iushr, 1) := by decide +kernel
theorem dBC_fillRoundKeys_80 : decode cBC_fillRoundKeys 80 = .ok (.ior, 1) := by decide +kernel
theorem dBC_fillRoundKeys_81 : decode cBC_fillRoundKeys 81 = .ok (.istore 7, 2) := by decide +kernel
theorem dBC_fillRoundKeys_83 : decode cBC_fillRoundKeys 83 = .ok (.aload_n 0, 1) := by decide +kernel
theorem dBC_fillRoundKeys_84 : decode cBC_fillRoundKeys 84 = .ok (.iload 7, 2) := by decide +kernel
theorem dBC_fillRoundKeys_86 : decode cBC_fillRoundKeys 86 = .ok (.iload 7, 2) := by decide +kernel
theorem dBC_fillRoundKeys_88 : decode cBC_fillRoundKeys 88 = .ok (.iload 7, 2) := by decide +kernel
theorem dBC_fillRoundKeys_90 : decode cBC_fillRoundKeys 90 = .ok (.iload 7, 2) := by decide +kernel
theorem dBC_fillRoundKeys_92 : decode cBC_fillRoundKeys 92 = .ok (.invokevirtual 47, 3) := by decide +kernel
theorem dBC_fillRoundKeys_95 : decode cBC_fillRoundKeys 95 = .ok (.iload 4, 2) := by decide +kernel
theorem dBC_fillRoundKeys_97 : decode cBC_fillRoundKeys 97 = .ok (.bipush 24, 2) := by decide +kernel
theorem dBC_fillRoundKeys_99 : decode cBC_fillRoundKeys 99 = .ok (.ishl, 1) := by decide +kernel
theorem dBC_fillRoundKeys_100 : decode cBC_fillRoundKeys 100 = .ok (.ixor, 1) := by decide +kernel
theorem dBC_fillRoundKeys_101 : decode cBC_fillRoundKeys 101 = .ok (.istore 6, 2) := by decide +kernel
theorem dBC_fillRoundKeys_103 : decode cBC_fillRoundKeys 103 = .ok (.iload 4, 2) := by decide +kernel
theorem dBC_fillRoundKeys_105 : decode cBC_fillRoundKeys 105 = .ok (.invokestatic 56, 3) := by decide +kernel
theorem dBC_fillRoundKeys_108 : decode cBC_fillRoundKeys 108 = .ok (.istore 4, 2) := by decide +kernel
theorem dBC_fillRoundKeys_110 : decode cBC_fillRoundKeys 110 = .ok (.aload_n 1, 1) := by decide +kernel
theorem dBC_fillRoundKeys_111 : decode cBC_fillRoundKeys 111 = .ok (.iload 5, 2) := by decide +kernel
theorem dBC_fillRoundKeys_113 : decode cBC_fillRoundKeys 113 = .ok (.aload_n 1, 1) := by decide +kernel
theorem dBC_fillRoundKeys_114 : decode cBC_fillRoundKeys 114 = .ok (.iload 5, 2) := by decide +kernel
theorem dBC_fillRoundKeys_116 : decode cBC_fillRoundKeys 116 = .ok (.iconst 4, 1) := by decide +kernel
theorem dBC_fillRoundKeys_117 : decode cBC_fillRoundKeys 117 = .ok (.isub, 1) := by decide +kernel
theorem dBC_fillRoundKeys_118 : decode cBC_fillRoundKeys 118 = .ok (.iaload, 1) := by decide +kernel
theorem dBC_fillRoundKeys_119 : decode cBC_fillRoundKeys 119 = .ok (.iload 6, 2) := by decide +kernel
theorem dBC_fillRoundKeys_121 : decode cBC_fillRoundKeys 121 = .ok (.ixor, 1) := by decide +kernel
theorem dBC_fillRoundKeys_122 : decode cBC_fillRoundKeys 122 = .ok (.iastore, 1) := by decide +kernel
theorem dBC_fillRoundKeys_123 : decode cBC_fillRoundKeys 123 = .ok (.iinc 5 1, 3) := by decide +kernel
theorem dBC_fillRoundKeys_126 : decode cBC_fillRoundKeys 126 = .ok (.goto (-78), 3) := by decide +kernel
theorem dBC_fillRoundKeys_129 : decode cBC_fillRoundKeys 129 = .ok (.return_, 1) := by decide +kernel
theorem dBC_substituted_0 : decode cBC_substituted 0 = .ok (.aload_n 0, 1) := by decide +kernel
theorem dBC_substituted_1 : decode cBC_substituted 1 = .ok (.getfield 7, 3) := by decide +kernel
theorem dBC_substituted_4 : decode cBC_substituted 4 = .ok (.iload_n 1, 1) := by decide +kernel
theorem dBC_substituted_5 : decode cBC_substituted 5 = .ok (.bipush 24, 2) := by decide +kernel
theorem dBC_substituted_7 : decode cBC_substituted 7 = .ok (.iushr, 1) := by decide +kernel
theorem dBC_substituted_8 : decode cBC_substituted 8 = .ok (.iaload, 1) := by decide +kernel
theorem dBC_substituted_9 : decode cBC_substituted 9 = .ok (.bipush 24, 2) := by decide +kernel
theorem dBC_substituted_11 : decode cBC_substituted 11 = .ok (.ishl, 1) := by decide +kernel
theorem dBC_substituted_12 : decode cBC_substituted 12 = .ok (.aload_n 0, 1) := by decide +kernel
theorem dBC_substituted_13 : decode cBC_substituted 13 = .ok (.getfield 7, 3) := by decide +kernel
theorem dBC_substituted_16 : decode cBC_substituted 16 = .ok (.iload_n 2, 1) := by decide +kernel
theorem dBC_substituted_17 : decode cBC_substituted 17 = .ok (.bipush 16, 2) := by decide +kernel
theorem dBC_substituted_19 : decode cBC_substituted 19 = .ok (.iushr, 1) := by decide +kernel
theorem dBC_substituted_20 : decode cBC_substituted 20 = .ok (.sipush 255, 3) := by decide +kernel
theorem dBC_substituted_23 : decode cBC_substituted 23 = .ok (.iand, 1) := by decide +kernel
theorem dBC_substituted_24 : decode cBC_substituted 24 = .ok (.iaload, 1) := by decide +kernel
theorem dBC_substituted_25 : decode cBC_substituted 25 = .ok (.bipush 16, 2) := by decide +kernel
theorem dBC_substituted_27 : decode cBC_substituted 27 = .ok (.ishl, 1) := by decide +kernel
theorem dBC_substituted_28 : decode cBC_substituted 28 = .ok (.ior, 1) := by decide +kernel
theorem dBC_substituted_29 : decode cBC_substituted 29 = .ok (.aload_n 0, 1) := by decide +kernel
theorem dBC_substituted_30 : decode cBC_substituted 30 = .ok (.getfield 7, 3) := by decide +kernel
theorem dBC_substituted_33 : decode cBC_substituted 33 = .ok (.iload_n 3, 1) := by decide +kernel
theorem dBC_substituted_34 : decode cBC_substituted 34 = .ok (.bipush 8, 2) := by decide +kernel
theorem dBC_substituted_36 : decode cBC_substituted 36 = .ok (.iushr, 1) := by decide +kernel
theorem dBC_substituted_37 : decode cBC_substituted 37 = .ok (.sipush 255, 3) := by decide +kernel
theorem dBC_substituted_40 : decode cBC_substituted 40 = .ok (.iand, 1) := by decide +kernel
theorem dBC_substituted_41 : decode cBC_substituted 41 = .ok (.iaload, 1) := by decide +kernel
theorem dBC_substituted_42 : decode cBC_substituted 42 = .ok (.bipush 8, 2) := by decide +kernel
theorem dBC_substituted_44 : decode cBC_substituted 44 = .ok (.ishl, 1) := by decide +kernel
theorem dBC_substituted_45 : decode cBC_substituted 45 = .ok (.ior, 1) := by decide +kernel
theorem dBC_substituted_46 : decode cBC_substituted 46 = .ok (.aload_n 0, 1) := by decide +kernel
theorem dBC_substituted_47 : decode cBC_substituted 47 = .ok (.getfield 7, 3) := by decide +kernel
theorem dBC_substituted_50 : decode cBC_substituted 50 = .ok (.iload 4, 2) := by decide +kernel
theorem dBC_substituted_52 : decode cBC_substituted 52 = .ok (.sipush 255, 3) := by decide +kernel
theorem dBC_substituted_55 : decode cBC_substituted 55 = .ok (.iand, 1) := by decide +kernel
theorem dBC_substituted_56 : decode cBC_substituted 56 = .ok (.iaload, 1) := by decide +kernel
theorem dBC_substituted_57 : decode cBC_substituted 57 = .ok (.ior, 1) := by decide +kernel
theorem dBC_substituted_58 : decode cBC_substituted 58 = .ok (.ireturn, 1) := by decide +kernel
theorem dKM_init_0 : decode cKM_init 0 = .ok (.aload_n 0, 1) := by decide +kernel
theorem dKM_init_1 : decode cKM_init 1 = .ok (.invokespecial 1, 3) := by decide +kernel
theorem dKM_init_4 : decode cKM_init 4 = .ok (.aload_n 0, 1) := by decide +kernel
theorem dKM_init_5 : decode cKM_init 5 = .ok (.iconst 2, 1) := by decide +kernel
theorem dKM_init_6 : decode cKM_init 6 = .ok (.newarray .long, 2) := by decide +kernel
theorem dKM_init_8 : decode cKM_init 8 = .ok (.putfield 7, 3) := by decide +kernel
theorem dKM_init_11 : decode cKM_init 11 = .ok (.aload_n 0, 1) := by decide +kernel
theorem dKM_init_12 : decode cKM_init 12 = .ok (.iconst 2, 1) := by decide +kernel
theorem dKM_init_13 : decode cKM_init 13 = .ok (.newarray .long, 2) := by decide +kernel
theorem dKM_init_15 : decode cKM_init 15 = .ok (.putfield 13, 3) := by decide +kernel
theorem dKM_init_18 : decode cKM_init 18 = .ok (.aload_n 0, 1) := by decide +kernel
theorem dKM_init_19 : decode cKM_init 19 = .ok (.iconst 2, 1) := by decide +kernel
theorem dKM_init_20 : decode cKM_init 20 = .ok (.newarray .int, 2) := by decide +kernel
theorem dKM_init_22 : decode cKM_init 22 = .ok (.putfield 16, 3) := by decide +kernel
theorem dKM_init_25 : decode cKM_init 25 = .ok (.aload_n 0, 1) := by decide +kernel
theorem dKM_init_26 : decode cKM_init 26 = .ok (.iconst 2, 1) := by decide +kernel
theorem dKM_init_27 : decode cKM_init 27 = .ok (.newarray .int, 2) := by decide +kernel
theorem dKM_init_29 : decode cKM_init 29 = .ok (.putfield 20, 3) := by decide +kernel
theorem dKM_init_32 : decode cKM_init 32 = .ok (.return_, 1) := by decide +kernel
theorem dKY_init_0 : decode cKY_init 0 = .ok (.aload_n 0, 1) := by decide +kernel
theorem dKY_init_1 : decode cKY_init 1 = .ok (.invokespecial 3, 3) := by decide +kernel
theorem dKY_init_4 : decode cKY_init 4 = .ok (.aload_n 0, 1) := by decide +kernel
theorem dKY_init_5 : decode cKY_init 5 = .ok (.sipush 160, 3) := by decide +kernel
theorem dKY_init_8 : decode cKY_init 8 = .ok (.newarray .int, 2) := by decide +kernel
theorem dKY_init_10 : decode cKY_init 10 = .ok (.putfield 11, 3) := by decide +kernel
theorem dKY_init_13 : decode cKY_init 13 = .ok (.aload_n 0, 1) := by decide +kernel
theorem dKY_init_14 : decode cKY_init 14 = .ok (.sipush 512, 3) := by decide +kernel
theorem dKY_init_17 : decode cKY_init 17 = .ok (.newarray .long, 2) := by decide +kernel
theorem dKY_init_19 : decode cKY_init 19 = .ok (.putfield 15, 3) := by decide +kernel
theorem dKY_init_22 : decode cKY_init 22 = .ok (.aload_n 0, 1) := by decide +kernel
theorem dKY_init_23 : decode cKY_init 23 = .ok (.sipush 512, 3) := by decide +kernel
theorem dKY_init_26 : decode cKY_init 26 = .ok (.newarray .long, 2) := by decide +kernel
theorem dKY_init_28 : decode cKY_init 28 = .ok (.putfield 19, 3) := by decide +kernel
theorem dKY_init_31 : decode cKY_init 31 = .ok (.aload_n 0, 1) := by decide +kernel
theorem dKY_init_32 : decode cKY_init 32 = .ok (.sipush 512, 3) := by decide +kernel
theorem dKY_init_35 : decode cKY_init 35 = .ok (.newarray .int, 2) := by decide +kernel
theorem dKY_init_37 : decode cKY_init 37 = .ok (.putfield 22, 3) := by decide +kernel
theorem dKY_init_40 : decode cKY_init 40 = .ok (.aload_n 0, 1) := by decide +kernel
theorem dKY_init_41 : decode cKY_init 41 = .ok (.iload_n 1, 1) := by decide +kernel
theorem dKY_init_42 : decode cKY_init 42 = .ok (.putfield 25, 3) := by decide +kernel
theorem dKY_init_45 : decode cKY_init 45 = .ok (.aload_n 0, 1) := by decide +kernel
theorem dKY_init_46 : decode cKY_init 46 = .ok (.invokevirtual 29, 3) := by decide +kernel
theorem dKY_init_49 : decode cKY_init 49 = .ok (.return_, 1) := by decide +kernel
theorem dKY_forgetWalks_0 : decode cKY_forgetWalks 0 = .ok (.aload_n 0, 1) := by decide +kernel
theorem dKY_forgetWalks_1 : decode cKY_forgetWalks 1 = .ok (.getfield 22, 3) := by decide +kernel
theorem dKY_forgetWalks_4 : decode cKY_forgetWalks 4 = .ok (.iconst (-1), 1) := by decide +kernel
theorem dKY_forgetWalks_5 : decode cKY_forgetWalks 5 = .ok (.invokestatic 64, 3) := by decide +kernel
theorem dKY_forgetWalks_8 : decode cKY_forgetWalks 8 = .ok (.aload_n 0, 1) := by decide +kernel
theorem dKY_forgetWalks_9 : decode cKY_forgetWalks 9 = .ok (.getfield 15, 3) := by decide +kernel
theorem dKY_forgetWalks_12 : decode cKY_forgetWalks 12 = .ok (.iconst 1, 1) := by decide +kernel
theorem dKY_forgetWalks_13 : decode cKY_forgetWalks 13 = .ok (.aload_n 0, 1) := by decide +kernel
theorem dKY_forgetWalks_14 : decode cKY_forgetWalks 14 = .ok (.iconst 0, 1) := by decide +kernel
theorem dKY_forgetWalks_15 : decode cKY_forgetWalks 15 = .ok (.invokevirtual 40, 3) := by decide +kernel
theorem dKY_forgetWalks_18 : decode cKY_forgetWalks 18 = .ok (.lastore, 1) := by decide +kernel
theorem dKY_forgetWalks_19 : decode cKY_forgetWalks 19 = .ok (.aload_n 0, 1) := by decide +kernel
theorem dKY_forgetWalks_20 : decode cKY_forgetWalks 20 = .ok (.getfield 19, 3) := by decide +kernel
theorem dKY_forgetWalks_23 : decode cKY_forgetWalks 23 = .ok (.iconst 1, 1) := by decide +kernel
theorem dKY_forgetWalks_24 : decode cKY_forgetWalks 24 = .ok (.aload_n 0, 1) := by decide +kernel
theorem dKY_forgetWalks_25 : decode cKY_forgetWalks 25 = .ok (.bipush 8, 2) := by decide +kernel
theorem dKY_forgetWalks_27 : decode cKY_forgetWalks 27 = .ok (.invokevirtual 40, 3) := by decide +kernel
theorem dKY_forgetWalks_30 : decode cKY_forgetWalks 30 = .ok (.lastore, 1) := by decide +kernel
theorem dKY_forgetWalks_31 : decode cKY_forgetWalks 31 = .ok (.aload_n 0, 1) := by decide +kernel
theorem dKY_forgetWalks_32 : decode cKY_forgetWalks 32 = .ok (.getfield 22, 3) := by decide +kernel
theorem dKY_forgetWalks_35 : decode cKY_forgetWalks 35 = .ok (.iconst 1, 1) := by decide +kernel
theorem dKY_forgetWalks_36 : decode cKY_forgetWalks 36 = .ok (.aload_n 0, 1) := by decide +kernel
theorem dKY_forgetWalks_37 : decode cKY_forgetWalks 37 = .ok (.getfield 25, 3) := by decide +kernel
theorem dKY_forgetWalks_40 : decode cKY_forgetWalks 40 = .ok (.iastore, 1) := by decide +kernel
theorem dKY_forgetWalks_41 : decode cKY_forgetWalks 41 = .ok (.return_, 1) := by decide +kernel
theorem dJA_fill_0 : decode cJA_fill 0 = .ok (.iconst 0, 1) := by decide +kernel
theorem dJA_fill_1 : decode cJA_fill 1 = .ok (.istore_n 2, 1) := by decide +kernel
theorem dJA_fill_2 : decode cJA_fill 2 = .ok (.aload_n 0, 1) := by decide +kernel
theorem dJA_fill_3 : decode cJA_fill 3 = .ok (.arraylength, 1) := by decide +kernel
theorem dJA_fill_4 : decode cJA_fill 4 = .ok (.istore_n 3, 1) := by decide +kernel
theorem dJA_fill_5 : decode cJA_fill 5 = .ok (.iload_n 2, 1) := by decide +kernel
theorem dJA_fill_6 : decode cJA_fill 6 = .ok (.iload_n 3, 1) := by decide +kernel
theorem dJA_fill_7 : decode cJA_fill 7 = .ok (.if_icmp .ge 13, 3) := by decide +kernel
theorem dJA_fill_10 : decode cJA_fill 10 = .ok (.aload_n 0, 1) := by decide +kernel
theorem dJA_fill_11 : decode cJA_fill 11 = .ok (.iload_n 2, 1) := by decide +kernel
theorem dJA_fill_12 : decode cJA_fill 12 = .ok (.iload_n 1, 1) := by decide +kernel
theorem dJA_fill_13 : decode cJA_fill 13 = .ok (.iastore, 1) := by decide +kernel
theorem dJA_fill_14 : decode cJA_fill 14 = .ok (.iinc 2 1, 3) := by decide +kernel
theorem dJA_fill_17 : decode cJA_fill 17 = .ok (.goto (-12), 3) := by decide +kernel
theorem dJA_fill_20 : decode cJA_fill 20 = .ok (.return_, 1) := by decide +kernel
theorem dKY_readHalf_0 : decode cKY_readHalf 0 = .ok (.lconst 0, 1) := by decide +kernel
theorem dKY_readHalf_1 : decode cKY_readHalf 1 = .ok (.lstore_n 2, 1) := by decide +kernel
theorem dKY_readHalf_2 : decode cKY_readHalf 2 = .ok (.iconst 0, 1) := by decide +kernel
theorem dKY_readHalf_3 : decode cKY_readHalf 3 = .ok (.istore 4, 2) := by decide +kernel
theorem dKY_readHalf_5 : decode cKY_readHalf 5 = .ok (.iload 4, 2) := by decide +kernel
theorem dKY_readHalf_7 : decode cKY_readHalf 7 = .ok (.bipush 8, 2) := by decide +kernel
theorem dKY_readHalf_9 : decode cKY_readHalf 9 = .ok (.if_icmp .ge 25, 3) := by decide +kernel
theorem dKY_readHalf_12 : decode cKY_readHalf 12 = .ok (.lload_n 2, 1) := by decide +kernel
theorem dKY_readHalf_13 : decode cKY_readHalf 13 = .ok (.bipush 8, 2) := by decide +kernel
theorem dKY_readHalf_15 : decode cKY_readHalf 15 = .ok (.lshl, 1) := by decide +kernel
theorem dKY_readHalf_16 : decode cKY_readHalf 16 = .ok (.aload_n 0, 1) := by decide +kernel
theorem dKY_readHalf_17 : decode cKY_readHalf 17 = .ok (.getfield 11, 3) := by decide +kernel
theorem dKY_readHalf_20 : decode cKY_readHalf 20 = .ok (.iload_n 1, 1) := by decide +kernel
theorem dKY_readHalf_21 : decode cKY_readHalf 21 = .ok (.iload 4, 2) := by decide +kernel
theorem dKY_readHalf_23 : decode cKY_readHalf 23 = .ok (.iadd, 1) := by decide +kernel
theorem dKY_readHalf_24 : decode cKY_readHalf 24 = .ok (.iaload, 1) := by decide +kernel
theorem dKY_readHalf_25 : decode cKY_readHalf 25 = .ok (.i2l, 1) := by decide +kernel
theorem dKY_readHalf_26 : decode cKY_readHalf 26 = .ok (.lor, 1) := by decide +kernel
theorem dKY_readHalf_27 : decode cKY_readHalf 27 = .ok (.lstore_n 2, 1) := by decide +kernel
theorem dKY_readHalf_28 : decode cKY_readHalf 28 = .ok (.iinc 4 1, 3) := by decide +kernel
theorem dKY_readHalf_31 : decode cKY_readHalf 31 = .ok (.goto (-26), 3) := by decide +kernel
theorem dKY_readHalf_34 : decode cKY_readHalf 34 = .ok (.lload_n 2, 1) := by decide +kernel
theorem dKY_readHalf_35 : decode cKY_readHalf 35 = .ok (.lreturn, 1) := by decide +kernel
theorem dSV_init_0 : decode cSV_init 0 = .ok (.aload_n 0, 1) := by decide +kernel
theorem dSV_init_1 : decode cSV_init 1 = .ok (.invokespecial 3, 3) := by decide +kernel
theorem dSV_init_4 : decode cSV_init 4 = .ok (.aload_n 0, 1) := by decide +kernel
theorem dSV_init_5 : decode cSV_init 5 = .ok (.new 9, 3) := by decide +kernel
theorem dSV_init_8 : decode cSV_init 8 = .ok (.dup, 1) := by decide +kernel
theorem dSV_init_9 : decode cSV_init 9 = .ok (.invokespecial 11, 3) := by decide +kernel
theorem dSV_init_12 : decode cSV_init 12 = .ok (.putfield 12, 3) := by decide +kernel
theorem dSV_init_15 : decode cSV_init 15 = .ok (.aload_n 0, 1) := by decide +kernel
theorem dSV_init_16 : decode cSV_init 16 = .ok (.sipush 256, 3) := by decide +kernel
theorem dSV_init_19 : decode cSV_init 19 = .ok (.newarray .long, 2) := by decide +kernel
theorem dSV_init_21 : decode cSV_init 21 = .ok (.putfield 18, 3) := by decide +kernel
theorem dSV_init_24 : decode cSV_init 24 = .ok (.return_, 1) := by decide +kernel
theorem dSH_init_0 : decode cSH_init 0 = .ok (.aload_n 0, 1) := by decide +kernel
theorem dSH_init_1 : decode cSH_init 1 = .ok (.invokespecial 3, 3) := by decide +kernel
theorem dSH_init_4 : decode cSH_init 4 = .ok (.aload_n 0, 1) := by decide +kernel
theorem dSH_init_5 : decode cSH_init 5 = .ok (.bipush 9, 2) := by decide +kernel
theorem dSH_init_7 : decode cSH_init 7 = .ok (.sipush 256, 3) := by decide +kernel
theorem dSH_init_10 : decode cSH_init 10 = .ok (.multianewarray 11 2, 4) := by decide +kernel
theorem dSH_init_14 : decode cSH_init 14 = .ok (.putfield 13, 3) := by decide +kernel
theorem dSH_init_17 : decode cSH_init 17 = .ok (.aload_n 0, 1) := by decide +kernel
theorem dSH_init_18 : decode cSH_init 18 = .ok (.sipush 256, 3) := by decide +kernel
theorem dSH_init_21 : decode cSH_init 21 = .ok (.newarray .long, 2) := by decide +kernel
theorem dSH_init_23 : decode cSH_init 23 = .ok (.putfield 16, 3) := by decide +kernel
theorem dSH_init_26 : decode cSH_init 26 = .ok (.return_, 1) := by decide +kernel
theorem dBS_combine_0 : decode cBS_combine 0 = .ok (.aload_n 0, 1) := by decide +kernel
theorem dBS_combine_1 : decode cBS_combine 1 = .ok (.getfield 35, 3) := by decide +kernel
theorem dBS_combine_4 : decode cBS_combine 4 = .ok (.iconst 0, 1) := by decide +kernel
theorem dBS_combine_5 : decode cBS_combine 5 = .ok (.aaload, 1) := by decide +kernel
theorem dBS_combine_6 : decode cBS_combine 6 = .ok (.getfield 99, 3) := by decide +kernel
theorem dBS_combine_9 : decode cBS_combine 9 = .ok (.aload_n 0, 1) := by decide +kernel
theorem dBS_combine_10 : decode cBS_combine 10 = .ok (.getfield 35, 3) := by decide +kernel
theorem dBS_combine_13 : decode cBS_combine 13 = .ok (.iconst 1, 1) := by decide +kernel
theorem dBS_combine_14 : decode cBS_combine 14 = .ok (.aaload, 1) := by decide +kernel
theorem dBS_combine_15 : decode cBS_combine 15 = .ok (.getfield 99, 3) := by decide +kernel
theorem dBS_combine_18 : decode cBS_combine 18 = .ok (.lxor, 1) := by decide +kernel
theorem dBS_combine_19 : decode cBS_combine 19 = .ok (.lreturn, 1) := by decide +kernel
theorem dBS_count_0 : decode cBS_count 0 = .ok (.iload_n 1, 1) := by decide +kernel
theorem dBS_count_1 : decode cBS_count 1 = .ok (.invokestatic 137, 3) := by decide +kernel
theorem dBS_count_4 : decode cBS_count 4 = .ok (.ifCond .ne 5, 3) := by decide +kernel
theorem dBS_count_7 : decode cBS_count 7 = .ok (.iconst (-1), 1) := by decide +kernel
theorem dBS_count_8 : decode cBS_count 8 = .ok (.ireturn, 1) := by decide +kernel
theorem dBS_count_9 : decode cBS_count 9 = .ok (.aload_n 0, 1) := by decide +kernel
theorem dBS_count_10 : decode cBS_count 10 = .ok (.getfield 35, 3) := by decide +kernel
theorem dBS_count_13 : decode cBS_count 13 = .ok (.iload_n 1, 1) := by decide +kernel
theorem dBS_count_14 : decode cBS_count 14 = .ok (.aaload, 1) := by decide +kernel
theorem dBS_count_15 : decode cBS_count 15 = .ok (.astore_n 3, 1) := by decide +kernel
theorem dBS_count_16 : decode cBS_count 16 = .ok (.iload_n 2, 1) := by decide +kernel
theorem dBS_count_17 : decode cBS_count 17 = .ok (.tableswitch 137 0 7 #[47, 55, 63, 71, 79, 84, 89, 107], 47) := by decide +kernel
theorem dBS_count_64 : decode cBS_count 64 = .ok (.aload_n 3, 1) := by decide +kernel
theorem dBS_count_65 : decode cBS_count 65 = .ok (.getfield 45, 3) := by decide +kernel
theorem dBS_count_68 : decode cBS_count 68 = .ok (.getfield 141, 3) := by decide +kernel
theorem dBS_count_71 : decode cBS_count 71 = .ok (.ireturn, 1) := by decide +kernel
theorem dBS_count_72 : decode cBS_count 72 = .ok (.aload_n 3, 1) := by decide +kernel
theorem dBS_count_73 : decode cBS_count 73 = .ok (.getfield 45, 3) := by decide +kernel
theorem dBS_count_76 : decode cBS_count 76 = .ok (.invokevirtual 144, 3) := by decide +kernel
theorem dBS_count_79 : decode cBS_count 79 = .ok (.ireturn, 1) := by decide +kernel
theorem dBS_count_80 : decode cBS_count 80 = .ok (.aload_n 3, 1) := by decide +kernel
theorem dBS_count_81 : decode cBS_count 81 = .ok (.getfield 45, 3) := by decide +kernel
theorem dBS_count_84 : decode cBS_count 84 = .ok (.invokevirtual 147, 3) := by decide +kernel
theorem dBS_count_87 : decode cBS_count 87 = .ok (.ireturn, 1) := by decide +kernel
theorem dBS_count_88 : decode cBS_count 88 = .ok (.aload_n 3, 1) := by decide +kernel
theorem dBS_count_89 : decode cBS_count 89 = .ok (.getfield 45, 3) := by decide +kernel
theorem dBS_count_92 : decode cBS_count 92 = .ok (.getfield 150, 3) := by decide +kernel
theorem dBS_count_95 : decode cBS_count 95 = .ok (.ireturn, 1) := by decide +kernel
theorem dBS_count_96 : decode cBS_count 96 = .ok (.aload_n 3, 1) := by decide +kernel
theorem dBS_count_97 : decode cBS_count 97 = .ok (.getfield 111, 3) := by decide +kernel
theorem dBS_count_100 : decode cBS_count 100 = .ok (.ireturn, 1) := by decide +kernel
theorem dBS_count_101 : decode cBS_count 101 = .ok (.aload_n 3, 1) := by decide +kernel
theorem dBS_count_102 : decode cBS_count 102 = .ok (.getfield 103, 3) := by decide +kernel
theorem dBS_count_105 : decode cBS_count 105 = .ok (.ireturn, 1) := by decide +kernel
theorem dBS_count_106 : decode cBS_count 106 = .ok (.aload_n 0, 1) := by decide +kernel
theorem dBS_count_107 : decode cBS_count 107 = .ok (.getfield 28, 3) := by decide +kernel
theorem dBS_count_110 : decode cBS_count 110 = .ok (.iload_n 1, 1) := by decide +kernel
theorem dBS_count_111 : decode cBS_count 111 = .ok (.aaload, 1) := by decide +kernel
theorem dBS_count_112 : decode cBS_count 112 = .ok (.invokevirtual 153, 3) := by decide +kernel
theorem dBS_count_115 : decode cBS_count 115 = .ok (.ifCond .eq 7, 3) := by decide +kernel
theorem dBS_count_118 : decode cBS_count 118 = .ok (.iconst 1, 1) := by decide +kernel
theorem dBS_count_119 : decode cBS_count 119 = .ok (.goto 4, 3) := by decide +kernel
theorem dBS_count_122 : decode cBS_count 122 = .ok (.iconst 0, 1) := by decide +kernel
theorem dBS_count_123 : decode cBS_count 123 = .ok (.ireturn, 1) := by decide +kernel
theorem dBS_count_124 : decode cBS_count 124 = .ok (.aload_n 0, 1) := by decide +kernel
theorem dBS_count_125 : decode cBS_count 125 = .ok (.getfield 28, 3) := by decide +kernel
theorem dBS_count_128 : decode cBS_count 128 = .ok (.iload_n 1, 1) := by decide +kernel
theorem dBS_count_129 : decode cBS_count 129 = .ok (.aaload, 1) := by decide +kernel
theorem dBS_count_130 : decode cBS_count 130 = .ok (.invokevirtual 153, 3) := by decide +kernel
theorem dBS_count_133 : decode cBS_count 133 = .ok (.ifCond .eq 19, 3) := by decide +kernel
theorem dBS_count_136 : decode cBS_count 136 = .ok (.aload_n 0, 1) := by decide +kernel
theorem dBS_count_137 : decode cBS_count 137 = .ok (.getfield 28, 3) := by decide +kernel
theorem dBS_count_140 : decode cBS_count 140 = .ok (.iload_n 1, 1) := by decide +kernel
theorem dBS_count_141 : decode cBS_count 141 = .ok (.aaload, 1) := by decide +kernel
theorem dBS_count_142 : decode cBS_count 142 = .ok (.aload_n 0, 1) := by decide +kernel
theorem dBS_count_143 : decode cBS_count 143 = .ok (.getfield 10, 3) := by decide +kernel
theorem dBS_count_146 : decode cBS_count 146 = .ok (.invokevirtual 157, 3) := by decide +kernel
theorem dBS_count_149 : decode cBS_count 149 = .ok (.goto 4, 3) := by decide +kernel
theorem dBS_count_152 : decode cBS_count 152 = .ok (.iconst (-1), 1) := by decide +kernel
theorem dBS_count_153 : decode cBS_count 153 = .ok (.ireturn, 1) := by decide +kernel
theorem dBS_count_154 : decode cBS_count 154 = .ok (.iconst (-1), 1) := by decide +kernel
theorem dBS_count_155 : decode cBS_count 155 = .ok (.ireturn, 1) := by decide +kernel
theorem dBS_isServer_0 : decode cBS_isServer 0 = .ok (.iload_n 0, 1) := by decide +kernel
theorem dBS_isServer_1 : decode cBS_isServer 1 = .ok (.ifCond .lt 12, 3) := by decide +kernel
theorem dBS_isServer_4 : decode cBS_isServer 4 = .ok (.iload_n 0, 1) := by decide +kernel
theorem dBS_isServer_5 : decode cBS_isServer 5 = .ok (.iconst 2, 1) := by decide +kernel
theorem dBS_isServer_6 : decode cBS_isServer 6 = .ok (.if_icmp .ge 7, 3) := by decide +kernel
theorem dBS_isServer_9 : decode cBS_isServer 9 = .ok (.iconst 1, 1) := by decide +kernel
theorem dBS_isServer_10 : decode cBS_isServer 10 = .ok (.goto 4, 3) := by decide +kernel
theorem dBS_isServer_13 : decode cBS_isServer 13 = .ok (.iconst 0, 1) := by decide +kernel
theorem dBS_isServer_14 : decode cBS_isServer 14 = .ok (.ireturn, 1) := by decide +kernel
theorem dSH_oldestHeld_0 : decode cSH_oldestHeld 0 = .ok (.iconst 0, 1) := by decide +kernel
theorem dSH_oldestHeld_1 : decode cSH_oldestHeld 1 = .ok (.aload_n 0, 1) := by decide +kernel
theorem dSH_oldestHeld_2 : decode cSH_oldestHeld 2 = .ok (.getfield 28, 3) := by decide +kernel
theorem dSH_oldestHeld_5 : decode cSH_oldestHeld 5 = .ok (.bipush 9, 2) := by decide +kernel
theorem dSH_oldestHeld_7 : decode cSH_oldestHeld 7 = .ok (.isub, 1) := by decide +kernel
theorem dSH_oldestHeld_8 : decode cSH_oldestHeld 8 = .ok (.iconst 1, 1) := by decide +kernel
theorem dSH_oldestHeld_9 : decode cSH_oldestHeld 9 = .ok (.iadd, 1) := by decide +kernel
theorem dSH_oldestHeld_10 : decode cSH_oldestHeld 10 = .ok (.invokestatic 41, 3) := by decide +kernel
theorem dSH_oldestHeld_13 : decode cSH_oldestHeld 13 = .ok (.ireturn, 1) := by decide +kernel
theorem dSH_openChanges_0 : decode cSH_openChanges 0 = .ok (.aload_n 0, 1) := by decide +kernel
theorem dSH_openChanges_1 : decode cSH_openChanges 1 = .ok (.aload_n 0, 1) := by decide +kernel
theorem dSH_openChanges_2 : decode cSH_openChanges 2 = .ok (.getfield 28, 3) := by decide +kernel
theorem dSH_openChanges_5 : decode cSH_openChanges 5 = .ok (.invokevirtual 31, 3) := by decide +kernel
theorem dSH_openChanges_8 : decode cSH_openChanges 8 = .ok (.astore_n 1, 1) := by decide +kernel
theorem dSH_openChanges_9 : decode cSH_openChanges 9 = .ok (.iconst 0, 1) := by decide +kernel
theorem dSH_openChanges_10 : decode cSH_openChanges 10 = .ok (.istore_n 2, 1) := by decide +kernel
theorem dSH_openChanges_11 : decode cSH_openChanges 11 = .ok (.iconst 0, 1) := by decide +kernel
theorem dSH_openChanges_12 : decode cSH_openChanges 12 = .ok (.istore_n 3, 1) := by decide +kernel
theorem dSH_openChanges_13 : decode cSH_openChanges 13 = .ok (.iload_n 3, 1) := by decide +kernel
theorem dSH_openChanges_14 : decode cSH_openChanges 14 = .ok (.sipush 256, 3) := by decide +kernel
theorem dSH_openChanges_17 : decode cSH_openChanges 17 = .ok (.if_icmp .ge 25, 3) := by decide +kernel
theorem dSH_openChanges_20 : decode cSH_openChanges 20 = .ok (.aload_n 0, 1) := by decide +kernel
theorem dSH_openChanges_21 : decode cSH_openChanges 21 = .ok (.getfield 16, 3) := by decide +kernel
theorem dSH_openChanges_24 : decode cSH_openChanges 24 = .ok (.iload_n 3, 1) := by decide +kernel
theorem dSH_openChanges_25 : decode cSH_openChanges 25 = .ok (.laload, 1) := by decide +kernel
theorem dSH_openChanges_26 : decode cSH_openChanges 26 = .ok (.aload_n 1, 1) := by decide +kernel
theorem dSH_openChanges_27 : decode cSH_openChanges 27 = .ok (.iload_n 3, 1) := by decide +kernel
theorem dSH_openChanges_28 : decode cSH_openChanges 28 = .ok (.laload, 1) := by decide +kernel
theorem dSH_openChanges_29 : decode cSH_openChanges 29 = .ok (.lcmp, 1) := by decide +kernel
theorem dSH_openChanges_30 : decode cSH_openChanges 30 = .ok (.ifCond .eq 6, 3) := by decide +kernel
theorem dSH_openChanges_33 : decode cSH_openChanges 33 = .ok (.iinc 2 1, 3) := by decide +kernel
theorem dSH_openChanges_36 : decode cSH_openChanges 36 = .ok (.iinc 3 1, 3) := by decide +kernel
theorem dSH_openChanges_39 : decode cSH_openChanges 39 = .ok (.goto (-26), 3) := by decide +kernel
theorem dSH_openChanges_42 : decode cSH_openChanges 42 = .ok (.iload_n 2, 1) := by decide +kernel
theorem dSH_openChanges_43 : decode cSH_openChanges 43 = .ok (.ireturn, 1) := by decide +kernel
theorem dSH_recordsOf_0 : decode cSH_recordsOf 0 = .ok (.aload_n 0, 1) := by decide +kernel
theorem dSH_recordsOf_1 : decode cSH_recordsOf 1 = .ok (.getfield 13, 3) := by decide +kernel
theorem dSH_recordsOf_4 : decode cSH_recordsOf 4 = .ok (.iload_n 1, 1) := by decide +kernel
theorem dSH_recordsOf_5 : decode cSH_recordsOf 5 = .ok (.bipush 9, 2) := by decide +kernel
theorem dSH_recordsOf_7 : decode cSH_recordsOf 7 = .ok (.invokestatic 50, 3) := by decide +kernel
theorem dSH_recordsOf_10 : decode cSH_recordsOf 10 = .ok (.aaload, 1) := by decide +kernel
theorem dSH_recordsOf_11 : decode cSH_recordsOf 11 = .ok (.areturn, 1) := by decide +kernel
theorem dKY_isGood_0 : decode cKY_isGood 0 = .ok (.iconst 0, 1) := by decide +kernel
theorem dKY_isGood_1 : decode cKY_isGood 1 = .ok (.istore_n 1, 1) := by decide +kernel
theorem dKY_isGood_2 : decode cKY_isGood 2 = .ok (.iload_n 1, 1) := by decide +kernel
theorem dKY_isGood_3 : decode cKY_isGood 3 = .ok (.bipush 8, 2) := by decide +kernel
theorem dKY_isGood_5 : decode cKY_isGood 5 = .ok (.if_icmp .ge 49, 3) := by decide +kernel
theorem dKY_isGood_8 : decode cKY_isGood 8 = .ok (.bipush 16, 2) := by decide +kernel
theorem dKY_isGood_10 : decode cKY_isGood 10 = .ok (.bipush 17, 2) := by decide +kernel
theorem dKY_isGood_12 : decode cKY_isGood 12 = .ok (.iload_n 1, 1) := by decide +kernel
theorem dKY_isGood_13 : decode cKY_isGood 13 = .ok (.imul, 1) := by decide +kernel
theorem dKY_isGood_14 : decode cKY_isGood 14 = .ok (.iadd, 1) := by decide +kernel
theorem dKY_isGood_15 : decode cKY_isGood 15 = .ok (.istore_n 2, 1) := by decide +kernel
theorem dKY_isGood_16 : decode cKY_isGood 16 = .ok (.aload_n 0, 1) := by decide +kernel
theorem dKY_isGood_17 : decode cKY_isGood 17 = .ok (.getfield 11, 3) := by decide +kernel
theorem dKY_isGood_20 : decode cKY_isGood 20 = .ok (.iload_n 2, 1) := by decide +kernel
theorem dKY_isGood_21 : decode cKY_isGood 21 = .ok (.bipush 15, 2) := by decide +kernel
theorem dKY_isGood_23 : decode cKY_isGood 23 = .ok (.iadd, 1) := by decide +kernel
theorem dKY_isGood_24 : decode cKY_isGood 24 = .ok (.iaload, 1) := by decide +kernel
theorem dKY_isGood_25 : decode cKY_isGood 25 = .ok (.iconst 1, 1) := by decide +kernel
theorem dKY_isGood_26 : decode cKY_isGood 26 = .ok (.iand, 1) := by decide +kernel
theorem dKY_isGood_27 : decode cKY_isGood 27 = .ok (.ifCond .ne 19, 3) := by decide +kernel
theorem dKY_isGood_30 : decode cKY_isGood 30 = .ok (.aload_n 0, 1) := by decide +kernel
theorem dKY_isGood_31 : decode cKY_isGood 31 = .ok (.getfield 11, 3) := by decide +kernel
theorem dKY_isGood_34 : decode cKY_isGood 34 = .ok (.iload_n 2, 1) := by decide +kernel
theorem dKY_isGood_35 : decode cKY_isGood 35 = .ok (.bipush 16, 2) := by decide +kernel
theorem dKY_isGood_37 : decode cKY_isGood 37 = .ok (.iadd, 1) := by decide +kernel
theorem dKY_isGood_38 : decode cKY_isGood 38 = .ok (.iaload, 1) := by decide +kernel
theorem dKY_isGood_39 : decode cKY_isGood 39 = .ok (.sipush 252, 3) := by decide +kernel
theorem dKY_isGood_42 : decode cKY_isGood 42 = .ok (.iand, 1) := by decide +kernel
theorem dKY_isGood_43 : decode cKY_isGood 43 = .ok (.ifCond .eq 5, 3) := by decide +kernel
theorem dKY_isGood_46 : decode cKY_isGood 46 = .ok (.iconst 0, 1) := by decide +kernel
theorem dKY_isGood_47 : decode cKY_isGood 47 = .ok (.ireturn, 1) := by decide +kernel
theorem dKY_isGood_48 : decode cKY_isGood 48 = .ok (.iinc 1 1, 3) := by decide +kernel
theorem dKY_isGood_51 : decode cKY_isGood 51 = .ok (.goto (-49), 3) := by decide +kernel
theorem dKY_isGood_54 : decode cKY_isGood 54 = .ok (.iconst 1, 1) := by decide +kernel
theorem dKY_isGood_55 : decode cKY_isGood 55 = .ok (.ireturn, 1) := by decide +kernel
theorem dKY_chosenPlaces_0 : decode cKY_chosenPlaces 0 = .ok (.iconst 0, 1) := by decide +kernel
theorem dKY_chosenPlaces_1 : decode cKY_chosenPlaces 1 = .ok (.istore_n 2, 1) := by decide +kernel
theorem dKY_chosenPlaces_2 : decode cKY_chosenPlaces 2 = .ok (.iconst 0, 1) := by decide +kernel
theorem dKY_chosenPlaces_3 : decode cKY_chosenPlaces 3 = .ok (.istore_n 3, 1) := by decide +kernel
theorem dKY_chosenPlaces_4 : decode cKY_chosenPlaces 4 = .ok (.iload_n 3, 1) := by decide +kernel
theorem dKY_chosenPlaces_5 : decode cKY_chosenPlaces 5 = .ok (.sipush 256, 3) := by decide +kernel
theorem dKY_chosenPlaces_8 : decode cKY_chosenPlaces 8 = .ok (.if_icmp .ge 28, 3) := by decide +kernel
theorem dKY_chosenPlaces_11 : decode cKY_chosenPlaces 11 = .ok (.aload_n 0, 1) := by decide +kernel
theorem dKY_chosenPlaces_12 : decode cKY_chosenPlaces 12 = .ok (.iload_n 3, 1) := by decide +kernel
theorem dKY_chosenPlaces_13 : decode cKY_chosenPlaces 13 = .ok (.aload_n 1, 1) := by decide +kernel
theorem dKY_chosenPlaces_14 : decode cKY_chosenPlaces 14 = .ok (.invokevirtual 36, 3) := by decide +kernel
theorem dKY_chosenPlaces_17 : decode cKY_chosenPlaces 17 = .ok (.iload_n 2, 1) := by decide +kernel
theorem dKY_chosenPlaces_18 : decode cKY_chosenPlaces 18 = .ok (.aload_n 0, 1) := by decide +kernel
theorem dKY_chosenPlaces_19 : decode cKY_chosenPlaces 19 = .ok (.getfield 22, 3) := by decide +kernel
theorem dKY_chosenPlaces_22 : decode cKY_chosenPlaces 22 = .ok (.sipush 256, 3) := by decide +kernel
theorem dKY_chosenPlaces_25 : decode cKY_chosenPlaces 25 = .ok (.iload_n 3, 1) := by decide +kernel
theorem dKY_chosenPlaces_26 : decode cKY_chosenPlaces 26 = .ok (.iadd, 1) := by decide +kernel
theorem dKY_chosenPlaces_27 : decode cKY_chosenPlaces 27 = .ok (.iaload, 1) := by decide +kernel
theorem dKY_chosenPlaces_28 : decode cKY_chosenPlaces 28 = .ok (.iadd, 1) := by decide +kernel
theorem dKY_chosenPlaces_29 : decode cKY_chosenPlaces 29 = .ok (.istore_n 2, 1) := by decide +kernel
theorem dKY_chosenPlaces_30 : decode cKY_chosenPlaces 30 = .ok (.iinc 3 1, 3) := by decide +kernel
theorem dKY_chosenPlaces_33 : decode cKY_chosenPlaces 33 = .ok (.goto (-29), 3) := by decide +kernel
theorem dKY_chosenPlaces_36 : decode cKY_chosenPlaces 36 = .ok (.iload_n 2, 1) := by decide +kernel
theorem dKY_chosenPlaces_37 : decode cKY_chosenPlaces 37 = .ok (.ireturn, 1) := by decide +kernel
theorem dKY_walkTo_0 : decode cKY_walkTo 0 = .ok (.iconst 0, 1) := by decide +kernel
theorem dKY_walkTo_1 : decode cKY_walkTo 1 = .ok (.istore_n 3, 1) := by decide +kernel
theorem dKY_walkTo_2 : decode cKY_walkTo 2 = .ok (.iload_n 3, 1) := by decide +kernel
theorem dKY_walkTo_3 : decode cKY_walkTo 3 = .ok (.bipush 8, 2) := by decide +kernel
theorem dKY_walkTo_5 : decode cKY_walkTo 5 = .ok (.if_icmp .ge 40, 3) := by decide +kernel
theorem dKY_walkTo_8 : decode cKY_walkTo 8 = .ok (.sipush 256, 3) := by decide +kernel
theorem dKY_walkTo_11 : decode cKY_walkTo 11 = .ok (.iload_n 1, 1) := by decide +kernel
theorem dKY_walkTo_12 : decode cKY_walkTo 12 = .ok (.iadd, 1) := by decide +kernel
theorem dKY_walkTo_13 : decode cKY_walkTo 13 = .ok (.bipush 7, 2) := by decide +kernel
theorem dKY_walkTo_15 : decode cKY_walkTo 15 = .ok (.iload_n 3, 1) := by decide +kernel
theorem dKY_walkTo_16 : decode cKY_walkTo 16 = .ok (.isub, 1) := by decide +kernel
theorem dKY_walkTo_17 : decode cKY_walkTo 17 = .ok (.ishr, 1) := by decide +kernel
theorem dKY_walkTo_18 : decode cKY_walkTo 18 = .ok (.istore 4, 2) := by decide +kernel
theorem dKY_walkTo_20 : decode cKY_walkTo 20 = .ok (.aload_n 0, 1) := by decide +kernel
theorem dKY_walkTo_21 : decode cKY_walkTo 21 = .ok (.getfield 22, 3) := by decide +kernel
theorem dKY_walkTo_24 : decode cKY_walkTo 24 = .ok (.iload 4, 2) := by decide +kernel
theorem dKY_walkTo_26 : decode cKY_walkTo 26 = .ok (.iaload, 1) := by decide +kernel
theorem dKY_walkTo_27 : decode cKY_walkTo 27 = .ok (.iconst (-1), 1) := by decide +kernel
theorem dKY_walkTo_28 : decode cKY_walkTo 28 = .ok (.if_icmp .ne 11, 3) := by decide +kernel
theorem dKY_walkTo_31 : decode cKY_walkTo 31 = .ok (.aload_n 0, 1) := by decide +kernel
theorem dKY_walkTo_32 : decode cKY_walkTo 32 = .ok (.iload_n 3, 1) := by decide +kernel
theorem dKY_walkTo_33 : decode cKY_walkTo 33 = .ok (.iload 4, 2) := by decide +kernel
theorem dKY_walkTo_35 : decode cKY_walkTo 35 = .ok (.aload_n 2, 1) := by decide +kernel
theorem dKY_walkTo_36 : decode cKY_walkTo 36 = .ok (.invokevirtual 44, 3) := by decide +kernel
theorem dKY_walkTo_39 : decode cKY_walkTo 39 = .ok (.iinc 3 1, 3) := by decide +kernel
theorem dKY_walkTo_42 : decode cKY_walkTo 42 = .ok (.goto (-40), 3) := by decide +kernel
theorem dKY_walkTo_45 : decode cKY_walkTo 45 = .ok (.return_, 1) := by decide +kernel
theorem dKY_step_0 : decode cKY_step 0 = .ok (.iload_n 2, 1) := by decide +kernel
theorem dKY_step_1 : decode cKY_step 1 = .ok (.iconst 1, 1) := by decide +kernel
theorem dKY_step_2 : decode cKY_step 2 = .ok (.ishr, 1) := by decide +kernel
theorem dKY_step_3 : decode cKY_step 3 = .ok (.istore 4, 2) := by decide +kernel
theorem dKY_step_5 : decode cKY_step 5 = .ok (.iload_n 2, 1) := by decide +kernel
theorem dKY_step_6 : decode cKY_step 6 = .ok (.iconst 1, 1) := by decide +kernel
theorem dKY_step_7 : decode cKY_step 7 = .ok (.iand, 1) := by decide +kernel
theorem dKY_step_8 : decode cKY_step 8 = .ok (.istore 5, 2) := by decide +kernel
theorem dKY_step_10 : decode cKY_step 10 = .ok (.aload_n 3, 1) := by decide +kernel
theorem dKY_step_11 : decode cKY_step 11 = .ok (.iload 5, 2) := by decide +kernel
theorem dKY_step_13 : decode cKY_step 13 = .ok (.aload_n 0, 1) := by decide +kernel
theorem dKY_step_14 : decode cKY_step 14 = .ok (.getfield 15, 3) := by decide +kernel
theorem dKY_step_17 : decode cKY_step 17 = .ok (.iload 4, 2) := by decide +kernel
theorem dKY_step_19 : decode cKY_step 19 = .ok (.laload, 1) := by decide +kernel
theorem dKY_step_20 : decode cKY_step 20 = .ok (.aload_n 0, 1) := by decide +kernel
theorem dKY_step_21 : decode cKY_step 21 = .ok (.getfield 19, 3) := by decide +kernel
theorem dKY_step_24 : decode cKY_step 24 = .ok (.iload 4, 2) := by decide +kernel
theorem dKY_step_26 : decode cKY_step 26 = .ok (.laload, 1) := by decide +kernel
theorem dKY_step_27 : decode cKY_step 27 = .ok (.invokevirtual 48, 3) := by decide +kernel
theorem dKY_step_30 : decode cKY_step 30 = .ok (.aload_n 3, 1) := by decide +kernel
theorem dKY_step_31 : decode cKY_step 31 = .ok (.getfield 54, 3) := by decide +kernel
theorem dKY_step_34 : decode cKY_step 34 = .ok (.lstore 6, 2) := by decide +kernel
theorem dKY_step_36 : decode cKY_step 36 = .ok (.aload_n 3, 1) := by decide +kernel
theorem dKY_step_37 : decode cKY_step 37 = .ok (.getfield 58, 3) := by decide +kernel
theorem dKY_step_40 : decode cKY_step 40 = .ok (.lstore 8, 2) := by decide +kernel
theorem dKY_step_42 : decode cKY_step 42 = .ok (.aload_n 3, 1) := by decide +kernel
theorem dKY_step_43 : decode cKY_step 43 = .ok (.getfield 61, 3) := by decide +kernel
theorem dKY_step_46 : decode cKY_step 46 = .ok (.istore 10, 2) := by decide +kernel
theorem dKY_step_48 : decode cKY_step 48 = .ok (.aload_n 0, 1) := by decide +kernel
theorem dKY_step_49 : decode cKY_step 49 = .ok (.getfield 22, 3) := by decide +kernel
theorem dKY_step_52 : decode cKY_step 52 = .ok (.iload 4, 2) := by decide +kernel
theorem dKY_step_54 : decode cKY_step 54 = .ok (.iaload, 1) := by decide +kernel
theorem dKY_step_55 : decode cKY_step 55 = .ok (.iconst 1, 1) := by decide +kernel
theorem dKY_step_56 : decode cKY_step 56 = .ok (.if_icmp .ne 57, 3) := by decide +kernel
theorem dKY_step_59 : decode cKY_step 59 = .ok (.bipush 16, 2) := by decide +kernel
theorem dKY_step_61 : decode cKY_step 61 = .ok (.bipush 17, 2) := by decide +kernel
theorem dKY_step_63 : decode cKY_step 63 = .ok (.iload_n 1, 1) := by decide +kernel
theorem dKY_step_64 : decode cKY_step 64 = .ok (.imul, 1) := by decide +kernel
theorem dKY_step_65 : decode cKY_step 65 = .ok (.iadd, 1) := by decide +kernel
theorem dKY_step_66 : decode cKY_step 66 = .ok (.istore 11, 2) := by decide +kernel
theorem dKY_step_68 : decode cKY_step 68 = .ok (.lload 6, 2) := by decide +kernel
theorem dKY_step_70 : decode cKY_step 70 = .ok (.aload_n 0, 1) := by decide +kernel
theorem dKY_step_71 : decode cKY_step 71 = .ok (.iload 11, 2) := by decide +kernel
theorem dKY_step_73 : decode cKY_step 73 = .ok (.invokevirtual 40, 3) := by decide +kernel
theorem dKY_step_76 : decode cKY_step 76 = .ok (.lxor, 1) := by decide +kernel
theorem dKY_step_77 : decode cKY_step 77 = .ok (.lstore 6, 2) := by decide +kernel
theorem dKY_step_79 : decode cKY_step 79 = .ok (.lload 8, 2) := by decide +kernel
theorem dKY_step_81 : decode cKY_step 81 = .ok (.aload_n 0, 1) := by decide +kernel
theorem dKY_step_82 : decode cKY_step 82 = .ok (.iload 11, 2) := by decide +kernel
theorem dKY_step_84 : decode cKY_step 84 = .ok (.bipush 8, 2) := by decide +kernel
theorem dKY_step_86 : decode cKY_step 86 = .ok (.iadd, 1) := by decide +kernel
theorem dKY_step_87 : decode cKY_step 87 = .ok (.invokevirtual 40, 3) := by decide +kernel
theorem dKY_step_90 : decode cKY_step 90 = .ok (.lxor, 1) := by decide +kernel
theorem dKY_step_91 : decode cKY_step 91 = .ok (.lstore 8, 2) := by decide +kernel
theorem dKY_step_93 : decode cKY_step 93 = .ok (.iload 10, 2) := by decide +kernel
theorem dKY_step_95 : decode cKY_step 95 = .ok (.aload_n 0, 1) := by decide +kernel
theorem dKY_step_96 : decode cKY_step 96 = .ok (.getfield 11, 3) := by decide +kernel
theorem dKY_step_99 : decode cKY_step 99 = .ok (.iload 11, 2) := by decide +kernel
theorem dKY_step_101 : decode cKY_step 101 = .ok (.bipush 16, 2) := by decide +kernel
theorem dKY_step_103 : decode cKY_step 103 = .ok (.iadd, 1) := by decide +kernel
theorem dKY_step_104 : decode cKY_step 104 = .ok (.iaload, 1) := by decide +kernel
theorem dKY_step_105 : decode cKY_step 105 = .ok (.iload 5, 2) := by decide +kernel
theorem dKY_step_107 : decode cKY_step 107 = .ok (.ishr, 1) := by decide +kernel
theorem dKY_step_108 : decode cKY_step 108 = .ok (.iconst 1, 1) := by decide +kernel
theorem dKY_step_109 : decode cKY_step 109 = .ok (.iand, 1) := by decide +kernel
theorem dKY_step_110 : decode cKY_step 110 = .ok (.ixor, 1) := by decide +kernel
theorem dKY_step_111 : decode cKY_step 111 = .ok (.istore 10, 2) := by decide +kernel
theorem dKY_step_113 : decode cKY_step 113 = .ok (.aload_n 0, 1) := by decide +kernel
theorem dKY_step_114 : decode cKY_step 114 = .ok (.getfield 15, 3) := by decide +kernel
theorem dKY_step_117 : decode cKY_step 117 = .ok (.iload_n 2, 1) := by decide +kernel
theorem dKY_step_118 : decode cKY_step 118 = .ok (.lload 6, 2) := by decide +kernel
theorem dKY_step_120 : decode cKY_step 120 = .ok (.lastore, 1) := by decide +kernel
theorem dKY_step_121 : decode cKY_step 121 = .ok (.aload_n 0, 1) := by decide +kernel
theorem dKY_step_122 : decode cKY_step 122 = .ok (.getfield 19, 3) := by decide +kernel
theorem dKY_step_125 : decode cKY_step 125 = .ok (.iload_n 2, 1) := by decide +kernel
theorem dKY_step_126 : decode cKY_step 126 = .ok (.lload 8, 2) := by decide +kernel
theorem dKY_step_128 : decode cKY_step 128 = .ok (.lastore, 1) := by decide +kernel
theorem dKY_step_129 : decode cKY_step 129 = .ok (.aload_n 0, 1) := by decide +kernel
theorem dKY_step_130 : decode cKY_step 130 = .ok (.getfield 22, 3) := by decide +kernel
theorem dKY_step_133 : decode cKY_step 133 = .ok (.iload_n 2, 1) := by decide +kernel
theorem dKY_step_134 : decode cKY_step 134 = .ok (.iload 10, 2) := by decide +kernel
theorem dKY_step_136 : decode cKY_step 136 = .ok (.iastore, 1) := by decide +kernel
theorem dKY_step_137 : decode cKY_step 137 = .ok (.return_, 1) := by decide +kernel
theorem dBC_half_0 : decode cBC_half 0 = .ok (.aload_n 0, 1) := by decide +kernel
theorem dBC_half_1 : decode cBC_half 1 = .ok (.iload_n 1, 1) := by decide +kernel
theorem dBC_half_2 : decode cBC_half 2 = .ok (.lload_n 2, 1) := by decide +kernel
theorem dBC_half_3 : decode cBC_half 3 = .ok (.lload 4, 2) := by decide +kernel
theorem dBC_half_5 : decode cBC_half 5 = .ok (.invokevirtual 28, 3) := by decide +kernel
theorem dBC_half_8 : decode cBC_half 8 = .ok (.aload_n 0, 1) := by decide +kernel
theorem dBC_half_9 : decode cBC_half 9 = .ok (.dup, 1) := by decide +kernel
theorem dBC_half_10 : decode cBC_half 10 = .ok (.getfield 32, 3) := by decide +kernel
theorem dBC_half_13 : decode cBC_half 13 = .ok (.lload_n 2, 1) := by decide +kernel
theorem dBC_half_14 : decode cBC_half 14 = .ok (.lxor, 1) := by decide +kernel
theorem dBC_half_15 : decode cBC_half 15 = .ok (.putfield 32, 3) := by decide +kernel
theorem dBC_half_18 : decode cBC_half 18 = .ok (.aload_n 0, 1) := by decide +kernel
theorem dBC_half_19 : decode cBC_half 19 = .ok (.dup, 1) := by decide +kernel
theorem dBC_half_20 : decode cBC_half 20 = .ok (.getfield 36, 3) := by decide +kernel
theorem dBC_half_23 : decode cBC_half 23 = .ok (.lload 4, 2) := by decide +kernel
theorem dBC_half_25 : decode cBC_half 25 = .ok (.lxor, 1) := by decide +kernel
theorem dBC_half_26 : decode cBC_half 26 = .ok (.putfield 36, 3) := by decide +kernel
theorem dBC_half_29 : decode cBC_half 29 = .ok (.aload_n 0, 1) := by decide +kernel
theorem dBC_half_30 : decode cBC_half 30 = .ok (.aload_n 0, 1) := by decide +kernel
theorem dBC_half_31 : decode cBC_half 31 = .ok (.getfield 36, 3) := by decide +kernel
theorem dBC_half_34 : decode cBC_half 34 = .ok (.l2i, 1) := by decide +kernel
theorem dBC_half_35 : decode cBC_half 35 = .ok (.iconst 1, 1) := by decide +kernel
theorem dBC_half_36 : decode cBC_half 36 = .ok (.iand, 1) := by decide +kernel
theorem dBC_half_37 : decode cBC_half 37 = .ok (.putfield 39, 3) := by decide +kernel
theorem dBC_half_40 : decode cBC_half 40 = .ok (.aload_n 0, 1) := by decide +kernel
theorem dBC_half_41 : decode cBC_half 41 = .ok (.dup, 1) := by decide +kernel
theorem dBC_half_42 : decode cBC_half 42 = .ok (.getfield 36, 3) := by decide +kernel
theorem dBC_half_45 : decode cBC_half 45 = .ok (.aload_n 0, 1) := by decide +kernel
theorem dBC_half_46 : decode cBC_half 46 = .ok (.getfield 39, 3) := by decide +kernel
theorem dBC_half_49 : decode cBC_half 49 = .ok (.i2l, 1) := by decide +kernel
theorem dBC_half_50 : decode cBC_half 50 = .ok (.lxor, 1) := by decide +kernel
theorem dBC_half_51 : decode cBC_half 51 = .ok (.putfield 36, 3) := by decide +kernel
theorem dBC_half_54 : decode cBC_half 54 = .ok (.return_, 1) := by decide +kernel
theorem dBC_encipher_0 : decode cBC_encipher 0 = .ok (.aload_n 0, 1) := by decide +kernel
theorem dBC_encipher_1 : decode cBC_encipher 1 = .ok (.getfield 18, 3) := by decide +kernel
theorem dBC_encipher_4 : decode cBC_encipher 4 = .ok (.iload_n 1, 1) := by decide +kernel
theorem dBC_encipher_5 : decode cBC_encipher 5 = .ok (.aaload, 1) := by decide +kernel
theorem dBC_encipher_6 : decode cBC_encipher 6 = .ok (.astore 6, 2) := by decide +kernel
theorem dBC_encipher_8 : decode cBC_encipher 8 = .ok (.lload_n 2, 1) := by decide +kernel
theorem dBC_encipher_9 : decode cBC_encipher 9 = .ok (.bipush 32, 2) := by decide +kernel
theorem dBC_encipher_11 : decode cBC_encipher 11 = .ok (.lushr, 1) := by decide +kernel
theorem dBC_encipher_12 : decode cBC_encipher 12 = .ok (.l2i, 1) := by decide +kernel
theorem dBC_encipher_13 : decode cBC_encipher 13 = .ok (.aload 6, 2) := by decide +kernel
theorem dBC_encipher_15 : decode cBC_encipher 15 = .ok (.iconst 0, 1) := by decide +kernel
theorem dBC_encipher_16 : decode cBC_encipher 16 = .ok (.iaload, 1) := by decide +kernel
theorem dBC_encipher_17 : decode cBC_encipher 17 = .ok (.ixor, 1) := by decide +kernel
theorem dBC_encipher_18 : decode cBC_encipher 18 = .ok (.istore 7, 2) := by decide +kernel
theorem dBC_encipher_20 : decode cBC_encipher 20 = .ok (.lload_n 2, 1) := by decide +kernel
theorem dBC_encipher_21 : decode cBC_encipher 21 = .ok (.l2i, 1) := by decide +kernel
theorem dBC_encipher_22 : decode cBC_encipher 22 = .ok (.aload 6, 2) := by decide +kernel
theorem dBC_encipher_24 : decode cBC_encipher 24 = .ok (.iconst 1, 1) := by decide +kernel
theorem dBC_encipher_25 : decode cBC_encipher 25 = .ok (.iaload, 1) := by decide +kernel
theorem dBC_encipher_26 : decode cBC_encipher 26 = .ok (.ixor, 1) := by decide +kernel
theorem dBC_encipher_27 : decode cBC_encipher 27 = .ok (.istore 8, 2) := by decide +kernel
theorem dBC_encipher_29 : decode cBC_encipher 29 = .ok (.lload 4, 2) := by decide +kernel
theorem dBC_encipher_31 : decode cBC_encipher 31 = .ok (.bipush 32, 2) := by decide +kernel
theorem dBC_encipher_33 : decode cBC_encipher 33 = .ok (.lushr, 1) := by decide +kernel
theorem dBC_encipher_34 : decode cBC_encipher 34 = .ok (.l2i, 1) := by decide +kernel
theorem dBC_encipher_35 : decode cBC_encipher 35 = .ok (.aload 6, 2) := by decide +kernel
theorem dBC_encipher_37 : decode cBC_encipher 37 = .ok (.iconst 2, 1) := by decide +kernel
theorem dBC_encipher_38 : decode cBC_encipher 38 = .ok (.iaload, 1) := by decide +kernel
theorem dBC_encipher_39 : decode cBC_encipher 39 = .ok (.ixor, 1) := by decide +kernel
theorem dBC_encipher_40 : decode cBC_encipher 40 = .ok (.istore 9, 2) := by decide +kernel
theorem dBC_encipher_42 : decode cBC_encipher 42 = .ok (.lload 4, 2) := by decide +kernel
theorem dBC_encipher_44 : decode cBC_encipher 44 = .ok (.l2i, 1) := by decide +kernel
theorem dBC_encipher_45 : decode cBC_encipher 45 = .ok (.aload 6, 2) := by decide +kernel
theorem dBC_encipher_47 : decode cBC_encipher 47 = .ok (.iconst 3, 1) := by decide +kernel
theorem dBC_encipher_48 : decode cBC_encipher 48 = .ok (.iaload, 1) := by decide +kernel
theorem dBC_encipher_49 : decode cBC_encipher 49 = .ok (.ixor, 1) := by decide +kernel
theorem dBC_encipher_50 : decode cBC_encipher 50 = .ok (.istore 10, 2) := by decide +kernel
theorem dBC_encipher_52 : decode cBC_encipher 52 = .ok (.iconst 1, 1) := by decide +kernel
theorem dBC_encipher_53 : decode cBC_encipher 53 = .ok (.istore 11, 2) := by decide +kernel
theorem dBC_encipher_55 : decode cBC_encipher 55 = .ok (.iload 11, 2) := by decide +kernel
theorem dBC_encipher_57 : decode cBC_encipher 57 = .ok (.bipush 10, 2) := by decide +kernel
theorem dBC_encipher_59 : decode cBC_encipher 59 = .ok (.if_icmp .ge 119, 3) := by decide +kernel
theorem dBC_encipher_62 : decode cBC_encipher 62 = .ok (.aload_n 0, 1) := by decide +kernel
theorem dBC_encipher_63 : decode cBC_encipher 63 = .ok (.iload 7, 2) := by decide +kernel
theorem dBC_encipher_65 : decode cBC_encipher 65 = .ok (.iload 8, 2) := by decide +kernel
theorem dBC_encipher_67 : decode cBC_encipher 67 = .ok (.iload 9, 2) := by decide +kernel
theorem dBC_encipher_69 : decode cBC_encipher 69 = .ok (.iload 10, 2) := by decide +kernel
theorem dBC_encipher_71 : decode cBC_encipher 71 = .ok (.invokevirtual 43, 3) := by decide +kernel
theorem dBC_encipher_74 : decode cBC_encipher 74 = .ok (.aload 6, 2) := by decide +kernel
theorem dBC_encipher_76 : decode cBC_encipher 76 = .ok (.iconst 4, 1) := by decide +kernel
theorem dBC_encipher_77 : decode cBC_encipher 77 = .ok (.iload 11, 2) := by decide +kernel
theorem dBC_encipher_79 : decode cBC_encipher 79 = .ok (.imul, 1) := by decide +kernel
theorem dBC_encipher_80 : decode cBC_encipher 80 = .ok (.iaload, 1) := by decide +kernel
theorem dBC_encipher_81 : decode cBC_encipher 81 = .ok (.ixor, 1) := by decide +kernel
theorem dBC_encipher_82 : decode cBC_encipher 82 = .ok (.istore 12, 2) := by decide +kernel
theorem dBC_encipher_84 : decode cBC_encipher 84 = .ok (.aload_n 0, 1) := by decide +kernel
theorem dBC_encipher_85 : decode cBC_encipher 85 = .ok (.iload 8, 2) := by decide +kernel
theorem dBC_encipher_87 : decode cBC_encipher 87 = .ok (.iload 9, 2) := by decide +kernel
theorem dBC_encipher_89 : decode cBC_encipher 89 = .ok (.iload 10, 2) := by decide +kernel
theorem dBC_encipher_91 : decode cBC_encipher 91 = .ok (.iload 7, 2) := by decide +kernel
theorem dBC_encipher_93 : decode cBC_encipher 93 = .ok (.invokevirtual 43, 3) := by decide +kernel
theorem dBC_encipher_96 : decode cBC_encipher 96 = .ok (.aload 6, 2) := by decide +kernel
theorem dBC_encipher_98 : decode cBC_encipher 98 = .ok (.iconst 4, 1) := by decide +kernel
theorem dBC_encipher_99 : decode cBC_encipher 99 = .ok (.iload 11, 2) := by decide +kernel
theorem dBC_encipher_101 : decode cBC_encipher 101 = .ok (.imul, 1) := by decide +kernel
theorem dBC_encipher_102 : decode cBC_encipher 102 = .ok (.iconst 1, 1) := by decide +kernel
theorem dBC_encipher_103 : decode cBC_encipher 103 = .ok (.iadd, 1) := by decide +kernel
theorem dBC_encipher_104 : decode cBC_encipher 104 = .ok (.iaload, 1) := by decide +kernel
theorem dBC_encipher_105 : decode cBC_encipher 105 = .ok (.ixor, 1) := by decide +kernel
theorem dBC_encipher_106 : decode cBC_encipher 106 = .ok (.istore 13, 2) := by decide +kernel
theorem dBC_encipher_108 : decode cBC_encipher 108 = .ok (.aload_n 0, 1) := by decide +kernel
theorem dBC_encipher_109 : decode cBC_encipher 109 = .ok (.iload 9, 2) := by decide +kernel
theorem dBC_encipher_111 : decode cBC_encipher 111 = .ok (.iload 10, 2) := by decide +kernel
theorem dBC_encipher_113 : decode cBC_encipher 113 = .ok (.iload 7, 2) := by decide +kernel
theorem dBC_encipher_115 : decode cBC_encipher 115 = .ok (.iload 8, 2) := by decide +kernel
theorem dBC_encipher_117 : decode cBC_encipher 117 = .ok (.invokevirtual 43, 3) := by decide +kernel
theorem dBC_encipher_120 : decode cBC_encipher 120 = .ok (.aload 6, 2) := by decide +kernel
theorem dBC_encipher_122 : decode cBC_encipher 122 = .ok (.iconst 4, 1) := by decide +kernel
theorem dBC_encipher_123 : decode cBC_encipher 123 = .ok (.iload 11, 2) := by decide +kernel
theorem dBC_encipher_125 : decode cBC_encipher 125 = .ok (.imul, 1) := by decide +kernel
theorem dBC_encipher_126 : decode cBC_encipher 126 = .ok (.iconst 2, 1) := by decide +kernel
theorem dBC_encipher_127 : decode cBC_encipher 127 = .ok (.iadd, 1) := by decide +kernel
theorem dBC_encipher_128 : decode cBC_encipher 128 = .ok (.iaload, 1) := by decide +kernel
theorem dBC_encipher_129 : decode cBC_encipher 129 = .ok (.ixor, 1) := by decide +kernel
theorem dBC_encipher_130 : decode cBC_encipher 130 = .ok (.istore 14, 2) := by decide +kernel
theorem dBC_encipher_132 : decode cBC_encipher 132 = .ok (.aload_n 0, 1) := by decide +kernel
theorem dBC_encipher_133 : decode cBC_encipher 133 = .ok (.iload 10, 2) := by decide +kernel
theorem dBC_encipher_135 : decode cBC_encipher 135 = .ok (.iload 7, 2) := by decide +kernel
theorem dBC_encipher_137 : decode cBC_encipher 137 = .ok (.iload 8, 2) := by decide +kernel
theorem dBC_encipher_139 : decode cBC_encipher 139 = .ok (.iload 9, 2) := by decide +kernel
theorem dBC_encipher_141 : decode cBC_encipher 141 = .ok (.invokevirtual 43, 3) := by decide +kernel
theorem dBC_encipher_144 : decode cBC_encipher 144 = .ok (.aload 6, 2) := by decide +kernel
theorem dBC_encipher_146 : decode cBC_encipher 146 = .ok (.iconst 4, 1) := by decide +kernel
theorem dBC_encipher_147 : decode cBC_encipher 147 = .ok (.iload 11, 2) := by decide +kernel
theorem dBC_encipher_149 : decode cBC_encipher 149 = .ok (.imul, 1) := by decide +kernel
theorem dBC_encipher_150 : decode cBC_encipher 150 = .ok (.iconst 3, 1) := by decide +kernel
theorem dBC_encipher_151 : decode cBC_encipher 151 = .ok (.iadd, 1) := by decide +kernel
theorem dBC_encipher_152 : decode cBC_encipher 152 = .ok (.iaload, 1) := by decide +kernel
theorem dBC_encipher_153 : decode cBC_encipher 153 = .ok (.ixor, 1) := by decide +kernel
theorem dBC_encipher_154 : decode cBC_encipher 154 = .ok (.istore 15, 2) := by decide +kernel
theorem dBC_encipher_156 : decode cBC_encipher 156 = .ok (.iload 12, 2) := by decide +kernel
theorem dBC_encipher_158 : decode cBC_encipher 158 = .ok (.istore 7, 2) := by decide +kernel
theorem dBC_encipher_160 : decode cBC_encipher 160 = .ok (.iload 13, 2) := by decide +kernel
theorem dBC_encipher_162 : decode cBC_encipher 162 = .ok (.istore 8, 2) := by decide +kernel
theorem dBC_encipher_164 : decode cBC_encipher 164 = .ok (.iload 14, 2) := by decide +kernel
theorem dBC_encipher_166 : decode cBC_encipher 166 = .ok (.istore 9, 2) := by decide +kernel
theorem dBC_encipher_168 : decode cBC_encipher 168 = .ok (.iload 15, 2) := by decide +kernel
theorem dBC_encipher_170 : decode cBC_encipher 170 = .ok (.istore 10, 2) := by decide +kernel
theorem dBC_encipher_172 : decode cBC_encipher 172 = .ok (.iinc 11 1, 3) := by decide +kernel
theorem dBC_encipher_175 : decode cBC_encipher 175 = .ok (.goto (-120), 3) := by decide +kernel
theorem dBC_encipher_178 : decode cBC_encipher 178 = .ok (.aload_n 0, 1) := by decide +kernel
theorem dBC_encipher_179 : decode cBC_encipher 179 = .ok (.aload_n 0, 1) := by decide +kernel
theorem dBC_encipher_180 : decode cBC_encipher 180 = .ok (.iload 7, 2) := by decide +kernel
theorem dBC_encipher_182 : decode cBC_encipher 182 = .ok (.iload 8, 2) := by decide +kernel
theorem dBC_encipher_184 : decode cBC_encipher 184 = .ok (.iload 9, 2) := by decide +kernel
theorem dBC_encipher_186 : decode cBC_encipher 186 = .ok (.iload 10, 2) := by decide +kernel
theorem dBC_encipher_188 : decode cBC_encipher 188 = .ok (.invokevirtual 47, 3) := by decide +kernel
theorem dBC_encipher_191 : decode cBC_encipher 191 = .ok (.aload 6, 2) := by decide +kernel
theorem dBC_encipher_193 : decode cBC_encipher 193 = .ok (.bipush 40, 2) := by decide +kernel
theorem dBC_encipher_195 : decode cBC_encipher 195 = .ok (.iaload, 1) := by decide +kernel
theorem dBC_encipher_196 : decode cBC_encipher 196 = .ok (.ixor, 1) := by decide +kernel
theorem dBC_encipher_197 : decode cBC_encipher 197 = .ok (.aload_n 0, 1) := by decide +kernel
theorem dBC_encipher_198 : decode cBC_encipher 198 = .ok (.iload 8, 2) := by decide +kernel
theorem dBC_encipher_200 : decode cBC_encipher 200 = .ok (.iload 9, 2) := by decide +kernel
theorem dBC_encipher_202 : decode cBC_encipher 202 = .ok (.iload 10, 2) := by decide +kernel
theorem dBC_encipher_204 : decode cBC_encipher 204 = .ok (.iload 7, 2) := by decide +kernel
theorem dBC_encipher_206 : decode cBC_encipher 206 = .ok (.invokevirtual 47, 3) := by decide +kernel
theorem dBC_encipher_209 : decode cBC_encipher 209 = .ok (.aload 6, 2) := by decide +kernel
theorem dBC_encipher_211 : decode cBC_encipher 211 = .ok (.bipush 41, 2) := by decide +kernel
theorem dBC_encipher_213 : decode cBC_encipher 213 = .ok (.iaload, 1) := by decide +kernel
theorem dBC_encipher_214 : decode cBC_encipher 214 = .ok (.ixor, 1) := by decide +kernel
theorem dBC_encipher_215 : decode cBC_encipher 215 = .ok (.invokestatic 50, 3) := by decide +kernel
theorem dBC_encipher_218 : decode cBC_encipher 218 = .ok (.putfield 32, 3) := by decide +kernel
theorem dBC_encipher_221 : decode cBC_encipher 221 = .ok (.aload_n 0, 1) := by decide +kernel
theorem dBC_encipher_222 : decode cBC_encipher 222 = .ok (.aload_n 0, 1) := by decide +kernel
theorem dBC_encipher_223 : decode cBC_encipher 223 = .ok (.iload 9, 2) := by decide +kernel
theorem dBC_encipher_225 : decode cBC_encipher 225 = .ok (.iload 10, 2) := by decide +kernel
theorem dBC_encipher_227 : decode cBC_encipher 227 = .ok (.iload 7, 2) := by decide +kernel
theorem dBC_encipher_229 : decode cBC_encipher 229 = .ok (.iload 8, 2) := by decide +kernel
theorem dBC_encipher_231 : decode cBC_encipher 231 = .ok (.invokevirtual 47, 3) := by decide +kernel
theorem dBC_encipher_234 : decode cBC_encipher 234 = .ok (.aload 6, 2) := by decide +kernel
theorem dBC_encipher_236 : decode cBC_encipher 236 = .ok (.bipush 42, 2) := by decide +kernel
theorem dBC_encipher_238 : decode cBC_encipher 238 = .ok (.iaload, 1) := by decide +kernel
theorem dBC_encipher_239 : decode cBC_encipher 239 = .ok (.ixor, 1) := by decide +kernel
theorem dBC_encipher_240 : decode cBC_encipher 240 = .ok (.aload_n 0, 1) := by decide +kernel
theorem dBC_encipher_241 : decode cBC_encipher 241 = .ok (.iload 10, 2) := by decide +kernel
theorem dBC_encipher_243 : decode cBC_encipher 243 = .ok (.iload 7, 2) := by decide +kernel
theorem dBC_encipher_245 : decode cBC_encipher 245 = .ok (.iload 8, 2) := by decide +kernel
theorem dBC_encipher_247 : decode cBC_encipher 247 = .ok (.iload 9, 2) := by decide +kernel
theorem dBC_encipher_249 : decode cBC_encipher 249 = .ok (.invokevirtual 47, 3) := by decide +kernel
theorem dBC_encipher_252 : decode cBC_encipher 252 = .ok (.aload 6, 2) := by decide +kernel
theorem dBC_encipher_254 : decode cBC_encipher 254 = .ok (.bipush 43, 2) := by decide +kernel
theorem dBC_encipher_256 : decode cBC_encipher 256 = .ok (.iaload, 1) := by decide +kernel
theorem dBC_encipher_257 : decode cBC_encipher 257 = .ok (.ixor, 1) := by decide +kernel
theorem dBC_encipher_258 : decode cBC_encipher 258 = .ok (.invokestatic 50, 3) := by decide +kernel
theorem dBC_encipher_261 : decode cBC_encipher 261 = .ok (.putfield 36, 3) := by decide +kernel
theorem dBC_encipher_264 : decode cBC_encipher 264 = .ok (.return_, 1) := by decide +kernel
theorem dBC_mixed_0 : decode cBC_mixed 0 = .ok (.aload_n 0, 1) := by decide +kernel
theorem dBC_mixed_1 : decode cBC_mixed 1 = .ok (.getfield 13, 3) := by decide +kernel
theorem dBC_mixed_4 : decode cBC_mixed 4 = .ok (.iload_n 2, 1) := by decide +kernel
theorem dBC_mixed_5 : decode cBC_mixed 5 = .ok (.bipush 16, 2) := by decide +kernel
theorem dBC_mixed_7 : decode cBC_mixed 7 = .ok (.iushr, 1) := by decide +kernel
theorem dBC_mixed_8 : decode cBC_mixed 8 = .ok (.sipush 255, 3) := by decide +kernel
theorem dBC_mixed_11 : decode cBC_mixed 11 = .ok (.iand, 1) := by decide +kernel
theorem dBC_mixed_12 : decode cBC_mixed 12 = .ok (.iaload, 1) := by decide +kernel
theorem dBC_mixed_13 : decode cBC_mixed 13 = .ok (.istore 5, 2) := by decide +kernel
theorem dBC_mixed_15 : decode cBC_mixed 15 = .ok (.aload_n 0, 1) := by decide +kernel
theorem dBC_mixed_16 : decode cBC_mixed 16 = .ok (.getfield 13, 3) := by decide +kernel
theorem dBC_mixed_19 : decode cBC_mixed 19 = .ok (.iload_n 3, 1) := by decide +kernel
theorem dBC_mixed_20 : decode cBC_mixed 20 = .ok (.bipush 8, 2) := by decide +kernel
theorem dBC_mixed_22 : decode cBC_mixed 22 = .ok (.iushr, 1) := by decide +kernel
theorem dBC_mixed_23 : decode cBC_mixed 23 = .ok (.sipush 255, 3) := by decide +kernel
theorem dBC_mixed_26 : decode cBC_mixed 26 = .ok (.iand, 1) := by decide +kernel
theorem dBC_mixed_27 : decode cBC_mixed 27 = .ok (.iaload, 1) := by decide +kernel
theorem dBC_mixed_28 : decode cBC_mixed 28 = .ok (.istore 6, 2) := by decide +kernel
theorem dBC_mixed_30 : decode cBC_mixed 30 = .ok (.aload_n 0, 1) := by decide +kernel
theorem dBC_mixed_31 : decode cBC_mixed 31 = .ok (.getfield 13, 3) := by decide +kernel
theorem dBC_mixed_34 : decode cBC_mixed 34 = .ok (.iload 4, 2) := by decide +kernel
theorem dBC_mixed_36 : decode cBC_mixed 36 = .ok (.sipush 255, 3) := by decide +kernel
theorem dBC_mixed_39 : decode cBC_mixed 39 = .ok (.iand, 1) := by decide +kernel
theorem dBC_mixed_40 : decode cBC_mixed 40 = .ok (.iaload, 1) := by decide +kernel
theorem dBC_mixed_41 : decode cBC_mixed 41 = .ok (.istore 7, 2) := by decide +kernel
theorem dBC_mixed_43 : decode cBC_mixed 43 = .ok (.aload_n 0, 1) := by decide +kernel
theorem dBC_mixed_44 : decode cBC_mixed 44 = .ok (.getfield 13, 3) := by decide +kernel
theorem dBC_mixed_47 : decode cBC_mixed 47 = .ok (.iload_n 1, 1) := by decide +kernel
theorem dBC_mixed_48 : decode cBC_mixed 48 = .ok (.bipush 24, 2) := by decide +kernel
theorem dBC_mixed_50 : decode cBC_mixed 50 = .ok (.iushr, 1) := by decide +kernel
theorem dBC_mixed_51 : decode cBC_mixed 51 = .ok (.iaload, 1) := by decide +kernel
theorem dBC_mixed_52 : decode cBC_mixed 52 = .ok (.iload 5, 2) := by decide +kernel
theorem dBC_mixed_54 : decode cBC_mixed 54 = .ok (.bipush 8, 2) := by decide +kernel
theorem dBC_mixed_56 : decode cBC_mixed 56 = .ok (.iushr, 1) := by decide +kernel
theorem dBC_mixed_57 : decode cBC_mixed 57 = .ok (.iload 5, 2) := by decide +kernel
theorem dBC_mixed_59 : decode cBC_mixed 59 = .ok (.bipush 24, 2) := by decide +kernel
theorem dBC_mixed_61 : decode cBC_mixed 61 = .ok (.ishl, 1) := by decide +kernel
theorem dBC_mixed_62 : decode cBC_mixed 62 = .ok (.ior, 1) := by decide +kernel
theorem dBC_mixed_63 : decode cBC_mixed 63 = .ok (.ixor, 1) := by decide +kernel
theorem dBC_mixed_64 : decode cBC_mixed 64 = .ok (.iload 6, 2) := by decide +kernel
theorem dBC_mixed_66 : decode cBC_mixed 66 = .ok (.bipush 16, 2) := by decide +kernel
theorem dBC_mixed_68 : decode cBC_mixed 68 = .ok (.iushr, 1) := by decide +kernel
theorem dBC_mixed_69 : decode cBC_mixed 69 = .ok (.iload 6, 2) := by decide +kernel
theorem dBC_mixed_71 : decode cBC_mixed 71 = .ok (.bipush 16, 2) := by decide +kernel
theorem dBC_mixed_73 : decode cBC_mixed 73 = .ok (.ishl, 1) := by decide +kernel
theorem dBC_mixed_74 : decode cBC_mixed 74 = .ok (.ior, 1) := by decide +kernel
theorem dBC_mixed_75 : decode cBC_mixed 75 = .ok (.ixor, 1) := by decide +kernel
theorem dBC_mixed_76 : decode cBC_mixed 76 = .ok (.iload 7, 2) := by decide +kernel
theorem dBC_mixed_78 : decode cBC_mixed 78 = .ok (.bipush 24, 2) := by decide +kernel
theorem dBC_mixed_80 : decode cBC_mixed 80 = .ok (.iushr, 1) := by decide +kernel
theorem dBC_mixed_81 : decode cBC_mixed 81 = .ok (.iload 7, 2) := by decide +kernel
theorem dBC_mixed_83 : decode cBC_mixed 83 = .ok (.bipush 8, 2) := by decide +kernel
theorem dBC_mixed_85 : decode cBC_mixed 85 = .ok (.ishl, 1) := by decide +kernel
theorem dBC_mixed_86 : decode cBC_mixed 86 = .ok (.ior, 1) := by decide +kernel
theorem dBC_mixed_87 : decode cBC_mixed 87 = .ok (.ixor, 1) := by decide +kernel
theorem dBC_mixed_88 : decode cBC_mixed 88 = .ok (.ireturn, 1) := by decide +kernel
theorem dBC_joined_0 : decode cBC_joined 0 = .ok (.iload_n 0, 1) := by decide +kernel
theorem dBC_joined_1 : decode cBC_joined 1 = .ok (.i2l, 1) := by decide +kernel
theorem dBC_joined_2 : decode cBC_joined 2 = .ok (.bipush 32, 2) := by decide +kernel
theorem dBC_joined_4 : decode cBC_joined 4 = .ok (.lshl, 1) := by decide +kernel
theorem dBC_joined_5 : decode cBC_joined 5 = .ok (.iload_n 1, 1) := by decide +kernel
theorem dBC_joined_6 : decode cBC_joined 6 = .ok (.i2l, 1) := by decide +kernel
theorem dBC_joined_7 : decode cBC_joined 7 = .ok (.ldc2_w 54, 3) := by decide +kernel
theorem dBC_joined_10 : decode cBC_joined 10 = .ok (.land, 1) := by decide +kernel
theorem dBC_joined_11 : decode cBC_joined 11 = .ok (.lor, 1) := by decide +kernel
theorem dBC_joined_12 : decode cBC_joined 12 = .ok (.lreturn, 1) := by decide +kernel
theorem dBS_put_0 : decode cBS_put 0 = .ok (.iload_n 1, 1) := by decide +kernel
theorem dBS_put_1 : decode cBS_put 1 = .ok (.invokestatic 39, 3) := by decide +kernel
theorem dBS_put_4 : decode cBS_put 4 = .ok (.iload_n 2, 1) := by decide +kernel
theorem dBS_put_5 : decode cBS_put 5 = .ok (.invokestatic 42, 3) := by decide +kernel
theorem dBS_put_8 : decode cBS_put 8 = .ok (.aload_n 0, 1) := by decide +kernel
theorem dBS_put_9 : decode cBS_put 9 = .ok (.getfield 35, 3) := by decide +kernel
theorem dBS_put_12 : decode cBS_put 12 = .ok (.iload_n 1, 1) := by decide +kernel
theorem dBS_put_13 : decode cBS_put 13 = .ok (.aaload, 1) := by decide +kernel
theorem dBS_put_14 : decode cBS_put 14 = .ok (.getfield 45, 3) := by decide +kernel
theorem dBS_put_17 : decode cBS_put 17 = .ok (.iload_n 2, 1) := by decide +kernel
theorem dBS_put_18 : decode cBS_put 18 = .ok (.lload_n 3, 1) := by decide +kernel
theorem dBS_put_19 : decode cBS_put 19 = .ok (.invokevirtual 49, 3) := by decide +kernel
theorem dBS_put_22 : decode cBS_put 22 = .ok (.return_, 1) := by decide +kernel
theorem dBS_requireServer_0 : decode cBS_requireServer 0 = .ok (.iload_n 0, 1) := by decide +kernel
theorem dBS_requireServer_1 : decode cBS_requireServer 1 = .ok (.invokestatic 137, 3) := by decide +kernel
theorem dBS_requireServer_4 : decode cBS_requireServer 4 = .ok (.ifCond .ne 13, 3) := by decide +kernel
theorem dBS_requireServer_7 : decode cBS_requireServer 7 = .ok (.new 120, 3) := by decide +kernel
theorem dBS_requireServer_10 : decode cBS_requireServer 10 = .ok (.dup, 1) := by decide +kernel
theorem dBS_requireServer_11 : decode cBS_requireServer 11 = .ok (.ldc 161, 2) := by decide +kernel
theorem dBS_requireServer_13 : decode cBS_requireServer 13 = .ok (.invokespecial 124, 3) := by decide +kernel
theorem dBS_requireServer_16 : decode cBS_requireServer 16 = .ok (.athrow, 1) := by decide +kernel
theorem dBS_requireServer_17 : decode cBS_requireServer 17 = .ok (.return_, 1) := by decide +kernel
theorem dBS_requirePlace_0 : decode cBS_requirePlace 0 = .ok (.iload_n 0, 1) := by decide +kernel
theorem dBS_requirePlace_1 : decode cBS_requirePlace 1 = .ok (.invokestatic 163, 3) := by decide +kernel
theorem dBS_requirePlace_4 : decode cBS_requirePlace 4 = .ok (.ifCond .ne 13, 3) := by decide +kernel
theorem dBS_requirePlace_7 : decode cBS_requirePlace 7 = .ok (.new 120, 3) := by decide +kernel
theorem dBS_requirePlace_10 : decode cBS_requirePlace 10 = .ok (.dup, 1) := by decide +kernel
theorem dBS_requirePlace_11 : decode cBS_requirePlace 11 = .ok (.ldc 166, 2) := by decide +kernel
theorem dBS_requirePlace_13 : decode cBS_requirePlace 13 = .ok (.invokespecial 124, 3) := by decide +kernel
theorem dBS_requirePlace_16 : decode cBS_requirePlace 16 = .ok (.athrow, 1) := by decide +kernel
theorem dBS_requirePlace_17 : decode cBS_requirePlace 17 = .ok (.return_, 1) := by decide +kernel
theorem dBS_isPlace_0 : decode cBS_isPlace 0 = .ok (.iload_n 0, 1) := by decide +kernel
theorem dBS_isPlace_1 : decode cBS_isPlace 1 = .ok (.ifCond .lt 14, 3) := by decide +kernel
theorem dBS_isPlace_4 : decode cBS_isPlace 4 = .ok (.iload_n 0, 1) := by decide +kernel
theorem dBS_isPlace_5 : decode cBS_isPlace 5 = .ok (.sipush 256, 3) := by decide +kernel
theorem dBS_isPlace_8 : decode cBS_isPlace 8 = .ok (.if_icmp .ge 7, 3) := by decide +kernel
theorem dBS_isPlace_11 : decode cBS_isPlace 11 = .ok (.iconst 1, 1) := by decide +kernel
theorem dBS_isPlace_12 : decode cBS_isPlace 12 = .ok (.goto 4, 3) := by decide +kernel
theorem dBS_isPlace_15 : decode cBS_isPlace 15 = .ok (.iconst 0, 1) := by decide +kernel
theorem dBS_isPlace_16 : decode cBS_isPlace 16 = .ok (.ireturn, 1) := by decide +kernel
theorem dSH_change_0 : decode cSH_change 0 = .ok (.aload_n 0, 1) := by decide +kernel
theorem dSH_change_1 : decode cSH_change 1 = .ok (.getfield 16, 3) := by decide +kernel
theorem dSH_change_4 : decode cSH_change 4 = .ok (.iload_n 1, 1) := by decide +kernel
theorem dSH_change_5 : decode cSH_change 5 = .ok (.lload_n 2, 1) := by decide +kernel
theorem dSH_change_6 : decode cSH_change 6 = .ok (.lastore, 1) := by decide +kernel
theorem dSH_change_7 : decode cSH_change 7 = .ok (.return_, 1) := by decide +kernel
theorem dBS_close_0 : decode cBS_close 0 = .ok (.iload_n 1, 1) := by decide +kernel
theorem dBS_close_1 : decode cBS_close 1 = .ok (.invokestatic 39, 3) := by decide +kernel
theorem dBS_close_4 : decode cBS_close 4 = .ok (.aload_n 0, 1) := by decide +kernel
theorem dBS_close_5 : decode cBS_close 5 = .ok (.getfield 35, 3) := by decide +kernel
theorem dBS_close_8 : decode cBS_close 8 = .ok (.iload_n 1, 1) := by decide +kernel
theorem dBS_close_9 : decode cBS_close 9 = .ok (.aaload, 1) := by decide +kernel
theorem dBS_close_10 : decode cBS_close 10 = .ok (.getfield 45, 3) := by decide +kernel
theorem dBS_close_13 : decode cBS_close 13 = .ok (.invokevirtual 55, 3) := by decide +kernel
theorem dBS_close_16 : decode cBS_close 16 = .ok (.ireturn, 1) := by decide +kernel
theorem dSH_closeBatch_0 : decode cSH_closeBatch 0 = .ok (.aload_n 0, 1) := by decide +kernel
theorem dSH_closeBatch_1 : decode cSH_closeBatch 1 = .ok (.aload_n 0, 1) := by decide +kernel
theorem dSH_closeBatch_2 : decode cSH_closeBatch 2 = .ok (.invokevirtual 20, 3) := by decide +kernel
theorem dSH_closeBatch_5 : decode cSH_closeBatch 5 = .ok (.putfield 24, 3) := by decide +kernel
theorem dSH_closeBatch_8 : decode cSH_closeBatch 8 = .ok (.aload_n 0, 1) := by decide +kernel
theorem dSH_closeBatch_9 : decode cSH_closeBatch 9 = .ok (.dup, 1) := by decide +kernel
theorem dSH_closeBatch_10 : decode cSH_closeBatch 10 = .ok (.getfield 28, 3) := by decide +kernel
theorem dSH_closeBatch_13 : decode cSH_closeBatch 13 = .ok (.iconst 1, 1) := by decide +kernel
theorem dSH_closeBatch_14 : decode cSH_closeBatch 14 = .ok (.iadd, 1) := by decide +kernel
theorem dSH_closeBatch_15 : decode cSH_closeBatch 15 = .ok (.putfield 28, 3) := by decide +kernel
theorem dSH_closeBatch_18 : decode cSH_closeBatch 18 = .ok (.aload_n 0, 1) := by decide +kernel
theorem dSH_closeBatch_19 : decode cSH_closeBatch 19 = .ok (.getfield 16, 3) := by decide +kernel
theorem dSH_closeBatch_22 : decode cSH_closeBatch 22 = .ok (.iconst 0, 1) := by decide +kernel
theorem dSH_closeBatch_23 : decode cSH_closeBatch 23 = .ok (.aload_n 0, 1) := by decide +kernel
theorem dSH_closeBatch_24 : decode cSH_closeBatch 24 = .ok (.aload_n 0, 1) := by decide +kernel
theorem dSH_closeBatch_25 : decode cSH_closeBatch 25 = .ok (.getfield 28, 3) := by decide +kernel
theorem dSH_closeBatch_28 : decode cSH_closeBatch 28 = .ok (.invokevirtual 31, 3) := by decide +kernel
theorem dSH_closeBatch_31 : decode cSH_closeBatch 31 = .ok (.iconst 0, 1) := by decide +kernel
theorem dSH_closeBatch_32 : decode cSH_closeBatch 32 = .ok (.sipush 256, 3) := by decide +kernel
theorem dSH_closeBatch_35 : decode cSH_closeBatch 35 = .ok (.invokestatic 35, 3) := by decide +kernel
theorem dSH_closeBatch_38 : decode cSH_closeBatch 38 = .ok (.aload_n 0, 1) := by decide +kernel
theorem dSH_closeBatch_39 : decode cSH_closeBatch 39 = .ok (.getfield 28, 3) := by decide +kernel
theorem dSH_closeBatch_42 : decode cSH_closeBatch 42 = .ok (.ireturn, 1) := by decide +kernel
theorem dBS_makeKeys_0 : decode cBS_makeKeys 0 = .ok (.iload_n 1, 1) := by decide +kernel
theorem dBS_makeKeys_1 : decode cBS_makeKeys 1 = .ok (.invokestatic 42, 3) := by decide +kernel
theorem dBS_makeKeys_4 : decode cBS_makeKeys 4 = .ok (.aload_n 0, 1) := by decide +kernel
theorem dBS_makeKeys_5 : decode cBS_makeKeys 5 = .ok (.getfield 28, 3) := by decide +kernel
theorem dBS_makeKeys_8 : decode cBS_makeKeys 8 = .ok (.iconst 0, 1) := by decide +kernel
theorem dBS_makeKeys_9 : decode cBS_makeKeys 9 = .ok (.aaload, 1) := by decide +kernel
theorem dBS_makeKeys_10 : decode cBS_makeKeys 10 = .ok (.lload_n 2, 1) := by decide +kernel
theorem dBS_makeKeys_11 : decode cBS_makeKeys 11 = .ok (.lload 4, 2) := by decide +kernel
theorem dBS_makeKeys_13 : decode cBS_makeKeys 13 = .ok (.invokevirtual 59, 3) := by decide +kernel
theorem dBS_makeKeys_16 : decode cBS_makeKeys 16 = .ok (.aload_n 0, 1) := by decide +kernel
theorem dBS_makeKeys_17 : decode cBS_makeKeys 17 = .ok (.getfield 28, 3) := by decide +kernel
theorem dBS_makeKeys_20 : decode cBS_makeKeys 20 = .ok (.iconst 1, 1) := by decide +kernel
theorem dBS_makeKeys_21 : decode cBS_makeKeys 21 = .ok (.aaload, 1) := by decide +kernel
theorem dBS_makeKeys_22 : decode cBS_makeKeys 22 = .ok (.lload 6, 2) := by decide +kernel
theorem dBS_makeKeys_24 : decode cBS_makeKeys 24 = .ok (.lload 8, 2) := by decide +kernel
theorem dBS_makeKeys_26 : decode cBS_makeKeys 26 = .ok (.invokevirtual 59, 3) := by decide +kernel
theorem dBS_makeKeys_29 : decode cBS_makeKeys 29 = .ok (.aload_n 0, 1) := by decide +kernel
theorem dBS_makeKeys_30 : decode cBS_makeKeys 30 = .ok (.getfield 19, 3) := by decide +kernel
theorem dBS_makeKeys_33 : decode cBS_makeKeys 33 = .ok (.aload_n 0, 1) := by decide +kernel
theorem dBS_makeKeys_34 : decode cBS_makeKeys 34 = .ok (.getfield 28, 3) := by decide +kernel
theorem dBS_makeKeys_37 : decode cBS_makeKeys 37 = .ok (.iload_n 1, 1) := by decide +kernel
theorem dBS_makeKeys_38 : decode cBS_makeKeys 38 = .ok (.lload 10, 2) := by decide +kernel
theorem dBS_makeKeys_40 : decode cBS_makeKeys 40 = .ok (.aload_n 0, 1) := by decide +kernel
theorem dBS_makeKeys_41 : decode cBS_makeKeys 41 = .ok (.getfield 10, 3) := by decide +kernel
theorem dBS_makeKeys_44 : decode cBS_makeKeys 44 = .ok (.invokevirtual 63, 3) := by decide +kernel
theorem dBS_makeKeys_47 : decode cBS_makeKeys 47 = .ok (.return_, 1) := by decide +kernel
theorem dKY_setRoot_0 : decode cKY_setRoot 0 = .ok (.aload_n 0, 1) := by decide +kernel
theorem dKY_setRoot_1 : decode cKY_setRoot 1 = .ok (.iconst 0, 1) := by decide +kernel
theorem dKY_setRoot_2 : decode cKY_setRoot 2 = .ok (.lload_n 1, 1) := by decide +kernel
theorem dKY_setRoot_3 : decode cKY_setRoot 3 = .ok (.invokevirtual 32, 3) := by decide +kernel
theorem dKY_setRoot_6 : decode cKY_setRoot 6 = .ok (.aload_n 0, 1) := by decide +kernel
theorem dKY_setRoot_7 : decode cKY_setRoot 7 = .ok (.bipush 8, 2) := by decide +kernel
theorem dKY_setRoot_9 : decode cKY_setRoot 9 = .ok (.lload_n 3, 1) := by decide +kernel
theorem dKY_setRoot_10 : decode cKY_setRoot 10 = .ok (.invokevirtual 32, 3) := by decide +kernel
theorem dKY_setRoot_13 : decode cKY_setRoot 13 = .ok (.return_, 1) := by decide +kernel
theorem dKY_writeHalf_0 : decode cKY_writeHalf 0 = .ok (.iconst 0, 1) := by decide +kernel
theorem dKY_writeHalf_1 : decode cKY_writeHalf 1 = .ok (.istore 4, 2) := by decide +kernel
theorem dKY_writeHalf_3 : decode cKY_writeHalf 3 = .ok (.iload 4, 2) := by decide +kernel
theorem dKY_writeHalf_5 : decode cKY_writeHalf 5 = .ok (.bipush 8, 2) := by decide +kernel
theorem dKY_writeHalf_7 : decode cKY_writeHalf 7 = .ok (.if_icmp .ge 33, 3) := by decide +kernel
theorem dKY_writeHalf_10 : decode cKY_writeHalf 10 = .ok (.aload_n 0, 1) := by decide +kernel
theorem dKY_writeHalf_11 : decode cKY_writeHalf 11 = .ok (.getfield 11, 3) := by decide +kernel
theorem dKY_writeHalf_14 : decode cKY_writeHalf 14 = .ok (.iload_n 1, 1) := by decide +kernel
theorem dKY_writeHalf_15 : decode cKY_writeHalf 15 = .ok (.iload 4, 2) := by decide +kernel
theorem dKY_writeHalf_17 : decode cKY_writeHalf 17 = .ok (.iadd, 1) := by decide +kernel
theorem dKY_writeHalf_18 : decode cKY_writeHalf 18 = .ok (.lload_n 2, 1) := by decide +kernel
theorem dKY_writeHalf_19 : decode cKY_writeHalf 19 = .ok (.bipush 56, 2) := by decide +kernel
theorem dKY_writeHalf_21 : decode cKY_writeHalf 21 = .ok (.bipush 8, 2) := by decide +kernel
theorem dKY_writeHalf_23 : decode cKY_writeHalf 23 = .ok (.iload 4, 2) := by decide +kernel
theorem dKY_writeHalf_25 : decode cKY_writeHalf 25 = .ok (.imul, 1) := by decide +kernel
theorem dKY_writeHalf_26 : decode cKY_writeHalf 26 = .ok (.isub, 1) := by decide +kernel
theorem dKY_writeHalf_27 : decode cKY_writeHalf 27 = .ok (.lushr, 1) := by decide +kernel
theorem dKY_writeHalf_28 : decode cKY_writeHalf 28 = .ok (.l2i, 1) := by decide +kernel
theorem dKY_writeHalf_29 : decode cKY_writeHalf 29 = .ok (.sipush 255, 3) := by decide +kernel
theorem dKY_writeHalf_32 : decode cKY_writeHalf 32 = .ok (.iand, 1) := by decide +kernel
theorem dKY_writeHalf_33 : decode cKY_writeHalf 33 = .ok (.iastore, 1) := by decide +kernel
theorem dKY_writeHalf_34 : decode cKY_writeHalf 34 = .ok (.iinc 4 1, 3) := by decide +kernel
theorem dKY_writeHalf_37 : decode cKY_writeHalf 37 = .ok (.goto (-34), 3) := by decide +kernel
theorem dKY_writeHalf_40 : decode cKY_writeHalf 40 = .ok (.return_, 1) := by decide +kernel
theorem dKM_make_0 : decode cKM_make 0 = .ok (.iconst 0, 1) := by decide +kernel
theorem dKM_make_1 : decode cKM_make 1 = .ok (.istore 6, 2) := by decide +kernel
theorem dKM_make_3 : decode cKM_make 3 = .ok (.iload 6, 2) := by decide +kernel
theorem dKM_make_5 : decode cKM_make 5 = .ok (.iconst 2, 1) := by decide +kernel
theorem dKM_make_6 : decode cKM_make 6 = .ok (.if_icmp .ge 49, 3) := by decide +kernel
theorem dKM_make_9 : decode cKM_make 9 = .ok (.aload_n 0, 1) := by decide +kernel
theorem dKM_make_10 : decode cKM_make 10 = .ok (.getfield 7, 3) := by decide +kernel
theorem dKM_make_13 : decode cKM_make 13 = .ok (.iload 6, 2) := by decide +kernel
theorem dKM_make_15 : decode cKM_make 15 = .ok (.aload_n 1, 1) := by decide +kernel
theorem dKM_make_16 : decode cKM_make 16 = .ok (.iload 6, 2) := by decide +kernel
theorem dKM_make_18 : decode cKM_make 18 = .ok (.aaload, 1) := by decide +kernel
theorem dKM_make_19 : decode cKM_make 19 = .ok (.iconst 0, 1) := by decide +kernel
theorem dKM_make_20 : decode cKM_make 20 = .ok (.invokevirtual 23, 3) := by decide +kernel
theorem dKM_make_23 : decode cKM_make 23 = .ok (.lastore, 1) := by decide +kernel
theorem dKM_make_24 : decode cKM_make 24 = .ok (.aload_n 0, 1) := by decide +kernel
theorem dKM_make_25 : decode cKM_make 25 = .ok (.getfield 13, 3) := by decide +kernel
theorem dKM_make_28 : decode cKM_make 28 = .ok (.iload 6, 2) := by decide +kernel
theorem dKM_make_30 : decode cKM_make 30 = .ok (.aload_n 1, 1) := by decide +kernel
theorem dKM_make_31 : decode cKM_make 31 = .ok (.iload 6, 2) := by decide +kernel
theorem dKM_make_33 : decode cKM_make 33 = .ok (.aaload, 1) := by decide +kernel
theorem dKM_make_34 : decode cKM_make 34 = .ok (.bipush 8, 2) := by decide +kernel
theorem dKM_make_36 : decode cKM_make 36 = .ok (.invokevirtual 23, 3) := by decide +kernel
theorem dKM_make_39 : decode cKM_make 39 = .ok (.lastore, 1) := by decide +kernel
theorem dKM_make_40 : decode cKM_make 40 = .ok (.aload_n 0, 1) := by decide +kernel
theorem dKM_make_41 : decode cKM_make 41 = .ok (.getfield 16, 3) := by decide +kernel
theorem dKM_make_44 : decode cKM_make 44 = .ok (.iload 6, 2) := by decide +kernel
theorem dKM_make_46 : decode cKM_make 46 = .ok (.iload 6, 2) := by decide +kernel
theorem dKM_make_48 : decode cKM_make 48 = .ok (.iastore, 1) := by decide +kernel
theorem dKM_make_49 : decode cKM_make 49 = .ok (.iinc 6 1, 3) := by decide +kernel
theorem dKM_make_52 : decode cKM_make 52 = .ok (.goto (-49), 3) := by decide +kernel
theorem dKM_make_55 : decode cKM_make 55 = .ok (.iconst 0, 1) := by decide +kernel
theorem dKM_make_56 : decode cKM_make 56 = .ok (.istore 6, 2) := by decide +kernel
theorem dKM_make_58 : decode cKM_make 58 = .ok (.iload 6, 2) := by decide +kernel
theorem dKM_make_60 : decode cKM_make 60 = .ok (.bipush 8, 2) := by decide +kernel
theorem dKM_make_62 : decode cKM_make 62 = .ok (.if_icmp .ge 74, 3) := by decide +kernel
theorem dKM_make_65 : decode cKM_make 65 = .ok (.iload_n 2, 1) := by decide +kernel
theorem dKM_make_66 : decode cKM_make 66 = .ok (.bipush 7, 2) := by decide +kernel
theorem dKM_make_68 : decode cKM_make 68 = .ok (.iload 6, 2) := by decide +kernel
theorem dKM_make_70 : decode cKM_make 70 = .ok (.isub, 1) := by decide +kernel
theorem dKM_make_71 : decode cKM_make 71 = .ok (.ishr, 1) := by decide +kernel
theorem dKM_make_72 : decode cKM_make 72 = .ok (.iconst 1, 1) := by decide +kernel
theorem dKM_make_73 : decode cKM_make 73 = .ok (.iand, 1) := by decide +kernel
theorem dKM_make_74 : decode cKM_make 74 = .ok (.istore 7, 2) := by decide +kernel
theorem dKM_make_76 : decode cKM_make 76 = .ok (.aload_n 0, 1) := by decide +kernel
theorem dKM_make_77 : decode cKM_make 77 = .ok (.iload 7, 2) := by decide +kernel
theorem dKM_make_79 : decode cKM_make 79 = .ok (.aload 5, 2) := by decide +kernel
theorem dKM_make_81 : decode cKM_make 81 = .ok (.invokevirtual 29, 3) := by decide +kernel
theorem dKM_make_84 : decode cKM_make 84 = .ok (.aload_n 1, 1) := by decide +kernel
theorem dKM_make_85 : decode cKM_make 85 = .ok (.iconst 0, 1) := by decide +kernel
theorem dKM_make_86 : decode cKM_make 86 = .ok (.aaload, 1) := by decide +kernel
theorem dKM_make_87 : decode cKM_make 87 = .ok (.iload 6, 2) := by decide +kernel
theorem dKM_make_89 : decode cKM_make 89 = .ok (.aload_n 0, 1) := by decide +kernel
theorem dKM_make_90 : decode cKM_make 90 = .ok (.getfield 33, 3) := by decide +kernel
theorem dKM_make_93 : decode cKM_make 93 = .ok (.aload_n 0, 1) := by decide +kernel
theorem dKM_make_94 : decode cKM_make 94 = .ok (.getfield 37, 3) := by decide +kernel
theorem dKM_make_97 : decode cKM_make 97 = .ok (.aload_n 0, 1) := by decide +kernel
theorem dKM_make_98 : decode cKM_make 98 = .ok (.getfield 40, 3) := by decide +kernel
theorem dKM_make_101 : decode cKM_make 101 = .ok (.invokevirtual 44, 3) := by decide +kernel
theorem dKM_make_104 : decode cKM_make 104 = .ok (.aload_n 1, 1) := by decide +kernel
theorem dKM_make_105 : decode cKM_make 105 = .ok (.iconst 1, 1) := by decide +kernel
theorem dKM_make_106 : decode cKM_make 106 = .ok (.aaload, 1) := by decide +kernel
theorem dKM_make_107 : decode cKM_make 107 = .ok (.iload 6, 2) := by decide +kernel
theorem dKM_make_109 : decode cKM_make 109 = .ok (.aload_n 0, 1) := by decide +kernel
theorem dKM_make_110 : decode cKM_make 110 = .ok (.getfield 33, 3) := by decide +kernel
theorem dKM_make_113 : decode cKM_make 113 = .ok (.aload_n 0, 1) := by decide +kernel
theorem dKM_make_114 : decode cKM_make 114 = .ok (.getfield 37, 3) := by decide +kernel
theorem dKM_make_117 : decode cKM_make 117 = .ok (.aload_n 0, 1) := by decide +kernel
theorem dKM_make_118 : decode cKM_make 118 = .ok (.getfield 40, 3) := by decide +kernel
theorem dKM_make_121 : decode cKM_make 121 = .ok (.invokevirtual 44, 3) := by decide +kernel
theorem dKM_make_124 : decode cKM_make 124 = .ok (.aload_n 0, 1) := by decide +kernel
theorem dKM_make_125 : decode cKM_make 125 = .ok (.iload 7, 2) := by decide +kernel
theorem dKM_make_127 : decode cKM_make 127 = .ok (.invokevirtual 48, 3) := by decide +kernel
theorem dKM_make_130 : decode cKM_make 130 = .ok (.iinc 6 1, 3) := by decide +kernel
theorem dKM_make_133 : decode cKM_make 133 = .ok (.goto (-75), 3) := by decide +kernel
theorem dKM_make_136 : decode cKM_make 136 = .ok (.lload_n 3, 1) := by decide +kernel
theorem dKM_make_137 : decode cKM_make 137 = .ok (.aload_n 0, 1) := by decide +kernel
theorem dKM_make_138 : decode cKM_make 138 = .ok (.getfield 7, 3) := by decide +kernel
theorem dKM_make_141 : decode cKM_make 141 = .ok (.iconst 0, 1) := by decide +kernel
theorem dKM_make_142 : decode cKM_make 142 = .ok (.laload, 1) := by decide +kernel
theorem dKM_make_143 : decode cKM_make 143 = .ok (.lxor, 1) := by decide +kernel
theorem dKM_make_144 : decode cKM_make 144 = .ok (.aload_n 0, 1) := by decide +kernel
theorem dKM_make_145 : decode cKM_make 145 = .ok (.getfield 7, 3) := by decide +kernel
theorem dKM_make_148 : decode cKM_make 148 = .ok (.iconst 1, 1) := by decide +kernel
theorem dKM_make_149 : decode cKM_make 149 = .ok (.laload, 1) := by decide +kernel
theorem dKM_make_150 : decode cKM_make 150 = .ok (.lxor, 1) := by decide +kernel
theorem dKM_make_151 : decode cKM_make 151 = .ok (.lstore 6, 2) := by decide +kernel
theorem dKM_make_153 : decode cKM_make 153 = .ok (.iconst 0, 1) := by decide +kernel
theorem dKM_make_154 : decode cKM_make 154 = .ok (.istore 8, 2) := by decide +kernel
theorem dKM_make_156 : decode cKM_make 156 = .ok (.iload 8, 2) := by decide +kernel
theorem dKM_make_158 : decode cKM_make 158 = .ok (.iconst 2, 1) := by decide +kernel
theorem dKM_make_159 : decode cKM_make 159 = .ok (.if_icmp .ge 25, 3) := by decide +kernel
theorem dKM_make_162 : decode cKM_make 162 = .ok (.aload_n 1, 1) := by decide +kernel
theorem dKM_make_163 : decode cKM_make 163 = .ok (.iload 8, 2) := by decide +kernel
theorem dKM_make_165 : decode cKM_make 165 = .ok (.aaload, 1) := by decide +kernel
theorem dKM_make_166 : decode cKM_make 166 = .ok (.lload 6, 2) := by decide +kernel
theorem dKM_make_168 : decode cKM_make 168 = .ok (.invokevirtual 52, 3) := by decide +kernel
theorem dKM_make_171 : decode cKM_make 171 = .ok (.aload_n 1, 1) := by decide +kernel
theorem dKM_make_172 : decode cKM_make 172 = .ok (.iload 8, 2) := by decide +kernel
theorem dKM_make_174 : decode cKM_make 174 = .ok (.aaload, 1) := by decide +kernel
theorem dKM_make_175 : decode cKM_make 175 = .ok (.invokevirtual 56, 3) := by decide +kernel
theorem dKM_make_178 : decode cKM_make 178 = .ok (.iinc 8 1, 3) := by decide +kernel
theorem dKM_make_181 : decode cKM_make 181 = .ok (.goto (-25), 3) := by decide +kernel
theorem dKM_make_184 : decode cKM_make 184 = .ok (.return_, 1) := by decide +kernel
theorem dKM_takeHalves_0 : decode cKM_takeHalves 0 = .ok (.iconst 1, 1) := by decide +kernel
theorem dKM_takeHalves_1 : decode cKM_takeHalves 1 = .ok (.iload_n 1, 1) := by decide +kernel
theorem dKM_takeHalves_2 : decode cKM_takeHalves 2 = .ok (.isub, 1) := by decide +kernel
theorem dKM_takeHalves_3 : decode cKM_takeHalves 3 = .ok (.istore_n 3, 1) := by decide +kernel
theorem dKM_takeHalves_4 : decode cKM_takeHalves 4 = .ok (.aload_n 0, 1) := by decide +kernel
theorem dKM_takeHalves_5 : decode cKM_takeHalves 5 = .ok (.lconst 0, 1) := by decide +kernel
theorem dKM_takeHalves_6 : decode cKM_takeHalves 6 = .ok (.putfield 33, 3) := by decide +kernel
theorem dKM_takeHalves_9 : decode cKM_takeHalves 9 = .ok (.aload_n 0, 1) := by decide +kernel
theorem dKM_takeHalves_10 : decode cKM_takeHalves 10 = .ok (.lconst 0, 1) := by decide +kernel
theorem dKM_takeHalves_11 : decode cKM_takeHalves 11 = .ok (.putfield 37, 3) := by decide +kernel
theorem dKM_takeHalves_14 : decode cKM_takeHalves 14 = .ok (.aload_n 0, 1) := by decide +kernel
theorem dKM_takeHalves_15 : decode cKM_takeHalves 15 = .ok (.iconst 1, 1) := by decide +kernel
theorem dKM_takeHalves_16 : decode cKM_takeHalves 16 = .ok (.iload_n 1, 1) := by decide +kernel
theorem dKM_takeHalves_17 : decode cKM_takeHalves 17 = .ok (.ishl, 1) := by decide +kernel
theorem dKM_takeHalves_18 : decode cKM_takeHalves 18 = .ok (.putfield 40, 3) := by decide +kernel
theorem dKM_takeHalves_21 : decode cKM_takeHalves 21 = .ok (.iconst 0, 1) := by decide +kernel
theorem dKM_takeHalves_22 : decode cKM_takeHalves 22 = .ok (.istore 4, 2) := by decide +kernel
theorem dKM_takeHalves_24 : decode cKM_takeHalves 24 = .ok (.iload 4, 2) := by decide +kernel
theorem dKM_takeHalves_26 : decode cKM_takeHalves 26 = .ok (.iconst 2, 1) := by decide +kernel
theorem dKM_takeHalves_27 : decode cKM_takeHalves 27 = .ok (.if_icmp .ge 136, 3) := by decide +kernel
theorem dKM_takeHalves_30 : decode cKM_takeHalves 30 = .ok (.aload_n 2, 1) := by decide +kernel
theorem dKM_takeHalves_31 : decode cKM_takeHalves 31 = .ok (.iload_n 3, 1) := by decide +kernel
theorem dKM_takeHalves_32 : decode cKM_takeHalves 32 = .ok (.aload_n 0, 1) := by decide +kernel
theorem dKM_takeHalves_33 : decode cKM_takeHalves 33 = .ok (.getfield 7, 3) := by decide +kernel
theorem dKM_takeHalves_36 : decode cKM_takeHalves 36 = .ok (.iload 4, 2) := by decide +kernel
theorem dKM_takeHalves_38 : decode cKM_takeHalves 38 = .ok (.laload, 1) := by decide +kernel
theorem dKM_takeHalves_39 : decode cKM_takeHalves 39 = .ok (.aload_n 0, 1) := by decide +kernel
theorem dKM_takeHalves_40 : decode cKM_takeHalves 40 = .ok (.getfield 13, 3) := by decide +kernel
theorem dKM_takeHalves_43 : decode cKM_takeHalves 43 = .ok (.iload 4, 2) := by decide +kernel
theorem dKM_takeHalves_45 : decode cKM_takeHalves 45 = .ok (.laload, 1) := by decide +kernel
theorem dKM_takeHalves_46 : decode cKM_takeHalves 46 = .ok (.invokevirtual 59, 3) := by decide +kernel
theorem dKM_takeHalves_49 : decode cKM_takeHalves 49 = .ok (.aload_n 0, 1) := by decide +kernel
theorem dKM_takeHalves_50 : decode cKM_takeHalves 50 = .ok (.dup, 1) := by decide +kernel
theorem dKM_takeHalves_51 : decode cKM_takeHalves 51 = .ok (.getfield 33, 3) := by decide +kernel
theorem dKM_takeHalves_54 : decode cKM_takeHalves 54 = .ok (.aload_n 2, 1) := by decide +kernel
theorem dKM_takeHalves_55 : decode cKM_takeHalves 55 = .ok (.getfield 65, 3) := by decide +kernel
theorem dKM_takeHalves_58 : decode cKM_takeHalves 58 = .ok (.lxor, 1) := by decide +kernel
theorem dKM_takeHalves_59 : decode cKM_takeHalves 59 = .ok (.putfield 33, 3) := by decide +kernel
theorem dKM_takeHalves_62 : decode cKM_takeHalves 62 = .ok (.aload_n 0, 1) := by decide +kernel
theorem dKM_takeHalves_63 : decode cKM_takeHalves 63 = .ok (.dup, 1) := by decide +kernel
theorem dKM_takeHalves_64 : decode cKM_takeHalves 64 = .ok (.getfield 37, 3) := by decide +kernel
theorem dKM_takeHalves_67 : decode cKM_takeHalves 67 = .ok (.aload_n 2, 1) := by decide +kernel
theorem dKM_takeHalves_68 : decode cKM_takeHalves 68 = .ok (.getfield 68, 3) := by decide +kernel
theorem dKM_takeHalves_71 : decode cKM_takeHalves 71 = .ok (.lxor, 1) := by decide +kernel
theorem dKM_takeHalves_72 : decode cKM_takeHalves 72 = .ok (.putfield 37, 3) := by decide +kernel
theorem dKM_takeHalves_75 : decode cKM_takeHalves 75 = .ok (.aload_n 0, 1) := by decide +kernel
theorem dKM_takeHalves_76 : decode cKM_takeHalves 76 = .ok (.dup, 1) := by decide +kernel
theorem dKM_takeHalves_77 : decode cKM_takeHalves 77 = .ok (.getfield 40, 3) := by decide +kernel
theorem dKM_takeHalves_80 : decode cKM_takeHalves 80 = .ok (.aload_n 2, 1) := by decide +kernel
theorem dKM_takeHalves_81 : decode cKM_takeHalves 81 = .ok (.getfield 71, 3) := by decide +kernel
theorem dKM_takeHalves_84 : decode cKM_takeHalves 84 = .ok (.iload_n 3, 1) := by decide +kernel
theorem dKM_takeHalves_85 : decode cKM_takeHalves 85 = .ok (.ishl, 1) := by decide +kernel
theorem dKM_takeHalves_86 : decode cKM_takeHalves 86 = .ok (.ixor, 1) := by decide +kernel
theorem dKM_takeHalves_87 : decode cKM_takeHalves 87 = .ok (.putfield 40, 3) := by decide +kernel
theorem dKM_takeHalves_90 : decode cKM_takeHalves 90 = .ok (.aload_n 2, 1) := by decide +kernel
theorem dKM_takeHalves_91 : decode cKM_takeHalves 91 = .ok (.iload_n 1, 1) := by decide +kernel
theorem dKM_takeHalves_92 : decode cKM_takeHalves 92 = .ok (.aload_n 0, 1) := by decide +kernel
theorem dKM_takeHalves_93 : decode cKM_takeHalves 93 = .ok (.getfield 7, 3) := by decide +kernel
theorem dKM_takeHalves_96 : decode cKM_takeHalves 96 = .ok (.iload 4, 2) := by decide +kernel
theorem dKM_takeHalves_98 : decode cKM_takeHalves 98 = .ok (.laload, 1) := by decide +kernel
theorem dKM_takeHalves_99 : decode cKM_takeHalves 99 = .ok (.aload_n 0, 1) := by decide +kernel
theorem dKM_takeHalves_100 : decode cKM_takeHalves 100 = .ok (.getfield 13, 3) := by decide +kernel
theorem dKM_takeHalves_103 : decode cKM_takeHalves 103 = .ok (.iload 4, 2) := by decide +kernel
theorem dKM_takeHalves_105 : decode cKM_takeHalves 105 = .ok (.laload, 1) := by decide +kernel
theorem dKM_takeHalves_106 : decode cKM_takeHalves 106 = .ok (.invokevirtual 59, 3) := by decide +kernel
theorem dKM_takeHalves_109 : decode cKM_takeHalves 109 = .ok (.aload_n 0, 1) := by decide +kernel
theorem dKM_takeHalves_110 : decode cKM_takeHalves 110 = .ok (.getfield 7, 3) := by decide +kernel
theorem dKM_takeHalves_113 : decode cKM_takeHalves 113 = .ok (.iload 4, 2) := by decide +kernel
theorem dKM_takeHalves_115 : decode cKM_takeHalves 115 = .ok (.aload_n 2, 1) := by decide +kernel
theorem dKM_takeHalves_116 : decode cKM_takeHalves 116 = .ok (.getfield 65, 3) := by decide +kernel
theorem dKM_takeHalves_119 : decode cKM_takeHalves 119 = .ok (.lastore, 1) := by decide +kernel
theorem dKM_takeHalves_120 : decode cKM_takeHalves 120 = .ok (.aload_n 0, 1) := by decide +kernel
theorem dKM_takeHalves_121 : decode cKM_takeHalves 121 = .ok (.getfield 13, 3) := by decide +kernel
theorem dKM_takeHalves_124 : decode cKM_takeHalves 124 = .ok (.iload 4, 2) := by decide +kernel
theorem dKM_takeHalves_126 : decode cKM_takeHalves 126 = .ok (.aload_n 2, 1) := by decide +kernel
theorem dKM_takeHalves_127 : decode cKM_takeHalves 127 = .ok (.getfield 68, 3) := by decide +kernel
theorem dKM_takeHalves_130 : decode cKM_takeHalves 130 = .ok (.lastore, 1) := by decide +kernel
theorem dKM_takeHalves_131 : decode cKM_takeHalves 131 = .ok (.aload_n 0, 1) := by decide +kernel
theorem dKM_takeHalves_132 : decode cKM_takeHalves 132 = .ok (.getfield 20, 3) := by decide +kernel
theorem dKM_takeHalves_135 : decode cKM_takeHalves 135 = .ok (.iload 4, 2) := by decide +kernel
theorem dKM_takeHalves_137 : decode cKM_takeHalves 137 = .ok (.aload_n 2, 1) := by decide +kernel
theorem dKM_takeHalves_138 : decode cKM_takeHalves 138 = .ok (.getfield 71, 3) := by decide +kernel
theorem dKM_takeHalves_141 : decode cKM_takeHalves 141 = .ok (.iastore, 1) := by decide +kernel
theorem dKM_takeHalves_142 : decode cKM_takeHalves 142 = .ok (.aload_n 0, 1) := by decide +kernel
theorem dKM_takeHalves_143 : decode cKM_takeHalves 143 = .ok (.dup, 1) := by decide +kernel
theorem dKM_takeHalves_144 : decode cKM_takeHalves 144 = .ok (.getfield 40, 3) := by decide +kernel
theorem dKM_takeHalves_147 : decode cKM_takeHalves 147 = .ok (.aload_n 2, 1) := by decide +kernel
theorem dKM_takeHalves_148 : decode cKM_takeHalves 148 = .ok (.getfield 71, 3) := by decide +kernel
theorem dKM_takeHalves_151 : decode cKM_takeHalves 151 = .ok (.iload_n 1, 1) := by decide +kernel
theorem dKM_takeHalves_152 : decode cKM_takeHalves 152 = .ok (.ishl, 1) := by decide +kernel
theorem dKM_takeHalves_153 : decode cKM_takeHalves 153 = .ok (.ixor, 1) := by decide +kernel
theorem dKM_takeHalves_154 : decode cKM_takeHalves 154 = .ok (.putfield 40, 3) := by decide +kernel
theorem dKM_takeHalves_157 : decode cKM_takeHalves 157 = .ok (.iinc 4 1, 3) := by decide +kernel
theorem dKM_takeHalves_160 : decode cKM_takeHalves 160 = .ok (.goto (-136), 3) := by decide +kernel
theorem dKM_takeHalves_163 : decode cKM_takeHalves 163 = .ok (.return_, 1) := by decide +kernel
theorem dKY_setLevel_0 : decode cKY_setLevel 0 = .ok (.bipush 16, 2) := by decide +kernel
theorem dKY_setLevel_2 : decode cKY_setLevel 2 = .ok (.bipush 17, 2) := by decide +kernel
theorem dKY_setLevel_4 : decode cKY_setLevel 4 = .ok (.iload_n 1, 1) := by decide +kernel
theorem dKY_setLevel_5 : decode cKY_setLevel 5 = .ok (.imul, 1) := by decide +kernel
theorem dKY_setLevel_6 : decode cKY_setLevel 6 = .ok (.iadd, 1) := by decide +kernel
theorem dKY_setLevel_7 : decode cKY_setLevel 7 = .ok (.istore 7, 2) := by decide +kernel
theorem dKY_setLevel_9 : decode cKY_setLevel 9 = .ok (.aload_n 0, 1) := by decide +kernel
theorem dKY_setLevel_10 : decode cKY_setLevel 10 = .ok (.iload 7, 2) := by decide +kernel
theorem dKY_setLevel_12 : decode cKY_setLevel 12 = .ok (.lload_n 2, 1) := by decide +kernel
theorem dKY_setLevel_13 : decode cKY_setLevel 13 = .ok (.invokevirtual 32, 3) := by decide +kernel
theorem dKY_setLevel_16 : decode cKY_setLevel 16 = .ok (.aload_n 0, 1) := by decide +kernel
theorem dKY_setLevel_17 : decode cKY_setLevel 17 = .ok (.iload 7, 2) := by decide +kernel
theorem dKY_setLevel_19 : decode cKY_setLevel 19 = .ok (.bipush 8, 2) := by decide +kernel
theorem dKY_setLevel_21 : decode cKY_setLevel 21 = .ok (.iadd, 1) := by decide +kernel
theorem dKY_setLevel_22 : decode cKY_setLevel 22 = .ok (.lload 4, 2) := by decide +kernel
theorem dKY_setLevel_24 : decode cKY_setLevel 24 = .ok (.invokevirtual 32, 3) := by decide +kernel
theorem dKY_setLevel_27 : decode cKY_setLevel 27 = .ok (.aload_n 0, 1) := by decide +kernel
theorem dKY_setLevel_28 : decode cKY_setLevel 28 = .ok (.getfield 11, 3) := by decide +kernel
theorem dKY_setLevel_31 : decode cKY_setLevel 31 = .ok (.iload 7, 2) := by decide +kernel
theorem dKY_setLevel_33 : decode cKY_setLevel 33 = .ok (.bipush 16, 2) := by decide +kernel
theorem dKY_setLevel_35 : decode cKY_setLevel 35 = .ok (.iadd, 1) := by decide +kernel
theorem dKY_setLevel_36 : decode cKY_setLevel 36 = .ok (.iload 6, 2) := by decide +kernel
theorem dKY_setLevel_38 : decode cKY_setLevel 38 = .ok (.iastore, 1) := by decide +kernel
theorem dKY_setLevel_39 : decode cKY_setLevel 39 = .ok (.return_, 1) := by decide +kernel
theorem dKM_goOn_0 : decode cKM_goOn 0 = .ok (.iconst 0, 1) := by decide +kernel
theorem dKM_goOn_1 : decode cKM_goOn 1 = .ok (.istore_n 2, 1) := by decide +kernel
theorem dKM_goOn_2 : decode cKM_goOn 2 = .ok (.iload_n 2, 1) := by decide +kernel
theorem dKM_goOn_3 : decode cKM_goOn 3 = .ok (.iconst 2, 1) := by decide +kernel
theorem dKM_goOn_4 : decode cKM_goOn 4 = .ok (.if_icmp .ge 70, 3) := by decide +kernel
theorem dKM_goOn_7 : decode cKM_goOn 7 = .ok (.aload_n 0, 1) := by decide +kernel
theorem dKM_goOn_8 : decode cKM_goOn 8 = .ok (.getfield 20, 3) := by decide +kernel
theorem dKM_goOn_11 : decode cKM_goOn 11 = .ok (.iload_n 2, 1) := by decide +kernel
theorem dKM_goOn_12 : decode cKM_goOn 12 = .ok (.iaload, 1) := by decide +kernel
theorem dKM_goOn_13 : decode cKM_goOn 13 = .ok (.istore_n 3, 1) := by decide +kernel
theorem dKM_goOn_14 : decode cKM_goOn 14 = .ok (.aload_n 0, 1) := by decide +kernel
theorem dKM_goOn_15 : decode cKM_goOn 15 = .ok (.getfield 16, 3) := by decide +kernel
theorem dKM_goOn_18 : decode cKM_goOn 18 = .ok (.iload_n 2, 1) := by decide +kernel
theorem dKM_goOn_19 : decode cKM_goOn 19 = .ok (.iaload, 1) := by decide +kernel
theorem dKM_goOn_20 : decode cKM_goOn 20 = .ok (.iconst 1, 1) := by decide +kernel
theorem dKM_goOn_21 : decode cKM_goOn 21 = .ok (.if_icmp .ne 40, 3) := by decide +kernel
theorem dKM_goOn_24 : decode cKM_goOn 24 = .ok (.aload_n 0, 1) := by decide +kernel
theorem dKM_goOn_25 : decode cKM_goOn 25 = .ok (.getfield 7, 3) := by decide +kernel
theorem dKM_goOn_28 : decode cKM_goOn 28 = .ok (.iload_n 2, 1) := by decide +kernel
theorem dKM_goOn_29 : decode cKM_goOn 29 = .ok (.dup2, 1) := by decide +kernel
theorem dKM_goOn_30 : decode cKM_goOn 30 = .ok (.laload, 1) := by decide +kernel
theorem dKM_goOn_31 : decode cKM_goOn 31 = .ok (.aload_n 0, 1) := by decide +kernel
theorem dKM_goOn_32 : decode cKM_goOn 32 = .ok (.getfield 33, 3) := by decide +kernel
theorem dKM_goOn_35 : decode cKM_goOn 35 = .ok (.lxor, 1) := by decide +kernel
theorem dKM_goOn_36 : decode cKM_goOn 36 = .ok (.lastore, 1) := by decide +kernel
theorem dKM_goOn_37 : decode cKM_goOn 37 = .ok (.aload_n 0, 1) := by decide +kernel
theorem dKM_goOn_38 : decode cKM_goOn 38 = .ok (.getfield 13, 3) := by decide +kernel
theorem dKM_goOn_41 : decode cKM_goOn 41 = .ok (.iload_n 2, 1) := by decide +kernel
theorem dKM_goOn_42 : decode cKM_goOn 42 = .ok (.dup2, 1) := by decide +kernel
theorem dKM_goOn_43 : decode cKM_goOn 43 = .ok (.laload, 1) := by decide +kernel
theorem dKM_goOn_44 : decode cKM_goOn 44 = .ok (.aload_n 0, 1) := by decide +kernel
theorem dKM_goOn_45 : decode cKM_goOn 45 = .ok (.getfield 37, 3) := by decide +kernel
theorem dKM_goOn_48 : decode cKM_goOn 48 = .ok (.lxor, 1) := by decide +kernel
theorem dKM_goOn_49 : decode cKM_goOn 49 = .ok (.lastore, 1) := by decide +kernel
theorem dKM_goOn_50 : decode cKM_goOn 50 = .ok (.iload_n 3, 1) := by decide +kernel
theorem dKM_goOn_51 : decode cKM_goOn 51 = .ok (.aload_n 0, 1) := by decide +kernel
theorem dKM_goOn_52 : decode cKM_goOn 52 = .ok (.getfield 40, 3) := by decide +kernel
theorem dKM_goOn_55 : decode cKM_goOn 55 = .ok (.iload_n 1, 1) := by decide +kernel
theorem dKM_goOn_56 : decode cKM_goOn 56 = .ok (.ishr, 1) := by decide +kernel
theorem dKM_goOn_57 : decode cKM_goOn 57 = .ok (.iconst 1, 1) := by decide +kernel
theorem dKM_goOn_58 : decode cKM_goOn 58 = .ok (.iand, 1) := by decide +kernel
theorem dKM_goOn_59 : decode cKM_goOn 59 = .ok (.ixor, 1) := by decide +kernel
theorem dKM_goOn_60 : decode cKM_goOn 60 = .ok (.istore_n 3, 1) := by decide +kernel
theorem dKM_goOn_61 : decode cKM_goOn 61 = .ok (.aload_n 0, 1) := by decide +kernel
theorem dKM_goOn_62 : decode cKM_goOn 62 = .ok (.getfield 16, 3) := by decide +kernel
theorem dKM_goOn_65 : decode cKM_goOn 65 = .ok (.iload_n 2, 1) := by decide +kernel
theorem dKM_goOn_66 : decode cKM_goOn 66 = .ok (.iload_n 3, 1) := by decide +kernel
theorem dKM_goOn_67 : decode cKM_goOn 67 = .ok (.iastore, 1) := by decide +kernel
theorem dKM_goOn_68 : decode cKM_goOn 68 = .ok (.iinc 2 1, 3) := by decide +kernel
theorem dKM_goOn_71 : decode cKM_goOn 71 = .ok (.goto (-69), 3) := by decide +kernel
theorem dKM_goOn_74 : decode cKM_goOn 74 = .ok (.return_, 1) := by decide +kernel
theorem dKY_setLast_0 : decode cKY_setLast 0 = .ok (.aload_n 0, 1) := by decide +kernel
theorem dKY_setLast_1 : decode cKY_setLast 1 = .ok (.sipush 152, 3) := by decide +kernel
theorem dKY_setLast_4 : decode cKY_setLast 4 = .ok (.lload_n 1, 1) := by decide +kernel
theorem dKY_setLast_5 : decode cKY_setLast 5 = .ok (.invokevirtual 32, 3) := by decide +kernel
theorem dKY_setLast_8 : decode cKY_setLast 8 = .ok (.return_, 1) := by decide +kernel
theorem dBS_keyByte_0 : decode cBS_keyByte 0 = .ok (.iload_n 1, 1) := by decide +kernel
theorem dBS_keyByte_1 : decode cBS_keyByte 1 = .ok (.iload_n 2, 1) := by decide +kernel
theorem dBS_keyByte_2 : decode cBS_keyByte 2 = .ok (.invokestatic 67, 3) := by decide +kernel
theorem dBS_keyByte_5 : decode cBS_keyByte 5 = .ok (.aload_n 0, 1) := by decide +kernel
theorem dBS_keyByte_6 : decode cBS_keyByte 6 = .ok (.getfield 28, 3) := by decide +kernel
theorem dBS_keyByte_9 : decode cBS_keyByte 9 = .ok (.iload_n 1, 1) := by decide +kernel
theorem dBS_keyByte_10 : decode cBS_keyByte 10 = .ok (.aaload, 1) := by decide +kernel
theorem dBS_keyByte_11 : decode cBS_keyByte 11 = .ok (.getfield 71, 3) := by decide +kernel
theorem dBS_keyByte_14 : decode cBS_keyByte 14 = .ok (.iload_n 2, 1) := by decide +kernel
theorem dBS_keyByte_15 : decode cBS_keyByte 15 = .ok (.iaload, 1) := by decide +kernel
theorem dBS_keyByte_16 : decode cBS_keyByte 16 = .ok (.ireturn, 1) := by decide +kernel
theorem dBS_requireKeyByte_0 : decode cBS_requireKeyByte 0 = .ok (.iload_n 0, 1) := by decide +kernel
theorem dBS_requireKeyByte_1 : decode cBS_requireKeyByte 1 = .ok (.invokestatic 168, 3) := by decide +kernel
theorem dBS_requireKeyByte_4 : decode cBS_requireKeyByte 4 = .ok (.ifCond .eq 14, 3) := by decide +kernel
theorem dBS_requireKeyByte_7 : decode cBS_requireKeyByte 7 = .ok (.iload_n 1, 1) := by decide +kernel
theorem dBS_requireKeyByte_8 : decode cBS_requireKeyByte 8 = .ok (.ifCond .lt 10, 3) := by decide +kernel
theorem dBS_requireKeyByte_11 : decode cBS_requireKeyByte 11 = .ok (.iload_n 1, 1) := by decide +kernel
theorem dBS_requireKeyByte_12 : decode cBS_requireKeyByte 12 = .ok (.sipush 160, 3) := by decide +kernel
theorem dBS_requireKeyByte_15 : decode cBS_requireKeyByte 15 = .ok (.if_icmp .lt 13, 3) := by decide +kernel
theorem dBS_requireKeyByte_18 : decode cBS_requireKeyByte 18 = .ok (.new 171, 3) := by decide +kernel
theorem dBS_requireKeyByte_21 : decode cBS_requireKeyByte 21 = .ok (.dup, 1) := by decide +kernel
theorem dBS_requireKeyByte_22 : decode cBS_requireKeyByte 22 = .ok (.ldc 173, 2) := by decide +kernel
theorem dBS_requireKeyByte_24 : decode cBS_requireKeyByte 24 = .ok (.invokespecial 175, 3) := by decide +kernel
theorem dBS_requireKeyByte_27 : decode cBS_requireKeyByte 27 = .ok (.athrow, 1) := by decide +kernel
theorem dBS_requireKeyByte_28 : decode cBS_requireKeyByte 28 = .ok (.return_, 1) := by decide +kernel
theorem dBS_isKey_0 : decode cBS_isKey 0 = .ok (.iload_n 0, 1) := by decide +kernel
theorem dBS_isKey_1 : decode cBS_isKey 1 = .ok (.invokestatic 137, 3) := by decide +kernel
theorem dBS_isKey_4 : decode cBS_isKey 4 = .ok (.ireturn, 1) := by decide +kernel
theorem dBS_setKeyByte_0 : decode cBS_setKeyByte 0 = .ok (.iload_n 1, 1) := by decide +kernel
theorem dBS_setKeyByte_1 : decode cBS_setKeyByte 1 = .ok (.iload_n 2, 1) := by decide +kernel
theorem dBS_setKeyByte_2 : decode cBS_setKeyByte 2 = .ok (.invokestatic 67, 3) := by decide +kernel
theorem dBS_setKeyByte_5 : decode cBS_setKeyByte 5 = .ok (.aload_n 0, 1) := by decide +kernel
theorem dBS_setKeyByte_6 : decode cBS_setKeyByte 6 = .ok (.getfield 28, 3) := by decide +kernel
theorem dBS_setKeyByte_9 : decode cBS_setKeyByte 9 = .ok (.iload_n 1, 1) := by decide +kernel
theorem dBS_setKeyByte_10 : decode cBS_setKeyByte 10 = .ok (.aaload, 1) := by decide +kernel
theorem dBS_setKeyByte_11 : decode cBS_setKeyByte 11 = .ok (.iload_n 2, 1) := by decide +kernel
theorem dBS_setKeyByte_12 : decode cBS_setKeyByte 12 = .ok (.iload_n 3, 1) := by decide +kernel
theorem dBS_setKeyByte_13 : decode cBS_setKeyByte 13 = .ok (.invokevirtual 75, 3) := by decide +kernel
theorem dBS_setKeyByte_16 : decode cBS_setKeyByte 16 = .ok (.return_, 1) := by decide +kernel
theorem dKY_setByte_0 : decode cKY_setByte 0 = .ok (.aload_n 0, 1) := by decide +kernel
theorem dKY_setByte_1 : decode cKY_setByte 1 = .ok (.getfield 11, 3) := by decide +kernel
theorem dKY_setByte_4 : decode cKY_setByte 4 = .ok (.iload_n 1, 1) := by decide +kernel
theorem dKY_setByte_5 : decode cKY_setByte 5 = .ok (.iload_n 2, 1) := by decide +kernel
theorem dKY_setByte_6 : decode cKY_setByte 6 = .ok (.sipush 255, 3) := by decide +kernel
theorem dKY_setByte_9 : decode cKY_setByte 9 = .ok (.iand, 1) := by decide +kernel
theorem dKY_setByte_10 : decode cKY_setByte 10 = .ok (.iastore, 1) := by decide +kernel
theorem dKY_setByte_11 : decode cKY_setByte 11 = .ok (.aload_n 0, 1) := by decide +kernel
theorem dKY_setByte_12 : decode cKY_setByte 12 = .ok (.invokevirtual 29, 3) := by decide +kernel
theorem dKY_setByte_15 : decode cKY_setByte 15 = .ok (.return_, 1) := by decide +kernel
theorem dBS_choice_0 : decode cBS_choice 0 = .ok (.iload_n 1, 1) := by decide +kernel
theorem dBS_choice_1 : decode cBS_choice 1 = .ok (.iload_n 2, 1) := by decide +kernel
theorem dBS_choice_2 : decode cBS_choice 2 = .ok (.invokestatic 78, 3) := by decide +kernel
theorem dBS_choice_5 : decode cBS_choice 5 = .ok (.aload_n 0, 1) := by decide +kernel
theorem dBS_choice_6 : decode cBS_choice 6 = .ok (.iload_n 1, 1) := by decide +kernel
theorem dBS_choice_7 : decode cBS_choice 7 = .ok (.invokevirtual 81, 3) := by decide +kernel
theorem dBS_choice_10 : decode cBS_choice 10 = .ok (.aload_n 0, 1) := by decide +kernel
theorem dBS_choice_11 : decode cBS_choice 11 = .ok (.getfield 28, 3) := by decide +kernel
theorem dBS_choice_14 : decode cBS_choice 14 = .ok (.iload_n 1, 1) := by decide +kernel
theorem dBS_choice_15 : decode cBS_choice 15 = .ok (.aaload, 1) := by decide +kernel
theorem dBS_choice_16 : decode cBS_choice 16 = .ok (.iload_n 2, 1) := by decide +kernel
theorem dBS_choice_17 : decode cBS_choice 17 = .ok (.aload_n 0, 1) := by decide +kernel
theorem dBS_choice_18 : decode cBS_choice 18 = .ok (.getfield 10, 3) := by decide +kernel
theorem dBS_choice_21 : decode cBS_choice 21 = .ok (.invokevirtual 84, 3) := by decide +kernel
theorem dBS_choice_24 : decode cBS_choice 24 = .ok (.ireturn, 1) := by decide +kernel
theorem dBS_requireKeyPlace_0 : decode cBS_requireKeyPlace 0 = .ok (.iload_n 0, 1) := by decide +kernel
theorem dBS_requireKeyPlace_1 : decode cBS_requireKeyPlace 1 = .ok (.invokestatic 168, 3) := by decide +kernel
theorem dBS_requireKeyPlace_4 : decode cBS_requireKeyPlace 4 = .ok (.ifCond .eq 10, 3) := by decide +kernel
theorem dBS_requireKeyPlace_7 : decode cBS_requireKeyPlace 7 = .ok (.iload_n 1, 1) := by decide +kernel
theorem dBS_requireKeyPlace_8 : decode cBS_requireKeyPlace 8 = .ok (.invokestatic 163, 3) := by decide +kernel
theorem dBS_requireKeyPlace_11 : decode cBS_requireKeyPlace 11 = .ok (.ifCond .ne 13, 3) := by decide +kernel
theorem dBS_requireKeyPlace_14 : decode cBS_requireKeyPlace 14 = .ok (.new 171, 3) := by decide +kernel
theorem dBS_requireKeyPlace_17 : decode cBS_requireKeyPlace 17 = .ok (.dup, 1) := by decide +kernel
theorem dBS_requireKeyPlace_18 : decode cBS_requireKeyPlace 18 = .ok (.ldc 176, 2) := by decide +kernel
theorem dBS_requireKeyPlace_20 : decode cBS_requireKeyPlace 20 = .ok (.invokespecial 175, 3) := by decide +kernel
theorem dBS_requireKeyPlace_23 : decode cBS_requireKeyPlace 23 = .ok (.athrow, 1) := by decide +kernel
theorem dBS_requireKeyPlace_24 : decode cBS_requireKeyPlace 24 = .ok (.return_, 1) := by decide +kernel
theorem dBS_requireGood_0 : decode cBS_requireGood 0 = .ok (.aload_n 0, 1) := by decide +kernel
theorem dBS_requireGood_1 : decode cBS_requireGood 1 = .ok (.getfield 28, 3) := by decide +kernel
theorem dBS_requireGood_4 : decode cBS_requireGood 4 = .ok (.iload_n 1, 1) := by decide +kernel
theorem dBS_requireGood_5 : decode cBS_requireGood 5 = .ok (.aaload, 1) := by decide +kernel
theorem dBS_requireGood_6 : decode cBS_requireGood 6 = .ok (.invokevirtual 153, 3) := by decide +kernel
theorem dBS_requireGood_9 : decode cBS_requireGood 9 = .ok (.ifCond .ne 13, 3) := by decide +kernel
theorem dBS_requireGood_12 : decode cBS_requireGood 12 = .ok (.new 181, 3) := by decide +kernel
theorem dBS_requireGood_15 : decode cBS_requireGood 15 = .ok (.dup, 1) := by decide +kernel
theorem dBS_requireGood_16 : decode cBS_requireGood 16 = .ok (.ldc 186, 2) := by decide +kernel
theorem dBS_requireGood_18 : decode cBS_requireGood 18 = .ok (.invokespecial 185, 3) := by decide +kernel
theorem dBS_requireGood_21 : decode cBS_requireGood 21 = .ok (.athrow, 1) := by decide +kernel
theorem dBS_requireGood_22 : decode cBS_requireGood 22 = .ok (.return_, 1) := by decide +kernel
theorem dKY_chooses_0 : decode cKY_chooses 0 = .ok (.aload_n 0, 1) := by decide +kernel
theorem dKY_chooses_1 : decode cKY_chooses 1 = .ok (.iload_n 1, 1) := by decide +kernel
theorem dKY_chooses_2 : decode cKY_chooses 2 = .ok (.aload_n 2, 1) := by decide +kernel
theorem dKY_chooses_3 : decode cKY_chooses 3 = .ok (.invokevirtual 36, 3) := by decide +kernel
theorem dKY_chooses_6 : decode cKY_chooses 6 = .ok (.aload_n 0, 1) := by decide +kernel
theorem dKY_chooses_7 : decode cKY_chooses 7 = .ok (.getfield 22, 3) := by decide +kernel
theorem dKY_chooses_10 : decode cKY_chooses 10 = .ok (.sipush 256, 3) := by decide +kernel
theorem dKY_chooses_13 : decode cKY_chooses 13 = .ok (.iload_n 1, 1) := by decide +kernel
theorem dKY_chooses_14 : decode cKY_chooses 14 = .ok (.iadd, 1) := by decide +kernel
theorem dKY_chooses_15 : decode cKY_chooses 15 = .ok (.iaload, 1) := by decide +kernel
theorem dKY_chooses_16 : decode cKY_chooses 16 = .ok (.iconst 1, 1) := by decide +kernel
theorem dKY_chooses_17 : decode cKY_chooses 17 = .ok (.if_icmp .ne 7, 3) := by decide +kernel
theorem dKY_chooses_20 : decode cKY_chooses 20 = .ok (.iconst 1, 1) := by decide +kernel
theorem dKY_chooses_21 : decode cKY_chooses 21 = .ok (.goto 4, 3) := by decide +kernel
theorem dKY_chooses_24 : decode cKY_chooses 24 = .ok (.iconst 0, 1) := by decide +kernel
theorem dKY_chooses_25 : decode cKY_chooses 25 = .ok (.ireturn, 1) := by decide +kernel
theorem dBS_share_0 : decode cBS_share 0 = .ok (.iload_n 1, 1) := by decide +kernel
theorem dBS_share_1 : decode cBS_share 1 = .ok (.iload_n 2, 1) := by decide +kernel
theorem dBS_share_2 : decode cBS_share 2 = .ok (.invokestatic 78, 3) := by decide +kernel
theorem dBS_share_5 : decode cBS_share 5 = .ok (.aload_n 0, 1) := by decide +kernel
theorem dBS_share_6 : decode cBS_share 6 = .ok (.iload_n 1, 1) := by decide +kernel
theorem dBS_share_7 : decode cBS_share 7 = .ok (.invokevirtual 81, 3) := by decide +kernel
theorem dBS_share_10 : decode cBS_share 10 = .ok (.aload_n 0, 1) := by decide +kernel
theorem dBS_share_11 : decode cBS_share 11 = .ok (.getfield 28, 3) := by decide +kernel
theorem dBS_share_14 : decode cBS_share 14 = .ok (.iload_n 1, 1) := by decide +kernel
theorem dBS_share_15 : decode cBS_share 15 = .ok (.aaload, 1) := by decide +kernel
theorem dBS_share_16 : decode cBS_share 16 = .ok (.iload_n 2, 1) := by decide +kernel
theorem dBS_share_17 : decode cBS_share 17 = .ok (.aload_n 0, 1) := by decide +kernel
theorem dBS_share_18 : decode cBS_share 18 = .ok (.getfield 10, 3) := by decide +kernel
theorem dBS_share_21 : decode cBS_share 21 = .ok (.invokevirtual 88, 3) := by decide +kernel
theorem dBS_share_24 : decode cBS_share 24 = .ok (.lreturn, 1) := by decide +kernel
theorem dKY_shareOf_0 : decode cKY_shareOf 0 = .ok (.aload_n 0, 1) := by decide +kernel
theorem dKY_shareOf_1 : decode cKY_shareOf 1 = .ok (.iload_n 1, 1) := by decide +kernel
theorem dKY_shareOf_2 : decode cKY_shareOf 2 = .ok (.aload_n 2, 1) := by decide +kernel
theorem dKY_shareOf_3 : decode cKY_shareOf 3 = .ok (.invokevirtual 36, 3) := by decide +kernel
theorem dKY_shareOf_6 : decode cKY_shareOf 6 = .ok (.aload_n 0, 1) := by decide +kernel
theorem dKY_shareOf_7 : decode cKY_shareOf 7 = .ok (.getfield 15, 3) := by decide +kernel
theorem dKY_shareOf_10 : decode cKY_shareOf 10 = .ok (.sipush 256, 3) := by decide +kernel
theorem dKY_shareOf_13 : decode cKY_shareOf 13 = .ok (.iload_n 1, 1) := by decide +kernel
theorem dKY_shareOf_14 : decode cKY_shareOf 14 = .ok (.iadd, 1) := by decide +kernel
theorem dKY_shareOf_15 : decode cKY_shareOf 15 = .ok (.laload, 1) := by decide +kernel
theorem dKY_shareOf_16 : decode cKY_shareOf 16 = .ok (.lstore_n 3, 1) := by decide +kernel
theorem dKY_shareOf_17 : decode cKY_shareOf 17 = .ok (.aload_n 0, 1) := by decide +kernel
theorem dKY_shareOf_18 : decode cKY_shareOf 18 = .ok (.getfield 22, 3) := by decide +kernel
theorem dKY_shareOf_21 : decode cKY_shareOf 21 = .ok (.sipush 256, 3) := by decide +kernel
theorem dKY_shareOf_24 : decode cKY_shareOf 24 = .ok (.iload_n 1, 1) := by decide +kernel
theorem dKY_shareOf_25 : decode cKY_shareOf 25 = .ok (.iadd, 1) := by decide +kernel
theorem dKY_shareOf_26 : decode cKY_shareOf 26 = .ok (.iaload, 1) := by decide +kernel
theorem dKY_shareOf_27 : decode cKY_shareOf 27 = .ok (.iconst 1, 1) := by decide +kernel
theorem dKY_shareOf_28 : decode cKY_shareOf 28 = .ok (.if_icmp .ne 15, 3) := by decide +kernel
theorem dKY_shareOf_31 : decode cKY_shareOf 31 = .ok (.lload_n 3, 1) := by decide +kernel
theorem dKY_shareOf_32 : decode cKY_shareOf 32 = .ok (.aload_n 0, 1) := by decide +kernel
theorem dKY_shareOf_33 : decode cKY_shareOf 33 = .ok (.sipush 152, 3) := by decide +kernel
theorem dKY_shareOf_36 : decode cKY_shareOf 36 = .ok (.invokevirtual 40, 3) := by decide +kernel
theorem dKY_shareOf_39 : decode cKY_shareOf 39 = .ok (.lxor, 1) := by decide +kernel
theorem dKY_shareOf_40 : decode cKY_shareOf 40 = .ok (.goto 4, 3) := by decide +kernel
theorem dKY_shareOf_43 : decode cKY_shareOf 43 = .ok (.lload_n 3, 1) := by decide +kernel
theorem dKY_shareOf_44 : decode cKY_shareOf 44 = .ok (.lreturn, 1) := by decide +kernel
theorem dBS_query_0 : decode cBS_query 0 = .ok (.iload_n 1, 1) := by decide +kernel
theorem dBS_query_1 : decode cBS_query 1 = .ok (.invokestatic 39, 3) := by decide +kernel
theorem dBS_query_4 : decode cBS_query 4 = .ok (.aload_n 0, 1) := by decide +kernel
theorem dBS_query_5 : decode cBS_query 5 = .ok (.iload_n 1, 1) := by decide +kernel
theorem dBS_query_6 : decode cBS_query 6 = .ok (.iload_n 2, 1) := by decide +kernel
theorem dBS_query_7 : decode cBS_query 7 = .ok (.invokevirtual 92, 3) := by decide +kernel
theorem dBS_query_10 : decode cBS_query 10 = .ok (.aload_n 0, 1) := by decide +kernel
theorem dBS_query_11 : decode cBS_query 11 = .ok (.iload_n 1, 1) := by decide +kernel
theorem dBS_query_12 : decode cBS_query 12 = .ok (.invokevirtual 81, 3) := by decide +kernel
theorem dBS_query_15 : decode cBS_query 15 = .ok (.aload_n 0, 1) := by decide +kernel
theorem dBS_query_16 : decode cBS_query 16 = .ok (.getfield 35, 3) := by decide +kernel
theorem dBS_query_19 : decode cBS_query 19 = .ok (.iload_n 1, 1) := by decide +kernel
theorem dBS_query_20 : decode cBS_query 20 = .ok (.aaload, 1) := by decide +kernel
theorem dBS_query_21 : decode cBS_query 21 = .ok (.getfield 45, 3) := by decide +kernel
theorem dBS_query_24 : decode cBS_query 24 = .ok (.iload_n 2, 1) := by decide +kernel
theorem dBS_query_25 : decode cBS_query 25 = .ok (.invokevirtual 95, 3) := by decide +kernel
theorem dBS_query_28 : decode cBS_query 28 = .ok (.astore_n 3, 1) := by decide +kernel
theorem dBS_query_29 : decode cBS_query 29 = .ok (.lconst 0, 1) := by decide +kernel
theorem dBS_query_30 : decode cBS_query 30 = .ok (.lstore 4, 2) := by decide +kernel
theorem dBS_query_32 : decode cBS_query 32 = .ok (.iconst 0, 1) := by decide +kernel
theorem dBS_query_33 : decode cBS_query 33 = .ok (.istore 6, 2) := by decide +kernel
theorem dBS_query_35 : decode cBS_query 35 = .ok (.iload 6, 2) := by decide +kernel
theorem dBS_query_37 : decode cBS_query 37 = .ok (.sipush 256, 3) := by decide +kernel
theorem dBS_query_40 : decode cBS_query 40 = .ok (.if_icmp .ge 36, 3) := by decide +kernel
theorem dBS_query_43 : decode cBS_query 43 = .ok (.aload_n 0, 1) := by decide +kernel
theorem dBS_query_44 : decode cBS_query 44 = .ok (.getfield 28, 3) := by decide +kernel
theorem dBS_query_47 : decode cBS_query 47 = .ok (.iload_n 1, 1) := by decide +kernel
theorem dBS_query_48 : decode cBS_query 48 = .ok (.aaload, 1) := by decide +kernel
theorem dBS_query_49 : decode cBS_query 49 = .ok (.iload 6, 2) := by decide +kernel
theorem dBS_query_51 : decode cBS_query 51 = .ok (.aload_n 0, 1) := by decide +kernel
theorem dBS_query_52 : decode cBS_query 52 = .ok (.getfield 10, 3) := by decide +kernel
theorem dBS_query_55 : decode cBS_query 55 = .ok (.invokevirtual 84, 3) := by decide +kernel
theorem dBS_query_58 : decode cBS_query 58 = .ok (.ifCond .eq 12, 3) := by decide +kernel
theorem dBS_query_61 : decode cBS_query 61 = .ok (.lload 4, 2) := by decide +kernel
theorem dBS_query_63 : decode cBS_query 63 = .ok (.aload_n 3, 1) := by decide +kernel
theorem dBS_query_64 : decode cBS_query 64 = .ok (.iload 6, 2) := by decide +kernel
theorem dBS_query_66 : decode cBS_query 66 = .ok (.laload, 1) := by decide +kernel
theorem dBS_query_67 : decode cBS_query 67 = .ok (.lxor, 1) := by decide +kernel
theorem dBS_query_68 : decode cBS_query 68 = .ok (.lstore 4, 2) := by decide +kernel
theorem dBS_query_70 : decode cBS_query 70 = .ok (.iinc 6 1, 3) := by decide +kernel
theorem dBS_query_73 : decode cBS_query 73 = .ok (.goto (-38), 3) := by decide +kernel
theorem dBS_query_76 : decode cBS_query 76 = .ok (.aload_n 0, 1) := by decide +kernel
theorem dBS_query_77 : decode cBS_query 77 = .ok (.getfield 35, 3) := by decide +kernel
theorem dBS_query_80 : decode cBS_query 80 = .ok (.iload_n 1, 1) := by decide +kernel
theorem dBS_query_81 : decode cBS_query 81 = .ok (.aaload, 1) := by decide +kernel
theorem dBS_query_82 : decode cBS_query 82 = .ok (.lload 4, 2) := by decide +kernel
theorem dBS_query_84 : decode cBS_query 84 = .ok (.putfield 99, 3) := by decide +kernel
theorem dBS_query_87 : decode cBS_query 87 = .ok (.aload_n 0, 1) := by decide +kernel
theorem dBS_query_88 : decode cBS_query 88 = .ok (.getfield 35, 3) := by decide +kernel
theorem dBS_query_91 : decode cBS_query 91 = .ok (.iload_n 1, 1) := by decide +kernel
theorem dBS_query_92 : decode cBS_query 92 = .ok (.aaload, 1) := by decide +kernel
theorem dBS_query_93 : decode cBS_query 93 = .ok (.dup, 1) := by decide +kernel
theorem dBS_query_94 : decode cBS_query 94 = .ok (.getfield 103, 3) := by decide +kernel
theorem dBS_query_97 : decode cBS_query 97 = .ok (.iconst 1, 1) := by decide +kernel
theorem dBS_query_98 : decode cBS_query 98 = .ok (.iadd, 1) := by decide +kernel
theorem dBS_query_99 : decode cBS_query 99 = .ok (.putfield 103, 3) := by decide +kernel
theorem dBS_query_102 : decode cBS_query 102 = .ok (.lload 4, 2) := by decide +kernel
theorem dBS_query_104 : decode cBS_query 104 = .ok (.lreturn, 1) := by decide +kernel
theorem dBS_requireHeld_0 : decode cBS_requireHeld 0 = .ok (.aload_n 0, 1) := by decide +kernel
theorem dBS_requireHeld_1 : decode cBS_requireHeld 1 = .ok (.getfield 35, 3) := by decide +kernel
theorem dBS_requireHeld_4 : decode cBS_requireHeld 4 = .ok (.iload_n 1, 1) := by decide +kernel
theorem dBS_requireHeld_5 : decode cBS_requireHeld 5 = .ok (.aaload, 1) := by decide +kernel
theorem dBS_requireHeld_6 : decode cBS_requireHeld 6 = .ok (.getfield 45, 3) := by decide +kernel
theorem dBS_requireHeld_9 : decode cBS_requireHeld 9 = .ok (.iload_n 2, 1) := by decide +kernel
theorem dBS_requireHeld_10 : decode cBS_requireHeld 10 = .ok (.invokevirtual 178, 3) := by decide +kernel
theorem dBS_requireHeld_13 : decode cBS_requireHeld 13 = .ok (.ifCond .ne 13, 3) := by decide +kernel
theorem dBS_requireHeld_16 : decode cBS_requireHeld 16 = .ok (.new 181, 3) := by decide +kernel
theorem dBS_requireHeld_19 : decode cBS_requireHeld 19 = .ok (.dup, 1) := by decide +kernel
theorem dBS_requireHeld_20 : decode cBS_requireHeld 20 = .ok (.ldc 183, 2) := by decide +kernel
theorem dBS_requireHeld_22 : decode cBS_requireHeld 22 = .ok (.invokespecial 185, 3) := by decide +kernel
theorem dBS_requireHeld_25 : decode cBS_requireHeld 25 = .ok (.athrow, 1) := by decide +kernel
theorem dBS_requireHeld_26 : decode cBS_requireHeld 26 = .ok (.return_, 1) := by decide +kernel
theorem dSH_isHeld_0 : decode cSH_isHeld 0 = .ok (.iload_n 1, 1) := by decide +kernel
theorem dSH_isHeld_1 : decode cSH_isHeld 1 = .ok (.aload_n 0, 1) := by decide +kernel
theorem dSH_isHeld_2 : decode cSH_isHeld 2 = .ok (.invokevirtual 47, 3) := by decide +kernel
theorem dSH_isHeld_5 : decode cSH_isHeld 5 = .ok (.if_icmp .lt 15, 3) := by decide +kernel
theorem dSH_isHeld_8 : decode cSH_isHeld 8 = .ok (.iload_n 1, 1) := by decide +kernel
theorem dSH_isHeld_9 : decode cSH_isHeld 9 = .ok (.aload_n 0, 1) := by decide +kernel
theorem dSH_isHeld_10 : decode cSH_isHeld 10 = .ok (.getfield 28, 3) := by decide +kernel
theorem dSH_isHeld_13 : decode cSH_isHeld 13 = .ok (.if_icmp .gt 7, 3) := by decide +kernel
theorem dSH_isHeld_16 : decode cSH_isHeld 16 = .ok (.iconst 1, 1) := by decide +kernel
theorem dSH_isHeld_17 : decode cSH_isHeld 17 = .ok (.goto 4, 3) := by decide +kernel
theorem dSH_isHeld_20 : decode cSH_isHeld 20 = .ok (.iconst 0, 1) := by decide +kernel
theorem dSH_isHeld_21 : decode cSH_isHeld 21 = .ok (.ireturn, 1) := by decide +kernel
theorem dBS_deposit_0 : decode cBS_deposit 0 = .ok (.iload_n 1, 1) := by decide +kernel
theorem dBS_deposit_1 : decode cBS_deposit 1 = .ok (.invokestatic 39, 3) := by decide +kernel
theorem dBS_deposit_4 : decode cBS_deposit 4 = .ok (.aload_n 0, 1) := by decide +kernel
theorem dBS_deposit_5 : decode cBS_deposit 5 = .ok (.iload_n 1, 1) := by decide +kernel
theorem dBS_deposit_6 : decode cBS_deposit 6 = .ok (.invokevirtual 81, 3) := by decide +kernel
theorem dBS_deposit_9 : decode cBS_deposit 9 = .ok (.aload_n 0, 1) := by decide +kernel
theorem dBS_deposit_10 : decode cBS_deposit 10 = .ok (.getfield 35, 3) := by decide +kernel
theorem dBS_deposit_13 : decode cBS_deposit 13 = .ok (.iload_n 1, 1) := by decide +kernel
theorem dBS_deposit_14 : decode cBS_deposit 14 = .ok (.aaload, 1) := by decide +kernel
theorem dBS_deposit_15 : decode cBS_deposit 15 = .ok (.getfield 107, 3) := by decide +kernel
theorem dBS_deposit_18 : decode cBS_deposit 18 = .ok (.astore_n 2, 1) := by decide +kernel
theorem dBS_deposit_19 : decode cBS_deposit 19 = .ok (.iconst 0, 1) := by decide +kernel
theorem dBS_deposit_20 : decode cBS_deposit 20 = .ok (.istore_n 3, 1) := by decide +kernel
theorem dBS_deposit_21 : decode cBS_deposit 21 = .ok (.iload_n 3, 1) := by decide +kernel
theorem dBS_deposit_22 : decode cBS_deposit 22 = .ok (.sipush 256, 3) := by decide +kernel
theorem dBS_deposit_25 : decode cBS_deposit 25 = .ok (.if_icmp .ge 29, 3) := by decide +kernel
theorem dBS_deposit_28 : decode cBS_deposit 28 = .ok (.aload_n 2, 1) := by decide +kernel
theorem dBS_deposit_29 : decode cBS_deposit 29 = .ok (.iload_n 3, 1) := by decide +kernel
theorem dBS_deposit_30 : decode cBS_deposit 30 = .ok (.dup2, 1) := by decide +kernel
theorem dBS_deposit_31 : decode cBS_deposit 31 = .ok (.laload, 1) := by decide +kernel
theorem dBS_deposit_32 : decode cBS_deposit 32 = .ok (.aload_n 0, 1) := by decide +kernel
theorem dBS_deposit_33 : decode cBS_deposit 33 = .ok (.getfield 28, 3) := by decide +kernel
theorem dBS_deposit_36 : decode cBS_deposit 36 = .ok (.iload_n 1, 1) := by decide +kernel
theorem dBS_deposit_37 : decode cBS_deposit 37 = .ok (.aaload, 1) := by decide +kernel
theorem dBS_deposit_38 : decode cBS_deposit 38 = .ok (.iload_n 3, 1) := by decide +kernel
theorem dBS_deposit_39 : decode cBS_deposit 39 = .ok (.aload_n 0, 1) := by decide +kernel
theorem dBS_deposit_40 : decode cBS_deposit 40 = .ok (.getfield 10, 3) := by decide +kernel
theorem dBS_deposit_43 : decode cBS_deposit 43 = .ok (.invokevirtual 88, 3) := by decide +kernel
theorem dBS_deposit_46 : decode cBS_deposit 46 = .ok (.lxor, 1) := by decide +kernel
theorem dBS_deposit_47 : decode cBS_deposit 47 = .ok (.lastore, 1) := by decide +kernel
theorem dBS_deposit_48 : decode cBS_deposit 48 = .ok (.iinc 3 1, 3) := by decide +kernel
theorem dBS_deposit_51 : decode cBS_deposit 51 = .ok (.goto (-30), 3) := by decide +kernel
theorem dBS_deposit_54 : decode cBS_deposit 54 = .ok (.aload_n 0, 1) := by decide +kernel
theorem dBS_deposit_55 : decode cBS_deposit 55 = .ok (.getfield 35, 3) := by decide +kernel
theorem dBS_deposit_58 : decode cBS_deposit 58 = .ok (.iload_n 1, 1) := by decide +kernel
theorem dBS_deposit_59 : decode cBS_deposit 59 = .ok (.aaload, 1) := by decide +kernel
theorem dBS_deposit_60 : decode cBS_deposit 60 = .ok (.dup, 1) := by decide +kernel
theorem dBS_deposit_61 : decode cBS_deposit 61 = .ok (.getfield 111, 3) := by decide +kernel
theorem dBS_deposit_64 : decode cBS_deposit 64 = .ok (.iconst 1, 1) := by decide +kernel
theorem dBS_deposit_65 : decode cBS_deposit 65 = .ok (.iadd, 1) := by decide +kernel
theorem dBS_deposit_66 : decode cBS_deposit 66 = .ok (.putfield 111, 3) := by decide +kernel
theorem dBS_deposit_69 : decode cBS_deposit 69 = .ok (.return_, 1) := by decide +kernel
theorem dBS_mailbox_0 : decode cBS_mailbox 0 = .ok (.iload_n 2, 1) := by decide +kernel
theorem dBS_mailbox_1 : decode cBS_mailbox 1 = .ok (.invokestatic 42, 3) := by decide +kernel
theorem dBS_mailbox_4 : decode cBS_mailbox 4 = .ok (.iload_n 1, 1) := by decide +kernel
theorem dBS_mailbox_5 : decode cBS_mailbox 5 = .ok (.iconst 2, 1) := by decide +kernel
theorem dBS_mailbox_6 : decode cBS_mailbox 6 = .ok (.if_icmp .ne 27, 3) := by decide +kernel
theorem dBS_mailbox_9 : decode cBS_mailbox 9 = .ok (.aload_n 0, 1) := by decide +kernel
theorem dBS_mailbox_10 : decode cBS_mailbox 10 = .ok (.getfield 35, 3) := by decide +kernel
theorem dBS_mailbox_13 : decode cBS_mailbox 13 = .ok (.iconst 0, 1) := by decide +kernel
theorem dBS_mailbox_14 : decode cBS_mailbox 14 = .ok (.aaload, 1) := by decide +kernel
theorem dBS_mailbox_15 : decode cBS_mailbox 15 = .ok (.getfield 107, 3) := by decide +kernel
theorem dBS_mailbox_18 : decode cBS_mailbox 18 = .ok (.iload_n 2, 1) := by decide +kernel
theorem dBS_mailbox_19 : decode cBS_mailbox 19 = .ok (.laload, 1) := by decide +kernel
theorem dBS_mailbox_20 : decode cBS_mailbox 20 = .ok (.aload_n 0, 1) := by decide +kernel
theorem dBS_mailbox_21 : decode cBS_mailbox 21 = .ok (.getfield 35, 3) := by decide +kernel
theorem dBS_mailbox_24 : decode cBS_mailbox 24 = .ok (.iconst 1, 1) := by decide +kernel
theorem dBS_mailbox_25 : decode cBS_mailbox 25 = .ok (.aaload, 1) := by decide +kernel
theorem dBS_mailbox_26 : decode cBS_mailbox 26 = .ok (.getfield 107, 3) := by decide +kernel
theorem dBS_mailbox_29 : decode cBS_mailbox 29 = .ok (.iload_n 2, 1) := by decide +kernel
theorem dBS_mailbox_30 : decode cBS_mailbox 30 = .ok (.laload, 1) := by decide +kernel
theorem dBS_mailbox_31 : decode cBS_mailbox 31 = .ok (.lxor, 1) := by decide +kernel
theorem dBS_mailbox_32 : decode cBS_mailbox 32 = .ok (.lreturn, 1) := by decide +kernel
theorem dBS_mailbox_33 : decode cBS_mailbox 33 = .ok (.iload_n 1, 1) := by decide +kernel
theorem dBS_mailbox_34 : decode cBS_mailbox 34 = .ok (.invokestatic 39, 3) := by decide +kernel
theorem dBS_mailbox_37 : decode cBS_mailbox 37 = .ok (.aload_n 0, 1) := by decide +kernel
theorem dBS_mailbox_38 : decode cBS_mailbox 38 = .ok (.getfield 35, 3) := by decide +kernel
theorem dBS_mailbox_41 : decode cBS_mailbox 41 = .ok (.iload_n 1, 1) := by decide +kernel
theorem dBS_mailbox_42 : decode cBS_mailbox 42 = .ok (.aaload, 1) := by decide +kernel
theorem dBS_mailbox_43 : decode cBS_mailbox 43 = .ok (.getfield 107, 3) := by decide +kernel
theorem dBS_mailbox_46 : decode cBS_mailbox 46 = .ok (.iload_n 2, 1) := by decide +kernel
theorem dBS_mailbox_47 : decode cBS_mailbox 47 = .ok (.laload, 1) := by decide +kernel
theorem dBS_mailbox_48 : decode cBS_mailbox 48 = .ok (.lreturn, 1) := by decide +kernel
theorem dBS_record_0 : decode cBS_record 0 = .ok (.iload_n 1, 1) := by decide +kernel
theorem dBS_record_1 : decode cBS_record 1 = .ok (.invokestatic 39, 3) := by decide +kernel
theorem dBS_record_4 : decode cBS_record 4 = .ok (.iload_n 3, 1) := by decide +kernel
theorem dBS_record_5 : decode cBS_record 5 = .ok (.invokestatic 42, 3) := by decide +kernel
theorem dBS_record_8 : decode cBS_record 8 = .ok (.aload_n 0, 1) := by decide +kernel
theorem dBS_record_9 : decode cBS_record 9 = .ok (.iload_n 1, 1) := by decide +kernel
theorem dBS_record_10 : decode cBS_record 10 = .ok (.iload_n 2, 1) := by decide +kernel
theorem dBS_record_11 : decode cBS_record 11 = .ok (.invokevirtual 92, 3) := by decide +kernel
theorem dBS_record_14 : decode cBS_record 14 = .ok (.aload_n 0, 1) := by decide +kernel
theorem dBS_record_15 : decode cBS_record 15 = .ok (.getfield 35, 3) := by decide +kernel
theorem dBS_record_18 : decode cBS_record 18 = .ok (.iload_n 1, 1) := by decide +kernel
theorem dBS_record_19 : decode cBS_record 19 = .ok (.aaload, 1) := by decide +kernel
theorem dBS_record_20 : decode cBS_record 20 = .ok (.getfield 45, 3) := by decide +kernel
theorem dBS_record_23 : decode cBS_record 23 = .ok (.iload_n 2, 1) := by decide +kernel
theorem dBS_record_24 : decode cBS_record 24 = .ok (.invokevirtual 95, 3) := by decide +kernel
theorem dBS_record_27 : decode cBS_record 27 = .ok (.iload_n 3, 1) := by decide +kernel
theorem dBS_record_28 : decode cBS_record 28 = .ok (.laload, 1) := by decide +kernel
theorem dBS_record_29 : decode cBS_record 29 = .ok (.lreturn, 1) := by decide +kernel
theorem dBS_digest_0 : decode cBS_digest 0 = .ok (.iload_n 1, 1) := by decide +kernel
theorem dBS_digest_1 : decode cBS_digest 1 = .ok (.invokestatic 39, 3) := by decide +kernel
theorem dBS_digest_4 : decode cBS_digest 4 = .ok (.aload_n 0, 1) := by decide +kernel
theorem dBS_digest_5 : decode cBS_digest 5 = .ok (.iload_n 1, 1) := by decide +kernel
theorem dBS_digest_6 : decode cBS_digest 6 = .ok (.iload_n 2, 1) := by decide +kernel
theorem dBS_digest_7 : decode cBS_digest 7 = .ok (.invokevirtual 92, 3) := by decide +kernel
theorem dBS_digest_10 : decode cBS_digest 10 = .ok (.aload_n 0, 1) := by decide +kernel
theorem dBS_digest_11 : decode cBS_digest 11 = .ok (.getfield 35, 3) := by decide +kernel
theorem dBS_digest_14 : decode cBS_digest 14 = .ok (.iload_n 1, 1) := by decide +kernel
theorem dBS_digest_15 : decode cBS_digest 15 = .ok (.aaload, 1) := by decide +kernel
theorem dBS_digest_16 : decode cBS_digest 16 = .ok (.getfield 45, 3) := by decide +kernel
theorem dBS_digest_19 : decode cBS_digest 19 = .ok (.iload_n 2, 1) := by decide +kernel
theorem dBS_digest_20 : decode cBS_digest 20 = .ok (.invokevirtual 95, 3) := by decide +kernel
theorem dBS_digest_23 : decode cBS_digest 23 = .ok (.invokestatic 114, 3) := by decide +kernel
theorem dBS_digest_26 : decode cBS_digest 26 = .ok (.lreturn, 1) := by decide +kernel
theorem dDG_of_0 : decode cDG_of 0 = .ok (.lconst 0, 1) := by decide +kernel
theorem dDG_of_1 : decode cDG_of 1 = .ok (.lstore_n 1, 1) := by decide +kernel
theorem dDG_of_2 : decode cDG_of 2 = .ok (.aload_n 0, 1) := by decide +kernel
theorem dDG_of_3 : decode cDG_of 3 = .ok (.arraylength, 1) := by decide +kernel
theorem dDG_of_4 : decode cDG_of 4 = .ok (.iconst 1, 1) := by decide +kernel
theorem dDG_of_5 : decode cDG_of 5 = .ok (.isub, 1) := by decide +kernel
theorem dDG_of_6 : decode cDG_of 6 = .ok (.istore_n 3, 1) := by decide +kernel
theorem dDG_of_7 : decode cDG_of 7 = .ok (.iload_n 3, 1) := by decide +kernel
theorem dDG_of_8 : decode cDG_of 8 = .ok (.ifCond .lt 32, 3) := by decide +kernel
theorem dDG_of_11 : decode cDG_of 11 = .ok (.lload_n 1, 1) := by decide +kernel
theorem dDG_of_12 : decode cDG_of 12 = .ok (.aload_n 0, 1) := by decide +kernel
theorem dDG_of_13 : decode cDG_of 13 = .ok (.iload_n 3, 1) := by decide +kernel
theorem dDG_of_14 : decode cDG_of 14 = .ok (.laload, 1) := by decide +kernel
theorem dDG_of_15 : decode cDG_of 15 = .ok (.ldc2_w 9, 3) := by decide +kernel
theorem dDG_of_18 : decode cDG_of 18 = .ok (.land, 1) := by decide +kernel
theorem dDG_of_19 : decode cDG_of 19 = .ok (.invokestatic 11, 3) := by decide +kernel
theorem dDG_of_22 : decode cDG_of 22 = .ok (.lstore_n 1, 1) := by decide +kernel
theorem dDG_of_23 : decode cDG_of 23 = .ok (.lload_n 1, 1) := by decide +kernel
theorem dDG_of_24 : decode cDG_of 24 = .ok (.aload_n 0, 1) := by decide +kernel
theorem dDG_of_25 : decode cDG_of 25 = .ok (.iload_n 3, 1) := by decide +kernel
theorem dDG_of_26 : decode cDG_of 26 = .ok (.laload, 1) := by decide +kernel
theorem dDG_of_27 : decode cDG_of 27 = .ok (.bipush 32, 2) := by decide +kernel
theorem dDG_of_29 : decode cDG_of 29 = .ok (.lushr, 1) := by decide +kernel
theorem dDG_of_30 : decode cDG_of 30 = .ok (.invokestatic 11, 3) := by decide +kernel
theorem dDG_of_33 : decode cDG_of 33 = .ok (.lstore_n 1, 1) := by decide +kernel
theorem dDG_of_34 : decode cDG_of 34 = .ok (.iinc 3 (-1), 3) := by decide +kernel
theorem dDG_of_37 : decode cDG_of 37 = .ok (.goto (-30), 3) := by decide +kernel
theorem dDG_of_40 : decode cDG_of 40 = .ok (.lload_n 1, 1) := by decide +kernel
theorem dDG_of_41 : decode cDG_of 41 = .ok (.lreturn, 1) := by decide +kernel
theorem dDG_timesFactorPlus_0 : decode cDG_timesFactorPlus 0 = .ok (.lload_n 0, 1) := by decide +kernel
theorem dDG_timesFactorPlus_1 : decode cDG_timesFactorPlus 1 = .ok (.bipush 40, 2) := by decide +kernel
theorem dDG_timesFactorPlus_3 : decode cDG_timesFactorPlus 3 = .ok (.lushr, 1) := by decide +kernel
theorem dDG_timesFactorPlus_4 : decode cDG_timesFactorPlus 4 = .ok (.ldc2_w 15, 3) := by decide +kernel
theorem dDG_timesFactorPlus_7 : decode cDG_timesFactorPlus 7 = .ok (.lmul, 1) := by decide +kernel
theorem dDG_timesFactorPlus_8 : decode cDG_timesFactorPlus 8 = .ok (.lstore 4, 2) := by decide +kernel
theorem dDG_timesFactorPlus_10 : decode cDG_timesFactorPlus 10 = .ok (.lload_n 0, 1) := by decide +kernel
theorem dDG_timesFactorPlus_11 : decode cDG_timesFactorPlus 11 = .ok (.ldc2_w 17, 3) := by decide +kernel
theorem dDG_timesFactorPlus_14 : decode cDG_timesFactorPlus 14 = .ok (.land, 1) := by decide +kernel
theorem dDG_timesFactorPlus_15 : decode cDG_timesFactorPlus 15 = .ok (.ldc2_w 15, 3) := by decide +kernel
theorem dDG_timesFactorPlus_18 : decode cDG_timesFactorPlus 18 = .ok (.lmul, 1) := by decide +kernel
theorem dDG_timesFactorPlus_19 : decode cDG_timesFactorPlus 19 = .ok (.lstore 6, 2) := by decide +kernel
theorem dDG_timesFactorPlus_21 : decode cDG_timesFactorPlus 21 = .ok (.lload 6, 2) := by decide +kernel
theorem dDG_timesFactorPlus_23 : decode cDG_timesFactorPlus 23 = .ok (.lload 4, 2) := by decide +kernel
theorem dDG_timesFactorPlus_25 : decode cDG_timesFactorPlus 25 = .ok (.bipush 21, 2) := by decide +kernel
theorem dDG_timesFactorPlus_27 : decode cDG_timesFactorPlus 27 = .ok (.lushr, 1) := by decide +kernel
theorem dDG_timesFactorPlus_28 : decode cDG_timesFactorPlus 28 = .ok (.ladd, 1) := by decide +kernel
theorem dDG_timesFactorPlus_29 : decode cDG_timesFactorPlus 29 = .ok (.lload 4, 2) := by decide +kernel
theorem dDG_timesFactorPlus_31 : decode cDG_timesFactorPlus 31 = .ok (.ldc2_w 19, 3) := by decide +kernel
theorem dDG_timesFactorPlus_34 : decode cDG_timesFactorPlus 34 = .ok (.land, 1) := by decide +kernel
theorem dDG_timesFactorPlus_35 : decode cDG_timesFactorPlus 35 = .ok (.bipush 40, 2) := by decide +kernel
theorem dDG_timesFactorPlus_37 : decode cDG_timesFactorPlus 37 = .ok (.lshl, 1) := by decide +kernel
theorem dDG_timesFactorPlus_38 : decode cDG_timesFactorPlus 38 = .ok (.ladd, 1) := by decide +kernel
theorem dDG_timesFactorPlus_39 : decode cDG_timesFactorPlus 39 = .ok (.lload_n 2, 1) := by decide +kernel
theorem dDG_timesFactorPlus_40 : decode cDG_timesFactorPlus 40 = .ok (.ladd, 1) := by decide +kernel
theorem dDG_timesFactorPlus_41 : decode cDG_timesFactorPlus 41 = .ok (.invokestatic 21, 3) := by decide +kernel
theorem dDG_timesFactorPlus_44 : decode cDG_timesFactorPlus 44 = .ok (.lreturn, 1) := by decide +kernel
theorem dDG_reduced_0 : decode cDG_reduced 0 = .ok (.lload_n 0, 1) := by decide +kernel
theorem dDG_reduced_1 : decode cDG_reduced 1 = .ok (.ldc2_w 25, 3) := by decide +kernel
theorem dDG_reduced_4 : decode cDG_reduced 4 = .ok (.land, 1) := by decide +kernel
theorem dDG_reduced_5 : decode cDG_reduced 5 = .ok (.lload_n 0, 1) := by decide +kernel
theorem dDG_reduced_6 : decode cDG_reduced 6 = .ok (.bipush 61, 2) := by decide +kernel
theorem dDG_reduced_8 : decode cDG_reduced 8 = .ok (.lushr, 1) := by decide +kernel
theorem dDG_reduced_9 : decode cDG_reduced 9 = .ok (.ladd, 1) := by decide +kernel
theorem dDG_reduced_10 : decode cDG_reduced 10 = .ok (.lstore_n 2, 1) := by decide +kernel
theorem dDG_reduced_11 : decode cDG_reduced 11 = .ok (.lload_n 2, 1) := by decide +kernel
theorem dDG_reduced_12 : decode cDG_reduced 12 = .ok (.ldc2_w 25, 3) := by decide +kernel
theorem dDG_reduced_15 : decode cDG_reduced 15 = .ok (.lcmp, 1) := by decide +kernel
theorem dDG_reduced_16 : decode cDG_reduced 16 = .ok (.ifCond .lt 11, 3) := by decide +kernel
theorem dDG_reduced_19 : decode cDG_reduced 19 = .ok (.lload_n 2, 1) := by decide +kernel
theorem dDG_reduced_20 : decode cDG_reduced 20 = .ok (.ldc2_w 25, 3) := by decide +kernel
theorem dDG_reduced_23 : decode cDG_reduced 23 = .ok (.lsub, 1) := by decide +kernel
theorem dDG_reduced_24 : decode cDG_reduced 24 = .ok (.goto 4, 3) := by decide +kernel
theorem dDG_reduced_27 : decode cDG_reduced 27 = .ok (.lload_n 2, 1) := by decide +kernel
theorem dDG_reduced_28 : decode cDG_reduced 28 = .ok (.lreturn, 1) := by decide +kernel
theorem dBS_cipher_0 : decode cBS_cipher 0 = .ok (.iload_n 1, 1) := by decide +kernel
theorem dBS_cipher_1 : decode cBS_cipher 1 = .ok (.ifCond .eq 18, 3) := by decide +kernel
theorem dBS_cipher_4 : decode cBS_cipher 4 = .ok (.iload_n 1, 1) := by decide +kernel
theorem dBS_cipher_5 : decode cBS_cipher 5 = .ok (.iconst 1, 1) := by decide +kernel
theorem dBS_cipher_6 : decode cBS_cipher 6 = .ok (.if_icmp .eq 13, 3) := by decide +kernel
theorem dBS_cipher_9 : decode cBS_cipher 9 = .ok (.new 120, 3) := by decide +kernel
theorem dBS_cipher_12 : decode cBS_cipher 12 = .ok (.dup, 1) := by decide +kernel
theorem dBS_cipher_13 : decode cBS_cipher 13 = .ok (.ldc 122, 2) := by decide +kernel
theorem dBS_cipher_15 : decode cBS_cipher 15 = .ok (.invokespecial 124, 3) := by decide +kernel
theorem dBS_cipher_18 : decode cBS_cipher 18 = .ok (.athrow, 1) := by decide +kernel
theorem dBS_cipher_19 : decode cBS_cipher 19 = .ok (.aload_n 0, 1) := by decide +kernel
theorem dBS_cipher_20 : decode cBS_cipher 20 = .ok (.getfield 10, 3) := by decide +kernel
theorem dBS_cipher_23 : decode cBS_cipher 23 = .ok (.iload_n 1, 1) := by decide +kernel
theorem dBS_cipher_24 : decode cBS_cipher 24 = .ok (.lload_n 2, 1) := by decide +kernel
theorem dBS_cipher_25 : decode cBS_cipher 25 = .ok (.lload 4, 2) := by decide +kernel
theorem dBS_cipher_27 : decode cBS_cipher 27 = .ok (.invokevirtual 127, 3) := by decide +kernel
theorem dBS_cipher_30 : decode cBS_cipher 30 = .ok (.iload 6, 2) := by decide +kernel
theorem dBS_cipher_32 : decode cBS_cipher 32 = .ok (.ifCond .eq 13, 3) := by decide +kernel
theorem dBS_cipher_35 : decode cBS_cipher 35 = .ok (.aload_n 0, 1) := by decide +kernel
theorem dBS_cipher_36 : decode cBS_cipher 36 = .ok (.getfield 10, 3) := by decide +kernel
theorem dBS_cipher_39 : decode cBS_cipher 39 = .ok (.getfield 131, 3) := by decide +kernel
theorem dBS_cipher_42 : decode cBS_cipher 42 = .ok (.goto 10, 3) := by decide +kernel
theorem dBS_cipher_45 : decode cBS_cipher 45 = .ok (.aload_n 0, 1) := by decide +kernel
theorem dBS_cipher_46 : decode cBS_cipher 46 = .ok (.getfield 10, 3) := by decide +kernel
theorem dBS_cipher_49 : decode cBS_cipher 49 = .ok (.getfield 134, 3) := by decide +kernel
theorem dBS_cipher_52 : decode cBS_cipher 52 = .ok (.lreturn, 1) := by decide +kernel
