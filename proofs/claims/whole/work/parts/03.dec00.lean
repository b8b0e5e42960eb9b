theorem dX0_init_0 : decode cX0_init 0 = .ok (.aload_n 0, 1) := by decide +kernel
theorem dX0_init_1 : decode cX0_init 1 = .ok (.iload_n 1, 1) := by decide +kernel
theorem dX0_init_2 : decode cX0_init 2 = .ok (.iload_n 2, 1) := by decide +kernel
theorem dX0_init_3 : decode cX0_init 3 = .ok (.iload_n 3, 1) := by decide +kernel
theorem dX0_init_4 : decode cX0_init 4 = .ok (.invokespecial 1, 3) := by decide +kernel
theorem dX0_init_7 : decode cX0_init 7 = .ok (.return_, 1) := by decide +kernel
theorem dX0_comes_0 : decode cX0_comes 0 = .ok (.aload_n 0, 1) := by decide +kernel
theorem dX0_comes_1 : decode cX0_comes 1 = .ok (.getfield 7, 3) := by decide +kernel
theorem dX0_comes_4 : decode cX0_comes 4 = .ok (.aload_n 0, 1) := by decide +kernel
theorem dX0_comes_5 : decode cX0_comes 5 = .ok (.getfield 13, 3) := by decide +kernel
theorem dX0_comes_8 : decode cX0_comes 8 = .ok (.if_icmp .eq 15, 3) := by decide +kernel
theorem dX0_comes_11 : decode cX0_comes 11 = .ok (.iload_n 1, 1) := by decide +kernel
theorem dX0_comes_12 : decode cX0_comes 12 = .ok (.iconst 2, 1) := by decide +kernel
theorem dX0_comes_13 : decode cX0_comes 13 = .ok (.if_icmp .ge 10, 3) := by decide +kernel
theorem dX0_comes_16 : decode cX0_comes 16 = .ok (.aload_n 0, 1) := by decide +kernel
theorem dX0_comes_17 : decode cX0_comes 17 = .ok (.getfield 13, 3) := by decide +kernel
theorem dX0_comes_20 : decode cX0_comes 20 = .ok (.goto 9, 3) := by decide +kernel
theorem dX0_comes_23 : decode cX0_comes 23 = .ok (.aload_n 0, 1) := by decide +kernel
theorem dX0_comes_24 : decode cX0_comes 24 = .ok (.iload_n 1, 1) := by decide +kernel
theorem dX0_comes_25 : decode cX0_comes 25 = .ok (.aload_n 2, 1) := by decide +kernel
theorem dX0_comes_26 : decode cX0_comes 26 = .ok (.invokespecial 16, 3) := by decide +kernel
theorem dX0_comes_29 : decode cX0_comes 29 = .ok (.ireturn, 1) := by decide +kernel
theorem dX0_voiceTurns_0 : decode cX0_voiceTurns 0 = .ok (.aload_n 2, 1) := by decide +kernel
theorem dX0_voiceTurns_1 : decode cX0_voiceTurns 1 = .ok (.bipush 50, 2) := by decide +kernel
theorem dX0_voiceTurns_3 : decode cX0_voiceTurns 3 = .ok (.invokevirtual 20, 3) := by decide +kernel
theorem dX0_voiceTurns_6 : decode cX0_voiceTurns 6 = .ok (.pop, 1) := by decide +kernel
theorem dX0_voiceTurns_7 : decode cX0_voiceTurns 7 = .ok (.aload_n 0, 1) := by decide +kernel
theorem dX0_voiceTurns_8 : decode cX0_voiceTurns 8 = .ok (.iload_n 1, 1) := by decide +kernel
theorem dX0_voiceTurns_9 : decode cX0_voiceTurns 9 = .ok (.iconst 1, 1) := by decide +kernel
theorem dX0_voiceTurns_10 : decode cX0_voiceTurns 10 = .ok (.iadd, 1) := by decide +kernel
theorem dX0_voiceTurns_11 : decode cX0_voiceTurns 11 = .ok (.aload_n 2, 1) := by decide +kernel
theorem dX0_voiceTurns_12 : decode cX0_voiceTurns 12 = .ok (.invokespecial 26, 3) := by decide +kernel
theorem dX0_voiceTurns_15 : decode cX0_voiceTurns 15 = .ok (.ireturn, 1) := by decide +kernel
theorem dX1_init_0 : decode cX1_init 0 = .ok (.aload_n 0, 1) := by decide +kernel
theorem dX1_init_1 : decode cX1_init 1 = .ok (.iload_n 1, 1) := by decide +kernel
theorem dX1_init_2 : decode cX1_init 2 = .ok (.iload_n 2, 1) := by decide +kernel
theorem dX1_init_3 : decode cX1_init 3 = .ok (.iload_n 3, 1) := by decide +kernel
theorem dX1_init_4 : decode cX1_init 4 = .ok (.invokespecial 3, 3) := by decide +kernel
theorem dX1_init_7 : decode cX1_init 7 = .ok (.return_, 1) := by decide +kernel
theorem dX1_comes_0 : decode cX1_comes 0 = .ok (.iload_n 1, 1) := by decide +kernel
theorem dX1_comes_1 : decode cX1_comes 1 = .ok (.ifCond .ne 10, 3) := by decide +kernel
theorem dX1_comes_4 : decode cX1_comes 4 = .ok (.aload_n 0, 1) := by decide +kernel
theorem dX1_comes_5 : decode cX1_comes 5 = .ok (.getfield 9, 3) := by decide +kernel
theorem dX1_comes_8 : decode cX1_comes 8 = .ok (.goto 4, 3) := by decide +kernel
theorem dX1_comes_11 : decode cX1_comes 11 = .ok (.iconst (-1), 1) := by decide +kernel
theorem dX1_comes_12 : decode cX1_comes 12 = .ok (.ireturn, 1) := by decide +kernel
theorem dX1_voiceMeets_0 : decode cX1_voiceMeets 0 = .ok (.aload_n 2, 1) := by decide +kernel
theorem dX1_voiceMeets_1 : decode cX1_voiceMeets 1 = .ok (.bipush 30, 2) := by decide +kernel
theorem dX1_voiceMeets_3 : decode cX1_voiceMeets 3 = .ok (.invokevirtual 15, 3) := by decide +kernel
theorem dX1_voiceMeets_6 : decode cX1_voiceMeets 6 = .ok (.pop, 1) := by decide +kernel
theorem dX1_voiceMeets_7 : decode cX1_voiceMeets 7 = .ok (.aload_n 0, 1) := by decide +kernel
theorem dX1_voiceMeets_8 : decode cX1_voiceMeets 8 = .ok (.iload_n 1, 1) := by decide +kernel
theorem dX1_voiceMeets_9 : decode cX1_voiceMeets 9 = .ok (.aload_n 2, 1) := by decide +kernel
theorem dX1_voiceMeets_10 : decode cX1_voiceMeets 10 = .ok (.invokespecial 21, 3) := by decide +kernel
theorem dX1_voiceMeets_13 : decode cX1_voiceMeets 13 = .ok (.iconst 3, 1) := by decide +kernel
theorem dX1_voiceMeets_14 : decode cX1_voiceMeets 14 = .ok (.imul, 1) := by decide +kernel
theorem dX1_voiceMeets_15 : decode cX1_voiceMeets 15 = .ok (.ireturn, 1) := by decide +kernel
theorem dX2_init_0 : decode cX2_init 0 = .ok (.aload_n 0, 1) := by decide +kernel
theorem dX2_init_1 : decode cX2_init 1 = .ok (.invokespecial 3, 3) := by decide +kernel
theorem dX2_init_4 : decode cX2_init 4 = .ok (.aload_n 0, 1) := by decide +kernel
theorem dX2_init_5 : decode cX2_init 5 = .ok (.bipush 6, 2) := by decide +kernel
theorem dX2_init_7 : decode cX2_init 7 = .ok (.anewarray 9, 3) := by decide +kernel
theorem dX2_init_10 : decode cX2_init 10 = .ok (.putfield 11, 3) := by decide +kernel
theorem dX2_init_13 : decode cX2_init 13 = .ok (.aload_n 0, 1) := by decide +kernel
theorem dX2_init_14 : decode cX2_init 14 = .ok (.iconst 2, 1) := by decide +kernel
theorem dX2_init_15 : decode cX2_init 15 = .ok (.anewarray 17, 3) := by decide +kernel
theorem dX2_init_18 : decode cX2_init 18 = .ok (.putfield 19, 3) := by decide +kernel
theorem dX2_init_21 : decode cX2_init 21 = .ok (.aload_n 0, 1) := by decide +kernel
theorem dX2_init_22 : decode cX2_init 22 = .ok (.new 23, 3) := by decide +kernel
theorem dX2_init_25 : decode cX2_init 25 = .ok (.dup, 1) := by decide +kernel
theorem dX2_init_26 : decode cX2_init 26 = .ok (.bipush 50, 2) := by decide +kernel
theorem dX2_init_28 : decode cX2_init 28 = .ok (.invokespecial 25, 3) := by decide +kernel
theorem dX2_init_31 : decode cX2_init 31 = .ok (.putfield 28, 3) := by decide +kernel
theorem dX2_init_34 : decode cX2_init 34 = .ok (.aload_n 0, 1) := by decide +kernel
theorem dX2_init_35 : decode cX2_init 35 = .ok (.new 23, 3) := by decide +kernel
theorem dX2_init_38 : decode cX2_init 38 = .ok (.dup, 1) := by decide +kernel
theorem dX2_init_39 : decode cX2_init 39 = .ok (.bipush 20, 2) := by decide +kernel
theorem dX2_init_41 : decode cX2_init 41 = .ok (.invokespecial 25, 3) := by decide +kernel
theorem dX2_init_44 : decode cX2_init 44 = .ok (.putfield 32, 3) := by decide +kernel
theorem dX2_init_47 : decode cX2_init 47 = .ok (.aload_n 0, 1) := by decide +kernel
theorem dX2_init_48 : decode cX2_init 48 = .ok (.iconst 1, 1) := by decide +kernel
theorem dX2_init_49 : decode cX2_init 49 = .ok (.putfield 35, 3) := by decide +kernel
theorem dX2_init_52 : decode cX2_init 52 = .ok (.aload_n 0, 1) := by decide +kernel
theorem dX2_init_53 : decode cX2_init 53 = .ok (.bipush 18, 2) := by decide +kernel
theorem dX2_init_55 : decode cX2_init 55 = .ok (.newarray .int, 2) := by decide +kernel
theorem dX2_init_57 : decode cX2_init 57 = .ok (.putfield 39, 3) := by decide +kernel
theorem dX2_init_60 : decode cX2_init 60 = .ok (.aload_n 0, 1) := by decide +kernel
theorem dX2_init_61 : decode cX2_init 61 = .ok (.bipush 6, 2) := by decide +kernel
theorem dX2_init_63 : decode cX2_init 63 = .ok (.newarray .int, 2) := by decide +kernel
theorem dX2_init_65 : decode cX2_init 65 = .ok (.putfield 43, 3) := by decide +kernel
theorem dX2_init_68 : decode cX2_init 68 = .ok (.aload_n 0, 1) := by decide +kernel
theorem dX2_init_69 : decode cX2_init 69 = .ok (.bipush 6, 2) := by decide +kernel
theorem dX2_init_71 : decode cX2_init 71 = .ok (.newarray .int, 2) := by decide +kernel
theorem dX2_init_73 : decode cX2_init 73 = .ok (.putfield 46, 3) := by decide +kernel
theorem dX2_init_76 : decode cX2_init 76 = .ok (.iconst 0, 1) := by decide +kernel
theorem dX2_init_77 : decode cX2_init 77 = .ok (.istore_n 1, 1) := by decide +kernel
theorem dX2_init_78 : decode cX2_init 78 = .ok (.iload_n 1, 1) := by decide +kernel
theorem dX2_init_79 : decode cX2_init 79 = .ok (.bipush 6, 2) := by decide +kernel
theorem dX2_init_81 : decode cX2_init 81 = .ok (.if_icmp .ge 25, 3) := by decide +kernel
theorem dX2_init_84 : decode cX2_init 84 = .ok (.aload_n 0, 1) := by decide +kernel
theorem dX2_init_85 : decode cX2_init 85 = .ok (.getfield 11, 3) := by decide +kernel
theorem dX2_init_88 : decode cX2_init 88 = .ok (.iload_n 1, 1) := by decide +kernel
theorem dX2_init_89 : decode cX2_init 89 = .ok (.new 49, 3) := by decide +kernel
theorem dX2_init_92 : decode cX2_init 92 = .ok (.dup, 1) := by decide +kernel
theorem dX2_init_93 : decode cX2_init 93 = .ok (.iconst 1, 1) := by decide +kernel
theorem dX2_init_94 : decode cX2_init 94 = .ok (.iload_n 1, 1) := by decide +kernel
theorem dX2_init_95 : decode cX2_init 95 = .ok (.iconst 0, 1) := by decide +kernel
theorem dX2_init_96 : decode cX2_init 96 = .ok (.invokespecial 51, 3) := by decide +kernel
theorem dX2_init_99 : decode cX2_init 99 = .ok (.aastore, 1) := by decide +kernel
theorem dX2_init_100 : decode cX2_init 100 = .ok (.iinc 1 1, 3) := by decide +kernel
theorem dX2_init_103 : decode cX2_init 103 = .ok (.goto (-25), 3) := by decide +kernel
theorem dX2_init_106 : decode cX2_init 106 = .ok (.return_, 1) := by decide +kernel
theorem dX2_takeFrom_0 : decode cX2_takeFrom 0 = .ok (.iconst 0, 1) := by decide +kernel
theorem dX2_takeFrom_1 : decode cX2_takeFrom 1 = .ok (.istore_n 2, 1) := by decide +kernel
theorem dX2_takeFrom_2 : decode cX2_takeFrom 2 = .ok (.iload_n 2, 1) := by decide +kernel
theorem dX2_takeFrom_3 : decode cX2_takeFrom 3 = .ok (.bipush 6, 2) := by decide +kernel
theorem dX2_takeFrom_5 : decode cX2_takeFrom 5 = .ok (.if_icmp .ge 21, 3) := by decide +kernel
theorem dX2_takeFrom_8 : decode cX2_takeFrom 8 = .ok (.aload_n 0, 1) := by decide +kernel
theorem dX2_takeFrom_9 : decode cX2_takeFrom 9 = .ok (.getfield 11, 3) := by decide +kernel
theorem dX2_takeFrom_12 : decode cX2_takeFrom 12 = .ok (.iload_n 2, 1) := by decide +kernel
theorem dX2_takeFrom_13 : decode cX2_takeFrom 13 = .ok (.aload_n 1, 1) := by decide +kernel
theorem dX2_takeFrom_14 : decode cX2_takeFrom 14 = .ok (.getfield 11, 3) := by decide +kernel
theorem dX2_takeFrom_17 : decode cX2_takeFrom 17 = .ok (.iload_n 2, 1) := by decide +kernel
theorem dX2_takeFrom_18 : decode cX2_takeFrom 18 = .ok (.aaload, 1) := by decide +kernel
theorem dX2_takeFrom_19 : decode cX2_takeFrom 19 = .ok (.aastore, 1) := by decide +kernel
theorem dX2_takeFrom_20 : decode cX2_takeFrom 20 = .ok (.iinc 2 1, 3) := by decide +kernel
theorem dX2_takeFrom_23 : decode cX2_takeFrom 23 = .ok (.goto (-21), 3) := by decide +kernel
theorem dX2_takeFrom_26 : decode cX2_takeFrom 26 = .ok (.iconst 0, 1) := by decide +kernel
theorem dX2_takeFrom_27 : decode cX2_takeFrom 27 = .ok (.istore_n 2, 1) := by decide +kernel
theorem dX2_takeFrom_28 : decode cX2_takeFrom 28 = .ok (.iload_n 2, 1) := by decide +kernel
theorem dX2_takeFrom_29 : decode cX2_takeFrom 29 = .ok (.iconst 2, 1) := by decide +kernel
theorem dX2_takeFrom_30 : decode cX2_takeFrom 30 = .ok (.if_icmp .ge 21, 3) := by decide +kernel
theorem dX2_takeFrom_33 : decode cX2_takeFrom 33 = .ok (.aload_n 0, 1) := by decide +kernel
theorem dX2_takeFrom_34 : decode cX2_takeFrom 34 = .ok (.getfield 19, 3) := by decide +kernel
theorem dX2_takeFrom_37 : decode cX2_takeFrom 37 = .ok (.iload_n 2, 1) := by decide +kernel
theorem dX2_takeFrom_38 : decode cX2_takeFrom 38 = .ok (.aload_n 1, 1) := by decide +kernel
theorem dX2_takeFrom_39 : decode cX2_takeFrom 39 = .ok (.getfield 19, 3) := by decide +kernel
theorem dX2_takeFrom_42 : decode cX2_takeFrom 42 = .ok (.iload_n 2, 1) := by decide +kernel
theorem dX2_takeFrom_43 : decode cX2_takeFrom 43 = .ok (.aaload, 1) := by decide +kernel
theorem dX2_takeFrom_44 : decode cX2_takeFrom 44 = .ok (.aastore, 1) := by decide +kernel
theorem dX2_takeFrom_45 : decode cX2_takeFrom 45 = .ok (.iinc 2 1, 3) := by decide +kernel
theorem dX2_takeFrom_48 : decode cX2_takeFrom 48 = .ok (.goto (-20), 3) := by decide +kernel
theorem dX2_takeFrom_51 : decode cX2_takeFrom 51 = .ok (.aload_n 0, 1) := by decide +kernel
theorem dX2_takeFrom_52 : decode cX2_takeFrom 52 = .ok (.getfield 28, 3) := by decide +kernel
theorem dX2_takeFrom_55 : decode cX2_takeFrom 55 = .ok (.aload_n 1, 1) := by decide +kernel
theorem dX2_takeFrom_56 : decode cX2_takeFrom 56 = .ok (.getfield 28, 3) := by decide +kernel
theorem dX2_takeFrom_59 : decode cX2_takeFrom 59 = .ok (.invokevirtual 54, 3) := by decide +kernel
theorem dX2_takeFrom_62 : decode cX2_takeFrom 62 = .ok (.aload_n 0, 1) := by decide +kernel
theorem dX2_takeFrom_63 : decode cX2_takeFrom 63 = .ok (.getfield 32, 3) := by decide +kernel
theorem dX2_takeFrom_66 : decode cX2_takeFrom 66 = .ok (.aload_n 1, 1) := by decide +kernel
theorem dX2_takeFrom_67 : decode cX2_takeFrom 67 = .ok (.getfield 32, 3) := by decide +kernel
theorem dX2_takeFrom_70 : decode cX2_takeFrom 70 = .ok (.invokevirtual 54, 3) := by decide +kernel
theorem dX2_takeFrom_73 : decode cX2_takeFrom 73 = .ok (.aload_n 0, 1) := by decide +kernel
theorem dX2_takeFrom_74 : decode cX2_takeFrom 74 = .ok (.aload_n 1, 1) := by decide +kernel
theorem dX2_takeFrom_75 : decode cX2_takeFrom 75 = .ok (.getfield 58, 3) := by decide +kernel
theorem dX2_takeFrom_78 : decode cX2_takeFrom 78 = .ok (.putfield 58, 3) := by decide +kernel
theorem dX2_takeFrom_81 : decode cX2_takeFrom 81 = .ok (.aload_n 0, 1) := by decide +kernel
theorem dX2_takeFrom_82 : decode cX2_takeFrom 82 = .ok (.aload_n 1, 1) := by decide +kernel
theorem dX2_takeFrom_83 : decode cX2_takeFrom 83 = .ok (.getfield 61, 3) := by decide +kernel
theorem dX2_takeFrom_86 : decode cX2_takeFrom 86 = .ok (.putfield 61, 3) := by decide +kernel
theorem dX2_takeFrom_89 : decode cX2_takeFrom 89 = .ok (.aload_n 0, 1) := by decide +kernel
theorem dX2_takeFrom_90 : decode cX2_takeFrom 90 = .ok (.aload_n 1, 1) := by decide +kernel
theorem dX2_takeFrom_91 : decode cX2_takeFrom 91 = .ok (.getfield 64, 3) := by decide +kernel
theorem dX2_takeFrom_94 : decode cX2_takeFrom 94 = .ok (.putfield 64, 3) := by decide +kernel
theorem dX2_takeFrom_97 : decode cX2_takeFrom 97 = .ok (.aload_n 0, 1) := by decide +kernel
theorem dX2_takeFrom_98 : decode cX2_takeFrom 98 = .ok (.aload_n 1, 1) := by decide +kernel
theorem dX2_takeFrom_99 : decode cX2_takeFrom 99 = .ok (.getfield 67, 3) := by decide +kernel
theorem dX2_takeFrom_102 : decode cX2_takeFrom 102 = .ok (.putfield 67, 3) := by decide +kernel
theorem dX2_takeFrom_105 : decode cX2_takeFrom 105 = .ok (.aload_n 0, 1) := by decide +kernel
theorem dX2_takeFrom_106 : decode cX2_takeFrom 106 = .ok (.aload_n 1, 1) := by decide +kernel
theorem dX2_takeFrom_107 : decode cX2_takeFrom 107 = .ok (.getfield 35, 3) := by decide +kernel
theorem dX2_takeFrom_110 : decode cX2_takeFrom 110 = .ok (.putfield 35, 3) := by decide +kernel
theorem dX2_takeFrom_113 : decode cX2_takeFrom 113 = .ok (.return_, 1) := by decide +kernel
theorem dX2_settle_0 : decode cX2_settle 0 = .ok (.aload_n 0, 1) := by decide +kernel
theorem dX2_settle_1 : decode cX2_settle 1 = .ok (.getfield 39, 3) := by decide +kernel
theorem dX2_settle_4 : decode cX2_settle 4 = .ok (.iconst 0, 1) := by decide +kernel
theorem dX2_settle_5 : decode cX2_settle 5 = .ok (.invokestatic 70, 3) := by decide +kernel
theorem dX2_settle_8 : decode cX2_settle 8 = .ok (.iconst 0, 1) := by decide +kernel
theorem dX2_settle_9 : decode cX2_settle 9 = .ok (.istore_n 1, 1) := by decide +kernel
theorem dX2_settle_10 : decode cX2_settle 10 = .ok (.iload_n 1, 1) := by decide +kernel
theorem dX2_settle_11 : decode cX2_settle 11 = .ok (.bipush 6, 2) := by decide +kernel
theorem dX2_settle_13 : decode cX2_settle 13 = .ok (.if_icmp .ge 135, 3) := by decide +kernel
theorem dX2_settle_16 : decode cX2_settle 16 = .ok (.aload_n 0, 1) := by decide +kernel
theorem dX2_settle_17 : decode cX2_settle 17 = .ok (.iload_n 1, 1) := by decide +kernel
theorem dX2_settle_18 : decode cX2_settle 18 = .ok (.getstatic 76, 3) := by decide +kernel
theorem dX2_settle_21 : decode cX2_settle 21 = .ok (.iload_n 1, 1) := by decide +kernel
theorem dX2_settle_22 : decode cX2_settle 22 = .ok (.iaload, 1) := by decide +kernel
theorem dX2_settle_23 : decode cX2_settle 23 = .ok (.iconst (-1), 1) := by decide +kernel
theorem dX2_settle_24 : decode cX2_settle 24 = .ok (.invokevirtual 79, 3) := by decide +kernel
theorem dX2_settle_27 : decode cX2_settle 27 = .ok (.aload_n 0, 1) := by decide +kernel
theorem dX2_settle_28 : decode cX2_settle 28 = .ok (.iload_n 1, 1) := by decide +kernel
theorem dX2_settle_29 : decode cX2_settle 29 = .ok (.getstatic 82, 3) := by decide +kernel
theorem dX2_settle_32 : decode cX2_settle 32 = .ok (.iload_n 1, 1) := by decide +kernel
theorem dX2_settle_33 : decode cX2_settle 33 = .ok (.iaload, 1) := by decide +kernel
theorem dX2_settle_34 : decode cX2_settle 34 = .ok (.iconst (-1), 1) := by decide +kernel
theorem dX2_settle_35 : decode cX2_settle 35 = .ok (.invokevirtual 79, 3) := by decide +kernel
theorem dX2_settle_38 : decode cX2_settle 38 = .ok (.iconst 0, 1) := by decide +kernel
theorem dX2_settle_39 : decode cX2_settle 39 = .ok (.istore_n 2, 1) := by decide +kernel
theorem dX2_settle_40 : decode cX2_settle 40 = .ok (.iload_n 2, 1) := by decide +kernel
theorem dX2_settle_41 : decode cX2_settle 41 = .ok (.iconst 3, 1) := by decide +kernel
theorem dX2_settle_42 : decode cX2_settle 42 = .ok (.if_icmp .ge 26, 3) := by decide +kernel
theorem dX2_settle_45 : decode cX2_settle 45 = .ok (.aload_n 0, 1) := by decide +kernel
theorem dX2_settle_46 : decode cX2_settle 46 = .ok (.iload_n 1, 1) := by decide +kernel
theorem dX2_settle_47 : decode cX2_settle 47 = .ok (.aload_n 0, 1) := by decide +kernel
theorem dX2_settle_48 : decode cX2_settle 48 = .ok (.getfield 11, 3) := by decide +kernel
theorem dX2_settle_51 : decode cX2_settle 51 = .ok (.iload_n 1, 1) := by decide +kernel
theorem dX2_settle_52 : decode cX2_settle 52 = .ok (.aaload, 1) := by decide +kernel
theorem dX2_settle_53 : decode cX2_settle 53 = .ok (.iload_n 2, 1) := by decide +kernel
theorem dX2_settle_54 : decode cX2_settle 54 = .ok (.aload_n 0, 1) := by decide +kernel
theorem dX2_settle_55 : decode cX2_settle 55 = .ok (.invokevirtual 85, 3) := by decide +kernel
theorem dX2_settle_58 : decode cX2_settle 58 = .ok (.iconst 1, 1) := by decide +kernel
theorem dX2_settle_59 : decode cX2_settle 59 = .ok (.invokevirtual 79, 3) := by decide +kernel
theorem dX2_settle_62 : decode cX2_settle 62 = .ok (.iinc 2 1, 3) := by decide +kernel
theorem dX2_settle_65 : decode cX2_settle 65 = .ok (.goto (-25), 3) := by decide +kernel
theorem dX2_settle_68 : decode cX2_settle 68 = .ok (.aload_n 0, 1) := by decide +kernel
theorem dX2_settle_69 : decode cX2_settle 69 = .ok (.getfield 39, 3) := by decide +kernel
theorem dX2_settle_72 : decode cX2_settle 72 = .ok (.iload_n 1, 1) := by decide +kernel
theorem dX2_settle_73 : decode cX2_settle 73 = .ok (.iconst 3, 1) := by decide +kernel
theorem dX2_settle_74 : decode cX2_settle 74 = .ok (.imul, 1) := by decide +kernel
theorem dX2_settle_75 : decode cX2_settle 75 = .ok (.iaload, 1) := by decide +kernel
theorem dX2_settle_76 : decode cX2_settle 76 = .ok (.istore_n 2, 1) := by decide +kernel
theorem dX2_settle_77 : decode cX2_settle 77 = .ok (.aload_n 0, 1) := by decide +kernel
theorem dX2_settle_78 : decode cX2_settle 78 = .ok (.getfield 39, 3) := by decide +kernel
theorem dX2_settle_81 : decode cX2_settle 81 = .ok (.iload_n 1, 1) := by decide +kernel
theorem dX2_settle_82 : decode cX2_settle 82 = .ok (.iconst 3, 1) := by decide +kernel
theorem dX2_settle_83 : decode cX2_settle 83 = .ok (.imul, 1) := by decide +kernel
theorem dX2_settle_84 : decode cX2_settle 84 = .ok (.iconst 1, 1) := by decide +kernel
theorem dX2_settle_85 : decode cX2_settle 85 = .ok (.iadd, 1) := by decide +kernel
theorem dX2_settle_86 : decode cX2_settle 86 = .ok (.iaload, 1) := by decide +kernel
theorem dX2_settle_87 : decode cX2_settle 87 = .ok (.istore_n 3, 1) := by decide +kernel
theorem dX2_settle_88 : decode cX2_settle 88 = .ok (.aload_n 0, 1) := by decide +kernel
theorem dX2_settle_89 : decode cX2_settle 89 = .ok (.getfield 39, 3) := by decide +kernel
theorem dX2_settle_92 : decode cX2_settle 92 = .ok (.iload_n 1, 1) := by decide +kernel
theorem dX2_settle_93 : decode cX2_settle 93 = .ok (.iconst 3, 1) := by decide +kernel
theorem dX2_settle_94 : decode cX2_settle 94 = .ok (.imul, 1) := by decide +kernel
theorem dX2_settle_95 : decode cX2_settle 95 = .ok (.iconst 2, 1) := by decide +kernel
theorem dX2_settle_96 : decode cX2_settle 96 = .ok (.iadd, 1) := by decide +kernel
theorem dX2_settle_97 : decode cX2_settle 97 = .ok (.iaload, 1) := by decide +kernel
theorem dX2_settle_98 : decode cX2_settle 98 = .ok (.istore 4, 2) := by decide +kernel
theorem dX2_settle_100 : decode cX2_settle 100 = .ok (.aload_n 0, 1) := by decide +kernel
theorem dX2_settle_101 : decode cX2_settle 101 = .ok (.getfield 43, 3) := by decide +kernel
theorem dX2_settle_104 : decode cX2_settle 104 = .ok (.iload_n 1, 1) := by decide +kernel
theorem dX2_settle_105 : decode cX2_settle 105 = .ok (.iload_n 2, 1) := by decide +kernel
theorem dX2_settle_106 : decode cX2_settle 106 = .ok (.iload_n 3, 1) := by decide +kernel
theorem dX2_settle_107 : decode cX2_settle 107 = .ok (.iadd, 1) := by decide +kernel
theorem dX2_settle_108 : decode cX2_settle 108 = .ok (.iload 4, 2) := by decide +kernel
theorem dX2_settle_110 : decode cX2_settle 110 = .ok (.iadd, 1) := by decide +kernel
theorem dX2_settle_111 : decode cX2_settle 111 = .ok (.iastore, 1) := by decide +kernel
theorem dX2_settle_112 : decode cX2_settle 112 = .ok (.aload_n 0, 1) := by decide +kernel
theorem dX2_settle_113 : decode cX2_settle 113 = .ok (.getfield 46, 3) := by decide +kernel
theorem dX2_settle_116 : decode cX2_settle 116 = .ok (.iload_n 1, 1) := by decide +kernel
theorem dX2_settle_117 : decode cX2_settle 117 = .ok (.iload_n 2, 1) := by decide +kernel
theorem dX2_settle_118 : decode cX2_settle 118 = .ok (.getstatic 89, 3) := by decide +kernel
theorem dX2_settle_121 : decode cX2_settle 121 = .ok (.iconst 0, 1) := by decide +kernel
theorem dX2_settle_122 : decode cX2_settle 122 = .ok (.iaload, 1) := by decide +kernel
theorem dX2_settle_123 : decode cX2_settle 123 = .ok (.imul, 1) := by decide +kernel
theorem dX2_settle_124 : decode cX2_settle 124 = .ok (.iload_n 3, 1) := by decide +kernel
theorem dX2_settle_125 : decode cX2_settle 125 = .ok (.getstatic 89, 3) := by decide +kernel
theorem dX2_settle_128 : decode cX2_settle 128 = .ok (.iconst 1, 1) := by decide +kernel
theorem dX2_settle_129 : decode cX2_settle 129 = .ok (.iaload, 1) := by decide +kernel
theorem dX2_settle_130 : decode cX2_settle 130 = .ok (.imul, 1) := by decide +kernel
theorem dX2_settle_131 : decode cX2_settle 131 = .ok (.iadd, 1) := by decide +kernel
theorem dX2_settle_132 : decode cX2_settle 132 = .ok (.iload 4, 2) := by decide +kernel
theorem dX2_settle_134 : decode cX2_settle 134 = .ok (.getstatic 89, 3) := by decide +kernel
theorem dX2_settle_137 : decode cX2_settle 137 = .ok (.iconst 2, 1) := by decide +kernel
theorem dX2_settle_138 : decode cX2_settle 138 = .ok (.iaload, 1) := by decide +kernel
theorem dX2_settle_139 : decode cX2_settle 139 = .ok (.imul, 1) := by decide +kernel
theorem dX2_settle_140 : decode cX2_settle 140 = .ok (.iadd, 1) := by decide +kernel
theorem dX2_settle_141 : decode cX2_settle 141 = .ok (.iastore, 1) := by decide +kernel
theorem dX2_settle_142 : decode cX2_settle 142 = .ok (.iinc 1 1, 3) := by decide +kernel
theorem dX2_settle_145 : decode cX2_settle 145 = .ok (.goto (-135), 3) := by decide +kernel
theorem dX2_settle_148 : decode cX2_settle 148 = .ok (.return_, 1) := by decide +kernel
theorem dX2_addChange_0 : decode cX2_addChange 0 = .ok (.iload_n 2, 1) := by decide +kernel
theorem dX2_addChange_1 : decode cX2_addChange 1 = .ok (.invokestatic 92, 3) := by decide +kernel
theorem dX2_addChange_4 : decode cX2_addChange 4 = .ok (.ifCond .eq 17, 3) := by decide +kernel
theorem dX2_addChange_7 : decode cX2_addChange 7 = .ok (.aload_n 0, 1) := by decide +kernel
theorem dX2_addChange_8 : decode cX2_addChange 8 = .ok (.getfield 39, 3) := by decide +kernel
theorem dX2_addChange_11 : decode cX2_addChange 11 = .ok (.iload_n 1, 1) := by decide +kernel
theorem dX2_addChange_12 : decode cX2_addChange 12 = .ok (.iconst 3, 1) := by decide +kernel
theorem dX2_addChange_13 : decode cX2_addChange 13 = .ok (.imul, 1) := by decide +kernel
theorem dX2_addChange_14 : decode cX2_addChange 14 = .ok (.iload_n 2, 1) := by decide +kernel
theorem dX2_addChange_15 : decode cX2_addChange 15 = .ok (.iadd, 1) := by decide +kernel
theorem dX2_addChange_16 : decode cX2_addChange 16 = .ok (.dup2, 1) := by decide +kernel
theorem dX2_addChange_17 : decode cX2_addChange 17 = .ok (.iaload, 1) := by decide +kernel
theorem dX2_addChange_18 : decode cX2_addChange 18 = .ok (.iload_n 3, 1) := by decide +kernel
theorem dX2_addChange_19 : decode cX2_addChange 19 = .ok (.iadd, 1) := by decide +kernel
theorem dX2_addChange_20 : decode cX2_addChange 20 = .ok (.iastore, 1) := by decide +kernel
theorem dX2_addChange_21 : decode cX2_addChange 21 = .ok (.return_, 1) := by decide +kernel
theorem dX2_fencedAt_0 : decode cX2_fencedAt 0 = .ok (.aload_n 0, 1) := by decide +kernel
theorem dX2_fencedAt_1 : decode cX2_fencedAt 1 = .ok (.getfield 61, 3) := by decide +kernel
theorem dX2_fencedAt_4 : decode cX2_fencedAt 4 = .ok (.iload_n 1, 1) := by decide +kernel
theorem dX2_fencedAt_5 : decode cX2_fencedAt 5 = .ok (.ishr, 1) := by decide +kernel
theorem dX2_fencedAt_6 : decode cX2_fencedAt 6 = .ok (.iconst 1, 1) := by decide +kernel
theorem dX2_fencedAt_7 : decode cX2_fencedAt 7 = .ok (.iand, 1) := by decide +kernel
theorem dX2_fencedAt_8 : decode cX2_fencedAt 8 = .ok (.ireturn, 1) := by decide +kernel
theorem dX2_next_0 : decode cX2_next 0 = .ok (.getstatic 76, 3) := by decide +kernel
theorem dX2_next_3 : decode cX2_next 3 = .ok (.iload_n 2, 1) := by decide +kernel
theorem dX2_next_4 : decode cX2_next 4 = .ok (.iaload, 1) := by decide +kernel
theorem dX2_next_5 : decode cX2_next 5 = .ok (.istore_n 3, 1) := by decide +kernel
theorem dX2_next_6 : decode cX2_next 6 = .ok (.getstatic 82, 3) := by decide +kernel
theorem dX2_next_9 : decode cX2_next 9 = .ok (.iload_n 2, 1) := by decide +kernel
theorem dX2_next_10 : decode cX2_next 10 = .ok (.iaload, 1) := by decide +kernel
theorem dX2_next_11 : decode cX2_next 11 = .ok (.istore 4, 2) := by decide +kernel
theorem dX2_next_13 : decode cX2_next 13 = .ok (.iload_n 3, 1) := by decide +kernel
theorem dX2_next_14 : decode cX2_next 14 = .ok (.iload 4, 2) := by decide +kernel
theorem dX2_next_16 : decode cX2_next 16 = .ok (.if_icmp .ne 7, 3) := by decide +kernel
theorem dX2_next_19 : decode cX2_next 19 = .ok (.iconst 2, 1) := by decide +kernel
theorem dX2_next_20 : decode cX2_next 20 = .ok (.goto 4, 3) := by decide +kernel
theorem dX2_next_23 : decode cX2_next 23 = .ok (.iconst 1, 1) := by decide +kernel
theorem dX2_next_24 : decode cX2_next 24 = .ok (.istore 5, 2) := by decide +kernel
theorem dX2_next_26 : decode cX2_next 26 = .ok (.aload_n 0, 1) := by decide +kernel
theorem dX2_next_27 : decode cX2_next 27 = .ok (.iload_n 2, 1) := by decide +kernel
theorem dX2_next_28 : decode cX2_next 28 = .ok (.invokevirtual 96, 3) := by decide +kernel
theorem dX2_next_31 : decode cX2_next 31 = .ok (.iconst 1, 1) := by decide +kernel
theorem dX2_next_32 : decode cX2_next 32 = .ok (.if_icmp .eq 24, 3) := by decide +kernel
theorem dX2_next_35 : decode cX2_next 35 = .ok (.iload_n 1, 1) := by decide +kernel
theorem dX2_next_36 : decode cX2_next 36 = .ok (.iload_n 3, 1) := by decide +kernel
theorem dX2_next_37 : decode cX2_next 37 = .ok (.invokestatic 100, 3) := by decide +kernel
theorem dX2_next_40 : decode cX2_next 40 = .ok (.iload 5, 2) := by decide +kernel
theorem dX2_next_42 : decode cX2_next 42 = .ok (.if_icmp .lt 14, 3) := by decide +kernel
theorem dX2_next_45 : decode cX2_next 45 = .ok (.iload_n 1, 1) := by decide +kernel
theorem dX2_next_46 : decode cX2_next 46 = .ok (.iload 4, 2) := by decide +kernel
theorem dX2_next_48 : decode cX2_next 48 = .ok (.invokestatic 100, 3) := by decide +kernel
theorem dX2_next_51 : decode cX2_next 51 = .ok (.iload 5, 2) := by decide +kernel
theorem dX2_next_53 : decode cX2_next 53 = .ok (.if_icmp .ge 5, 3) := by decide +kernel
theorem dX2_next_56 : decode cX2_next 56 = .ok (.iconst (-1), 1) := by decide +kernel
theorem dX2_next_57 : decode cX2_next 57 = .ok (.ireturn, 1) := by decide +kernel
theorem dX2_next_58 : decode cX2_next 58 = .ok (.iload_n 1, 1) := by decide +kernel
theorem dX2_next_59 : decode cX2_next 59 = .ok (.invokestatic 104, 3) := by decide +kernel
theorem dX2_next_62 : decode cX2_next 62 = .ok (.aload_n 0, 1) := by decide +kernel
theorem dX2_next_63 : decode cX2_next 63 = .ok (.getfield 43, 3) := by decide +kernel
theorem dX2_next_66 : decode cX2_next 66 = .ok (.iload_n 2, 1) := by decide +kernel
theorem dX2_next_67 : decode cX2_next 67 = .ok (.iaload, 1) := by decide +kernel
theorem dX2_next_68 : decode cX2_next 68 = .ok (.iadd, 1) := by decide +kernel
theorem dX2_next_69 : decode cX2_next 69 = .ok (.bipush 12, 2) := by decide +kernel
theorem dX2_next_71 : decode cX2_next 71 = .ok (.if_icmp .le 7, 3) := by decide +kernel
theorem dX2_next_74 : decode cX2_next 74 = .ok (.iconst (-1), 1) := by decide +kernel
theorem dX2_next_75 : decode cX2_next 75 = .ok (.goto 11, 3) := by decide +kernel
theorem dX2_next_78 : decode cX2_next 78 = .ok (.iload_n 1, 1) := by decide +kernel
theorem dX2_next_79 : decode cX2_next 79 = .ok (.aload_n 0, 1) := by decide +kernel
theorem dX2_next_80 : decode cX2_next 80 = .ok (.getfield 46, 3) := by decide +kernel
theorem dX2_next_83 : decode cX2_next 83 = .ok (.iload_n 2, 1) := by decide +kernel
theorem dX2_next_84 : decode cX2_next 84 = .ok (.iaload, 1) := by decide +kernel
theorem dX2_next_85 : decode cX2_next 85 = .ok (.iadd, 1) := by decide +kernel
theorem dX2_next_86 : decode cX2_next 86 = .ok (.ireturn, 1) := by decide +kernel
theorem dX2_leadsTo_0 : decode cX2_leadsTo 0 = .ok (.iconst 0, 1) := by decide +kernel
theorem dX2_leadsTo_1 : decode cX2_leadsTo 1 = .ok (.istore_n 3, 1) := by decide +kernel
theorem dX2_leadsTo_2 : decode cX2_leadsTo 2 = .ok (.iload_n 3, 1) := by decide +kernel
theorem dX2_leadsTo_3 : decode cX2_leadsTo 3 = .ok (.bipush 6, 2) := by decide +kernel
theorem dX2_leadsTo_5 : decode cX2_leadsTo 5 = .ok (.if_icmp .ge 25, 3) := by decide +kernel
theorem dX2_leadsTo_8 : decode cX2_leadsTo 8 = .ok (.iload_n 2, 1) := by decide +kernel
theorem dX2_leadsTo_9 : decode cX2_leadsTo 9 = .ok (.ifCond .lt 15, 3) := by decide +kernel
theorem dX2_leadsTo_12 : decode cX2_leadsTo 12 = .ok (.aload_n 0, 1) := by decide +kernel
theorem dX2_leadsTo_13 : decode cX2_leadsTo 13 = .ok (.iload_n 1, 1) := by decide +kernel
theorem dX2_leadsTo_14 : decode cX2_leadsTo 14 = .ok (.iload_n 3, 1) := by decide +kernel
theorem dX2_leadsTo_15 : decode cX2_leadsTo 15 = .ok (.invokevirtual 107, 3) := by decide +kernel
theorem dX2_leadsTo_18 : decode cX2_leadsTo 18 = .ok (.iload_n 2, 1) := by decide +kernel
theorem dX2_leadsTo_19 : decode cX2_leadsTo 19 = .ok (.if_icmp .ne 5, 3) := by decide +kernel
theorem dX2_leadsTo_22 : decode cX2_leadsTo 22 = .ok (.iconst 1, 1) := by decide +kernel
theorem dX2_leadsTo_23 : decode cX2_leadsTo 23 = .ok (.ireturn, 1) := by decide +kernel
theorem dX2_leadsTo_24 : decode cX2_leadsTo 24 = .ok (.iinc 3 1, 3) := by decide +kernel
theorem dX2_leadsTo_27 : decode cX2_leadsTo 27 = .ok (.goto (-25), 3) := by decide +kernel
theorem dX2_leadsTo_30 : decode cX2_leadsTo 30 = .ok (.iconst 0, 1) := by decide +kernel
theorem dX2_leadsTo_31 : decode cX2_leadsTo 31 = .ok (.ireturn, 1) := by decide +kernel
theorem dX2_become_0 : decode cX2_become 0 = .ok (.aload_n 0, 1) := by decide +kernel
theorem dX2_become_1 : decode cX2_become 1 = .ok (.getstatic 76, 3) := by decide +kernel
theorem dX2_become_4 : decode cX2_become 4 = .ok (.iload_n 1, 1) := by decide +kernel
theorem dX2_become_5 : decode cX2_become 5 = .ok (.iaload, 1) := by decide +kernel
theorem dX2_become_6 : decode cX2_become 6 = .ok (.getstatic 82, 3) := by decide +kernel
theorem dX2_become_9 : decode cX2_become 9 = .ok (.iload_n 1, 1) := by decide +kernel
theorem dX2_become_10 : decode cX2_become 10 = .ok (.iaload, 1) := by decide +kernel
theorem dX2_become_11 : decode cX2_become 11 = .ok (.aload_n 0, 1) := by decide +kernel
theorem dX2_become_12 : decode cX2_become 12 = .ok (.getfield 11, 3) := by decide +kernel
theorem dX2_become_15 : decode cX2_become 15 = .ok (.iload_n 1, 1) := by decide +kernel
theorem dX2_become_16 : decode cX2_become 16 = .ok (.aaload, 1) := by decide +kernel
theorem dX2_become_17 : decode cX2_become 17 = .ok (.getfield 110, 3) := by decide +kernel
theorem dX2_become_20 : decode cX2_become 20 = .ok (.aload_n 0, 1) := by decide +kernel
theorem dX2_become_21 : decode cX2_become 21 = .ok (.getfield 64, 3) := by decide +kernel
theorem dX2_become_24 : decode cX2_become 24 = .ok (.invokevirtual 113, 3) := by decide +kernel
theorem dX2_become_27 : decode cX2_become 27 = .ok (.istore_n 3, 1) := by decide +kernel
theorem dX2_become_28 : decode cX2_become 28 = .ok (.aload_n 0, 1) := by decide +kernel
theorem dX2_become_29 : decode cX2_become 29 = .ok (.ldc 117, 2) := by decide +kernel
theorem dX2_become_31 : decode cX2_become 31 = .ok (.ldc 118, 2) := by decide +kernel
theorem dX2_become_33 : decode cX2_become 33 = .ok (.aload_n 0, 1) := by decide +kernel
theorem dX2_become_34 : decode cX2_become 34 = .ok (.getfield 67, 3) := by decide +kernel
theorem dX2_become_37 : decode cX2_become 37 = .ok (.iload_n 3, 1) := by decide +kernel
theorem dX2_become_38 : decode cX2_become 38 = .ok (.iadd, 1) := by decide +kernel
theorem dX2_become_39 : decode cX2_become 39 = .ok (.invokestatic 119, 3) := by decide +kernel
theorem dX2_become_42 : decode cX2_become 42 = .ok (.invokestatic 124, 3) := by decide +kernel
theorem dX2_become_45 : decode cX2_become 45 = .ok (.putfield 67, 3) := by decide +kernel
theorem dX2_become_48 : decode cX2_become 48 = .ok (.aload_n 0, 1) := by decide +kernel
theorem dX2_become_49 : decode cX2_become 49 = .ok (.dup, 1) := by decide +kernel
theorem dX2_become_50 : decode cX2_become 50 = .ok (.getfield 64, 3) := by decide +kernel
theorem dX2_become_53 : decode cX2_become 53 = .ok (.iconst 1, 1) := by decide +kernel
theorem dX2_become_54 : decode cX2_become 54 = .ok (.iadd, 1) := by decide +kernel
theorem dX2_become_55 : decode cX2_become 55 = .ok (.putfield 64, 3) := by decide +kernel
theorem dX2_become_58 : decode cX2_become 58 = .ok (.aload_n 0, 1) := by decide +kernel
theorem dX2_become_59 : decode cX2_become 59 = .ok (.iload_n 2, 1) := by decide +kernel
theorem dX2_become_60 : decode cX2_become 60 = .ok (.putfield 58, 3) := by decide +kernel
theorem dX2_become_63 : decode cX2_become 63 = .ok (.return_, 1) := by decide +kernel
theorem dX2_meetByChance_0 : decode cX2_meetByChance 0 = .ok (.aload_n 0, 1) := by decide +kernel
theorem dX2_meetByChance_1 : decode cX2_meetByChance 1 = .ok (.getfield 58, 3) := by decide +kernel
theorem dX2_meetByChance_4 : decode cX2_meetByChance 4 = .ok (.invokestatic 104, 3) := by decide +kernel
theorem dX2_meetByChance_7 : decode cX2_meetByChance 7 = .ok (.istore_n 1, 1) := by decide +kernel
theorem dX2_meetByChance_8 : decode cX2_meetByChance 8 = .ok (.iload_n 1, 1) := by decide +kernel
theorem dX2_meetByChance_9 : decode cX2_meetByChance 9 = .ok (.iconst 2, 1) := by decide +kernel
theorem dX2_meetByChance_10 : decode cX2_meetByChance 10 = .ok (.if_icmp .ge 4, 3) := by decide +kernel
theorem dX2_meetByChance_13 : decode cX2_meetByChance 13 = .ok (.return_, 1) := by decide +kernel
theorem dX2_meetByChance_14 : decode cX2_meetByChance 14 = .ok (.aload_n 0, 1) := by decide +kernel
theorem dX2_meetByChance_15 : decode cX2_meetByChance 15 = .ok (.getfield 58, 3) := by decide +kernel
theorem dX2_meetByChance_18 : decode cX2_meetByChance 18 = .ok (.aload_n 0, 1) := by decide +kernel
theorem dX2_meetByChance_19 : decode cX2_meetByChance 19 = .ok (.invokevirtual 127, 3) := by decide +kernel
theorem dX2_meetByChance_22 : decode cX2_meetByChance 22 = .ok (.iload_n 1, 1) := by decide +kernel
theorem dX2_meetByChance_23 : decode cX2_meetByChance 23 = .ok (.irem, 1) := by decide +kernel
theorem dX2_meetByChance_24 : decode cX2_meetByChance 24 = .ok (.invokestatic 131, 3) := by decide +kernel
theorem dX2_meetByChance_27 : decode cX2_meetByChance 27 = .ok (.istore_n 2, 1) := by decide +kernel
theorem dX2_meetByChance_28 : decode cX2_meetByChance 28 = .ok (.aload_n 0, 1) := by decide +kernel
theorem dX2_meetByChance_29 : decode cX2_meetByChance 29 = .ok (.getfield 58, 3) := by decide +kernel
theorem dX2_meetByChance_32 : decode cX2_meetByChance 32 = .ok (.getstatic 89, 3) := by decide +kernel
theorem dX2_meetByChance_35 : decode cX2_meetByChance 35 = .ok (.iload_n 2, 1) := by decide +kernel
theorem dX2_meetByChance_36 : decode cX2_meetByChance 36 = .ok (.iaload, 1) := by decide +kernel
theorem dX2_meetByChance_37 : decode cX2_meetByChance 37 = .ok (.isub, 1) := by decide +kernel
theorem dX2_meetByChance_38 : decode cX2_meetByChance 38 = .ok (.aload_n 0, 1) := by decide +kernel
theorem dX2_meetByChance_39 : decode cX2_meetByChance 39 = .ok (.invokevirtual 127, 3) := by decide +kernel
theorem dX2_meetByChance_42 : decode cX2_meetByChance 42 = .ok (.iload_n 1, 1) := by decide +kernel
theorem dX2_meetByChance_43 : decode cX2_meetByChance 43 = .ok (.iconst 1, 1) := by decide +kernel
theorem dX2_meetByChance_44 : decode cX2_meetByChance 44 = .ok (.isub, 1) := by decide +kernel
theorem dX2_meetByChance_45 : decode cX2_meetByChance 45 = .ok (.irem, 1) := by decide +kernel
theorem dX2_meetByChance_46 : decode cX2_meetByChance 46 = .ok (.invokestatic 131, 3) := by decide +kernel
theorem dX2_meetByChance_49 : decode cX2_meetByChance 49 = .ok (.istore_n 3, 1) := by decide +kernel
theorem dX2_meetByChance_50 : decode cX2_meetByChance 50 = .ok (.iload_n 2, 1) := by decide +kernel
theorem dX2_meetByChance_51 : decode cX2_meetByChance 51 = .ok (.iload_n 3, 1) := by decide +kernel
theorem dX2_meetByChance_52 : decode cX2_meetByChance 52 = .ok (.invokestatic 119, 3) := by decide +kernel
theorem dX2_meetByChance_55 : decode cX2_meetByChance 55 = .ok (.istore 4, 2) := by decide +kernel
theorem dX2_meetByChance_57 : decode cX2_meetByChance 57 = .ok (.iload_n 2, 1) := by decide +kernel
theorem dX2_meetByChance_58 : decode cX2_meetByChance 58 = .ok (.iload_n 3, 1) := by decide +kernel
theorem dX2_meetByChance_59 : decode cX2_meetByChance 59 = .ok (.invokestatic 124, 3) := by decide +kernel
theorem dX2_meetByChance_62 : decode cX2_meetByChance 62 = .ok (.istore 5, 2) := by decide +kernel
theorem dX2_meetByChance_64 : decode cX2_meetByChance 64 = .ok (.iload 4, 2) := by decide +kernel
theorem dX2_meetByChance_66 : decode cX2_meetByChance 66 = .ok (.ifCond .ne 8, 3) := by decide +kernel
theorem dX2_meetByChance_69 : decode cX2_meetByChance 69 = .ok (.iload 5, 2) := by decide +kernel
theorem dX2_meetByChance_71 : decode cX2_meetByChance 71 = .ok (.goto 10, 3) := by decide +kernel
theorem dX2_meetByChance_74 : decode cX2_meetByChance 74 = .ok (.iload 4, 2) := by decide +kernel
theorem dX2_meetByChance_76 : decode cX2_meetByChance 76 = .ok (.iload 5, 2) := by decide +kernel
theorem dX2_meetByChance_78 : decode cX2_meetByChance 78 = .ok (.iadd, 1) := by decide +kernel
theorem dX2_meetByChance_79 : decode cX2_meetByChance 79 = .ok (.iconst 1, 1) := by decide +kernel
theorem dX2_meetByChance_80 : decode cX2_meetByChance 80 = .ok (.iadd, 1) := by decide +kernel
theorem dX2_meetByChance_81 : decode cX2_meetByChance 81 = .ok (.istore 6, 2) := by decide +kernel
theorem dX2_meetByChance_83 : decode cX2_meetByChance 83 = .ok (.aload_n 0, 1) := by decide +kernel
theorem dX2_meetByChance_84 : decode cX2_meetByChance 84 = .ok (.aload_n 0, 1) := by decide +kernel
theorem dX2_meetByChance_85 : decode cX2_meetByChance 85 = .ok (.getfield 58, 3) := by decide +kernel
theorem dX2_meetByChance_88 : decode cX2_meetByChance 88 = .ok (.iload 6, 2) := by decide +kernel
theorem dX2_meetByChance_90 : decode cX2_meetByChance 90 = .ok (.invokevirtual 107, 3) := by decide +kernel
theorem dX2_meetByChance_93 : decode cX2_meetByChance 93 = .ok (.istore 7, 2) := by decide +kernel
theorem dX2_meetByChance_95 : decode cX2_meetByChance 95 = .ok (.iload 7, 2) := by decide +kernel
theorem dX2_meetByChance_97 : decode cX2_meetByChance 97 = .ok (.iconst (-1), 1) := by decide +kernel
theorem dX2_meetByChance_98 : decode cX2_meetByChance 98 = .ok (.if_icmp .eq 11, 3) := by decide +kernel
theorem dX2_meetByChance_101 : decode cX2_meetByChance 101 = .ok (.aload_n 0, 1) := by decide +kernel
theorem dX2_meetByChance_102 : decode cX2_meetByChance 102 = .ok (.iload 6, 2) := by decide +kernel
theorem dX2_meetByChance_104 : decode cX2_meetByChance 104 = .ok (.iload 7, 2) := by decide +kernel
theorem dX2_meetByChance_106 : decode cX2_meetByChance 106 = .ok (.invokevirtual 134, 3) := by decide +kernel
theorem dX2_meetByChance_109 : decode cX2_meetByChance 109 = .ok (.return_, 1) := by decide +kernel
theorem dX2_draw_0 : decode cX2_draw 0 = .ok (.aload_n 0, 1) := by decide +kernel
theorem dX2_draw_1 : decode cX2_draw 1 = .ok (.aload_n 0, 1) := by decide +kernel
theorem dX2_draw_2 : decode cX2_draw 2 = .ok (.getfield 35, 3) := by decide +kernel
theorem dX2_draw_5 : decode cX2_draw 5 = .ok (.ldc 138, 2) := by decide +kernel
theorem dX2_draw_7 : decode cX2_draw 7 = .ok (.imul, 1) := by decide +kernel
theorem dX2_draw_8 : decode cX2_draw 8 = .ok (.sipush 12345, 3) := by decide +kernel
theorem dX2_draw_11 : decode cX2_draw 11 = .ok (.iadd, 1) := by decide +kernel
theorem dX2_draw_12 : decode cX2_draw 12 = .ok (.putfield 35, 3) := by decide +kernel
theorem dX2_draw_15 : decode cX2_draw 15 = .ok (.aload_n 0, 1) := by decide +kernel
theorem dX2_draw_16 : decode cX2_draw 16 = .ok (.getfield 35, 3) := by decide +kernel
theorem dX2_draw_19 : decode cX2_draw 19 = .ok (.bipush 8, 2) := by decide +kernel
theorem dX2_draw_21 : decode cX2_draw 21 = .ok (.iushr, 1) := by decide +kernel
theorem dX2_draw_22 : decode cX2_draw 22 = .ok (.ireturn, 1) := by decide +kernel
theorem dX2_sortAt_0 : decode cX2_sortAt 0 = .ok (.iload_n 0, 1) := by decide +kernel
theorem dX2_sortAt_1 : decode cX2_sortAt 1 = .ok (.iconst 0, 1) := by decide +kernel
theorem dX2_sortAt_2 : decode cX2_sortAt 2 = .ok (.invokestatic 100, 3) := by decide +kernel
theorem dX2_sortAt_5 : decode cX2_sortAt 5 = .ok (.istore_n 2, 1) := by decide +kernel
theorem dX2_sortAt_6 : decode cX2_sortAt 6 = .ok (.iload_n 1, 1) := by decide +kernel
theorem dX2_sortAt_7 : decode cX2_sortAt 7 = .ok (.iload_n 2, 1) := by decide +kernel
theorem dX2_sortAt_8 : decode cX2_sortAt 8 = .ok (.if_icmp .ge 5, 3) := by decide +kernel
theorem dX2_sortAt_11 : decode cX2_sortAt 11 = .ok (.iconst 0, 1) := by decide +kernel
theorem dX2_sortAt_12 : decode cX2_sortAt 12 = .ok (.ireturn, 1) := by decide +kernel
theorem dX2_sortAt_13 : decode cX2_sortAt 13 = .ok (.iload_n 1, 1) := by decide +kernel
theorem dX2_sortAt_14 : decode cX2_sortAt 14 = .ok (.iload_n 2, 1) := by decide +kernel
theorem dX2_sortAt_15 : decode cX2_sortAt 15 = .ok (.iload_n 0, 1) := by decide +kernel
theorem dX2_sortAt_16 : decode cX2_sortAt 16 = .ok (.iconst 1, 1) := by decide +kernel
theorem dX2_sortAt_17 : decode cX2_sortAt 17 = .ok (.invokestatic 100, 3) := by decide +kernel
theorem dX2_sortAt_20 : decode cX2_sortAt 20 = .ok (.iadd, 1) := by decide +kernel
theorem dX2_sortAt_21 : decode cX2_sortAt 21 = .ok (.if_icmp .ge 7, 3) := by decide +kernel
theorem dX2_sortAt_24 : decode cX2_sortAt 24 = .ok (.iconst 1, 1) := by decide +kernel
theorem dX2_sortAt_25 : decode cX2_sortAt 25 = .ok (.goto 4, 3) := by decide +kernel
theorem dX2_sortAt_28 : decode cX2_sortAt 28 = .ok (.iconst 2, 1) := by decide +kernel
theorem dX2_sortAt_29 : decode cX2_sortAt 29 = .ok (.ireturn, 1) := by decide +kernel
theorem dX2_sortGiven_0 : decode cX2_sortGiven 0 = .ok (.aload_n 0, 1) := by decide +kernel
theorem dX2_sortGiven_1 : decode cX2_sortGiven 1 = .ok (.getfield 19, 3) := by decide +kernel
theorem dX2_sortGiven_4 : decode cX2_sortGiven 4 = .ok (.iconst 0, 1) := by decide +kernel
theorem dX2_sortGiven_5 : decode cX2_sortGiven 5 = .ok (.aaload, 1) := by decide +kernel
theorem dX2_sortGiven_6 : decode cX2_sortGiven 6 = .ok (.ifnonnull 11, 3) := by decide +kernel
theorem dX2_sortGiven_9 : decode cX2_sortGiven 9 = .ok (.iload_n 1, 1) := by decide +kernel
theorem dX2_sortGiven_10 : decode cX2_sortGiven 10 = .ok (.iload_n 2, 1) := by decide +kernel
theorem dX2_sortGiven_11 : decode cX2_sortGiven 11 = .ok (.iadd, 1) := by decide +kernel
theorem dX2_sortGiven_12 : decode cX2_sortGiven 12 = .ok (.iload_n 3, 1) := by decide +kernel
theorem dX2_sortGiven_13 : decode cX2_sortGiven 13 = .ok (.iadd, 1) := by decide +kernel
theorem dX2_sortGiven_14 : decode cX2_sortGiven 14 = .ok (.goto 16, 3) := by decide +kernel
theorem dX2_sortGiven_17 : decode cX2_sortGiven 17 = .ok (.aload_n 0, 1) := by decide +kernel
theorem dX2_sortGiven_18 : decode cX2_sortGiven 18 = .ok (.getfield 19, 3) := by decide +kernel
theorem dX2_sortGiven_21 : decode cX2_sortGiven 21 = .ok (.iconst 0, 1) := by decide +kernel
theorem dX2_sortGiven_22 : decode cX2_sortGiven 22 = .ok (.aaload, 1) := by decide +kernel
theorem dX2_sortGiven_23 : decode cX2_sortGiven 23 = .ok (.iload_n 1, 1) := by decide +kernel
theorem dX2_sortGiven_24 : decode cX2_sortGiven 24 = .ok (.iload_n 2, 1) := by decide +kernel
theorem dX2_sortGiven_25 : decode cX2_sortGiven 25 = .ok (.iload_n 3, 1) := by decide +kernel
theorem dX2_sortGiven_26 : decode cX2_sortGiven 26 = .ok (.iconst 0, 1) := by decide +kernel
theorem dX2_sortGiven_27 : decode cX2_sortGiven 27 = .ok (.invokevirtual 139, 3) := by decide +kernel
theorem dX2_sortGiven_30 : decode cX2_sortGiven 30 = .ok (.istore 4, 2) := by decide +kernel
theorem dX2_sortGiven_32 : decode cX2_sortGiven 32 = .ok (.iconst 0, 1) := by decide +kernel
theorem dX2_sortGiven_33 : decode cX2_sortGiven 33 = .ok (.iload 4, 2) := by decide +kernel
theorem dX2_sortGiven_35 : decode cX2_sortGiven 35 = .ok (.iconst 3, 1) := by decide +kernel
theorem dX2_sortGiven_36 : decode cX2_sortGiven 36 = .ok (.irem, 1) := by decide +kernel
theorem dX2_sortGiven_37 : decode cX2_sortGiven 37 = .ok (.invokestatic 124, 3) := by decide +kernel
theorem dX2_sortGiven_40 : decode cX2_sortGiven 40 = .ok (.ireturn, 1) := by decide +kernel
theorem dX2_priceGiven_0 : decode cX2_priceGiven 0 = .ok (.aload_n 0, 1) := by decide +kernel
theorem dX2_priceGiven_1 : decode cX2_priceGiven 1 = .ok (.getfield 19, 3) := by decide +kernel
theorem dX2_priceGiven_4 : decode cX2_priceGiven 4 = .ok (.iconst 1, 1) := by decide +kernel
theorem dX2_priceGiven_5 : decode cX2_priceGiven 5 = .ok (.aaload, 1) := by decide +kernel
theorem dX2_priceGiven_6 : decode cX2_priceGiven 6 = .ok (.ifnonnull 7, 3) := by decide +kernel
theorem dX2_priceGiven_9 : decode cX2_priceGiven 9 = .ok (.iconst 1, 1) := by decide +kernel
theorem dX2_priceGiven_10 : decode cX2_priceGiven 10 = .ok (.goto 17, 3) := by decide +kernel
theorem dX2_priceGiven_13 : decode cX2_priceGiven 13 = .ok (.aload_n 0, 1) := by decide +kernel
theorem dX2_priceGiven_14 : decode cX2_priceGiven 14 = .ok (.getfield 19, 3) := by decide +kernel
theorem dX2_priceGiven_17 : decode cX2_priceGiven 17 = .ok (.iconst 1, 1) := by decide +kernel
theorem dX2_priceGiven_18 : decode cX2_priceGiven 18 = .ok (.aaload, 1) := by decide +kernel
theorem dX2_priceGiven_19 : decode cX2_priceGiven 19 = .ok (.iload_n 1, 1) := by decide +kernel
theorem dX2_priceGiven_20 : decode cX2_priceGiven 20 = .ok (.iload_n 2, 1) := by decide +kernel
theorem dX2_priceGiven_21 : decode cX2_priceGiven 21 = .ok (.iload_n 3, 1) := by decide +kernel
theorem dX2_priceGiven_22 : decode cX2_priceGiven 22 = .ok (.iload 4, 2) := by decide +kernel
theorem dX2_priceGiven_24 : decode cX2_priceGiven 24 = .ok (.invokevirtual 139, 3) := by decide +kernel
theorem dX2_priceGiven_27 : decode cX2_priceGiven 27 = .ok (.istore 5, 2) := by decide +kernel
theorem dX2_priceGiven_29 : decode cX2_priceGiven 29 = .ok (.bipush (-99), 2) := by decide +kernel
theorem dX2_priceGiven_31 : decode cX2_priceGiven 31 = .ok (.bipush 99, 2) := by decide +kernel
theorem dX2_priceGiven_33 : decode cX2_priceGiven 33 = .ok (.iload 5, 2) := by decide +kernel
theorem dX2_priceGiven_35 : decode cX2_priceGiven 35 = .ok (.invokestatic 119, 3) := by decide +kernel
theorem dX2_priceGiven_38 : decode cX2_priceGiven 38 = .ok (.invokestatic 124, 3) := by decide +kernel
theorem dX2_priceGiven_41 : decode cX2_priceGiven 41 = .ok (.ireturn, 1) := by decide +kernel
theorem dX2_keepsRest_0 : decode cX2_keepsRest 0 = .ok (.iconst 0, 1) := by decide +kernel
theorem dX2_keepsRest_1 : decode cX2_keepsRest 1 = .ok (.istore_n 3, 1) := by decide +kernel
theorem dX2_keepsRest_2 : decode cX2_keepsRest 2 = .ok (.iload_n 3, 1) := by decide +kernel
theorem dX2_keepsRest_3 : decode cX2_keepsRest 3 = .ok (.bipush 6, 2) := by decide +kernel
theorem dX2_keepsRest_5 : decode cX2_keepsRest 5 = .ok (.if_icmp .ge 76, 3) := by decide +kernel
theorem dX2_keepsRest_8 : decode cX2_keepsRest 8 = .ok (.iload_n 3, 1) := by decide +kernel
theorem dX2_keepsRest_9 : decode cX2_keepsRest 9 = .ok (.iconst 3, 1) := by decide +kernel
theorem dX2_keepsRest_10 : decode cX2_keepsRest 10 = .ok (.imul, 1) := by decide +kernel
theorem dX2_keepsRest_11 : decode cX2_keepsRest 11 = .ok (.istore 4, 2) := by decide +kernel
theorem dX2_keepsRest_13 : decode cX2_keepsRest 13 = .ok (.iload_n 1, 1) := by decide +kernel
theorem dX2_keepsRest_14 : decode cX2_keepsRest 14 = .ok (.iload_n 2, 1) := by decide +kernel
theorem dX2_keepsRest_15 : decode cX2_keepsRest 15 = .ok (.iload_n 2, 1) := by decide +kernel
theorem dX2_keepsRest_16 : decode cX2_keepsRest 16 = .ok (.imul, 1) := by decide +kernel
theorem dX2_keepsRest_17 : decode cX2_keepsRest 17 = .ok (.idiv, 1) := by decide +kernel
theorem dX2_keepsRest_18 : decode cX2_keepsRest 18 = .ok (.aload_n 0, 1) := by decide +kernel
theorem dX2_keepsRest_19 : decode cX2_keepsRest 19 = .ok (.getfield 39, 3) := by decide +kernel
theorem dX2_keepsRest_22 : decode cX2_keepsRest 22 = .ok (.iload 4, 2) := by decide +kernel
theorem dX2_keepsRest_24 : decode cX2_keepsRest 24 = .ok (.iaload, 1) := by decide +kernel
theorem dX2_keepsRest_25 : decode cX2_keepsRest 25 = .ok (.imul, 1) := by decide +kernel
theorem dX2_keepsRest_26 : decode cX2_keepsRest 26 = .ok (.iload_n 1, 1) := by decide +kernel
theorem dX2_keepsRest_27 : decode cX2_keepsRest 27 = .ok (.iload_n 2, 1) := by decide +kernel
theorem dX2_keepsRest_28 : decode cX2_keepsRest 28 = .ok (.idiv, 1) := by decide +kernel
theorem dX2_keepsRest_29 : decode cX2_keepsRest 29 = .ok (.iload_n 2, 1) := by decide +kernel
theorem dX2_keepsRest_30 : decode cX2_keepsRest 30 = .ok (.irem, 1) := by decide +kernel
theorem dX2_keepsRest_31 : decode cX2_keepsRest 31 = .ok (.aload_n 0, 1) := by decide +kernel
theorem dX2_keepsRest_32 : decode cX2_keepsRest 32 = .ok (.getfield 39, 3) := by decide +kernel
theorem dX2_keepsRest_35 : decode cX2_keepsRest 35 = .ok (.iload 4, 2) := by decide +kernel
theorem dX2_keepsRest_37 : decode cX2_keepsRest 37 = .ok (.iconst 1, 1) := by decide +kernel
theorem dX2_keepsRest_38 : decode cX2_keepsRest 38 = .ok (.iadd, 1) := by decide +kernel
theorem dX2_keepsRest_39 : decode cX2_keepsRest 39 = .ok (.iaload, 1) := by decide +kernel
theorem dX2_keepsRest_40 : decode cX2_keepsRest 40 = .ok (.imul, 1) := by decide +kernel
theorem dX2_keepsRest_41 : decode cX2_keepsRest 41 = .ok (.iadd, 1) := by decide +kernel
theorem dX2_keepsRest_42 : decode cX2_keepsRest 42 = .ok (.iload_n 1, 1) := by decide +kernel
theorem dX2_keepsRest_43 : decode cX2_keepsRest 43 = .ok (.iload_n 2, 1) := by decide +kernel
theorem dX2_keepsRest_44 : decode cX2_keepsRest 44 = .ok (.irem, 1) := by decide +kernel
theorem dX2_keepsRest_45 : decode cX2_keepsRest 45 = .ok (.aload_n 0, 1) := by decide +kernel
theorem dX2_keepsRest_46 : decode cX2_keepsRest 46 = .ok (.getfield 39, 3) := by decide +kernel
theorem dX2_keepsRest_49 : decode cX2_keepsRest 49 = .ok (.iload 4, 2) := by decide +kernel
theorem dX2_keepsRest_51 : decode cX2_keepsRest 51 = .ok (.iconst 2, 1) := by decide +kernel
theorem dX2_keepsRest_52 : decode cX2_keepsRest 52 = .ok (.iadd, 1) := by decide +kernel
theorem dX2_keepsRest_53 : decode cX2_keepsRest 53 = .ok (.iaload, 1) := by decide +kernel
theorem dX2_keepsRest_54 : decode cX2_keepsRest 54 = .ok (.imul, 1) := by decide +kernel
theorem dX2_keepsRest_55 : decode cX2_keepsRest 55 = .ok (.iadd, 1) := by decide +kernel
theorem dX2_keepsRest_56 : decode cX2_keepsRest 56 = .ok (.istore 5, 2) := by decide +kernel
theorem dX2_keepsRest_58 : decode cX2_keepsRest 58 = .ok (.aload_n 0, 1) := by decide +kernel
theorem dX2_keepsRest_59 : decode cX2_keepsRest 59 = .ok (.iload_n 3, 1) := by decide +kernel
theorem dX2_keepsRest_60 : decode cX2_keepsRest 60 = .ok (.invokevirtual 96, 3) := by decide +kernel
theorem dX2_keepsRest_63 : decode cX2_keepsRest 63 = .ok (.ifCond .ne 12, 3) := by decide +kernel
theorem dX2_keepsRest_66 : decode cX2_keepsRest 66 = .ok (.iload 5, 2) := by decide +kernel
theorem dX2_keepsRest_68 : decode cX2_keepsRest 68 = .ok (.iload_n 2, 1) := by decide +kernel
theorem dX2_keepsRest_69 : decode cX2_keepsRest 69 = .ok (.irem, 1) := by decide +kernel
theorem dX2_keepsRest_70 : decode cX2_keepsRest 70 = .ok (.ifCond .eq 5, 3) := by decide +kernel
theorem dX2_keepsRest_73 : decode cX2_keepsRest 73 = .ok (.iconst 0, 1) := by decide +kernel
theorem dX2_keepsRest_74 : decode cX2_keepsRest 74 = .ok (.ireturn, 1) := by decide +kernel
theorem dX2_keepsRest_75 : decode cX2_keepsRest 75 = .ok (.iinc 3 1, 3) := by decide +kernel
theorem dX2_keepsRest_78 : decode cX2_keepsRest 78 = .ok (.goto (-76), 3) := by decide +kernel
theorem dX2_keepsRest_81 : decode cX2_keepsRest 81 = .ok (.iconst 1, 1) := by decide +kernel
theorem dX2_keepsRest_82 : decode cX2_keepsRest 82 = .ok (.ireturn, 1) := by decide +kernel
theorem dX3_init_0 : decode cX3_init 0 = .ok (.aload_n 0, 1) := by decide +kernel
theorem dX3_init_1 : decode cX3_init 1 = .ok (.iload_n 1, 1) := by decide +kernel
theorem dX3_init_2 : decode cX3_init 2 = .ok (.iload_n 2, 1) := by decide +kernel
theorem dX3_init_3 : decode cX3_init 3 = .ok (.iload_n 3, 1) := by decide +kernel
theorem dX3_init_4 : decode cX3_init 4 = .ok (.invokespecial 1, 3) := by decide +kernel
theorem dX3_init_7 : decode cX3_init 7 = .ok (.return_, 1) := by decide +kernel
theorem dX3_comes_0 : decode cX3_comes 0 = .ok (.iload_n 1, 1) := by decide +kernel
theorem dX3_comes_1 : decode cX3_comes 1 = .ok (.ifCond .ne 22, 3) := by decide +kernel
theorem dX3_comes_4 : decode cX3_comes 4 = .ok (.aload_n 0, 1) := by decide +kernel
theorem dX3_comes_5 : decode cX3_comes 5 = .ok (.getfield 7, 3) := by decide +kernel
theorem dX3_comes_8 : decode cX3_comes 8 = .ok (.aload_n 0, 1) := by decide +kernel
theorem dX3_comes_9 : decode cX3_comes 9 = .ok (.getfield 13, 3) := by decide +kernel
theorem dX3_comes_12 : decode cX3_comes 12 = .ok (.iadd, 1) := by decide +kernel
theorem dX3_comes_13 : decode cX3_comes 13 = .ok (.aload_n 0, 1) := by decide +kernel
theorem dX3_comes_14 : decode cX3_comes 14 = .ok (.getfield 16, 3) := by decide +kernel
theorem dX3_comes_17 : decode cX3_comes 17 = .ok (.iadd, 1) := by decide +kernel
theorem dX3_comes_18 : decode cX3_comes 18 = .ok (.iconst 3, 1) := by decide +kernel
theorem dX3_comes_19 : decode cX3_comes 19 = .ok (.irem, 1) := by decide +kernel
theorem dX3_comes_20 : decode cX3_comes 20 = .ok (.goto 9, 3) := by decide +kernel
theorem dX3_comes_23 : decode cX3_comes 23 = .ok (.aload_n 0, 1) := by decide +kernel
theorem dX3_comes_24 : decode cX3_comes 24 = .ok (.iload_n 1, 1) := by decide +kernel
theorem dX3_comes_25 : decode cX3_comes 25 = .ok (.aload_n 2, 1) := by decide +kernel
theorem dX3_comes_26 : decode cX3_comes 26 = .ok (.invokespecial 19, 3) := by decide +kernel
theorem dX3_comes_29 : decode cX3_comes 29 = .ok (.ireturn, 1) := by decide +kernel
theorem dX3_voiceTells_0 : decode cX3_voiceTells 0 = .ok (.aload_n 2, 1) := by decide +kernel
theorem dX3_voiceTells_1 : decode cX3_voiceTells 1 = .ok (.bipush 60, 2) := by decide +kernel
theorem dX3_voiceTells_3 : decode cX3_voiceTells 3 = .ok (.invokevirtual 23, 3) := by decide +kernel
theorem dX3_voiceTells_6 : decode cX3_voiceTells 6 = .ok (.pop, 1) := by decide +kernel
theorem dX3_voiceTells_7 : decode cX3_voiceTells 7 = .ok (.aload_n 0, 1) := by decide +kernel
theorem dX3_voiceTells_8 : decode cX3_voiceTells 8 = .ok (.iload_n 1, 1) := by decide +kernel
theorem dX3_voiceTells_9 : decode cX3_voiceTells 9 = .ok (.aload_n 2, 1) := by decide +kernel
theorem dX3_voiceTells_10 : decode cX3_voiceTells 10 = .ok (.invokespecial 29, 3) := by decide +kernel
theorem dX3_voiceTells_13 : decode cX3_voiceTells 13 = .ok (.istore_n 3, 1) := by decide +kernel
theorem dX3_voiceTells_14 : decode cX3_voiceTells 14 = .ok (.iload_n 3, 1) := by decide +kernel
theorem dX3_voiceTells_15 : decode cX3_voiceTells 15 = .ok (.aload_n 0, 1) := by decide +kernel
theorem dX3_voiceTells_16 : decode cX3_voiceTells 16 = .ok (.iconst 2, 1) := by decide +kernel
theorem dX3_voiceTells_17 : decode cX3_voiceTells 17 = .ok (.aload_n 2, 1) := by decide +kernel
theorem dX3_voiceTells_18 : decode cX3_voiceTells 18 = .ok (.invokevirtual 33, 3) := by decide +kernel
theorem dX3_voiceTells_21 : decode cX3_voiceTells 21 = .ok (.isub, 1) := by decide +kernel
theorem dX3_voiceTells_22 : decode cX3_voiceTells 22 = .ok (.ireturn, 1) := by decide +kernel
theorem dX4_init_0 : decode cX4_init 0 = .ok (.aload_n 0, 1) := by decide +kernel
theorem dX4_init_1 : decode cX4_init 1 = .ok (.invokespecial 3, 3) := by decide +kernel
theorem dX4_init_4 : decode cX4_init 4 = .ok (.aload_n 0, 1) := by decide +kernel
theorem dX4_init_5 : decode cX4_init 5 = .ok (.iload_n 1, 1) := by decide +kernel
theorem dX4_init_6 : decode cX4_init 6 = .ok (.putfield 9, 3) := by decide +kernel
theorem dX4_init_9 : decode cX4_init 9 = .ok (.aload_n 0, 1) := by decide +kernel
theorem dX4_init_10 : decode cX4_init 10 = .ok (.iload_n 2, 1) := by decide +kernel
theorem dX4_init_11 : decode cX4_init 11 = .ok (.putfield 15, 3) := by decide +kernel
theorem dX4_init_14 : decode cX4_init 14 = .ok (.aload_n 0, 1) := by decide +kernel
theorem dX4_init_15 : decode cX4_init 15 = .ok (.iload_n 3, 1) := by decide +kernel
theorem dX4_init_16 : decode cX4_init 16 = .ok (.putfield 18, 3) := by decide +kernel
theorem dX4_init_19 : decode cX4_init 19 = .ok (.aload_n 0, 1) := by decide +kernel
theorem dX4_init_20 : decode cX4_init 20 = .ok (.getstatic 21, 3) := by decide +kernel
theorem dX4_init_23 : decode cX4_init 23 = .ok (.iload_n 2, 1) := by decide +kernel
theorem dX4_init_24 : decode cX4_init 24 = .ok (.iaload, 1) := by decide +kernel
theorem dX4_init_25 : decode cX4_init 25 = .ok (.putfield 25, 3) := by decide +kernel
theorem dX4_init_28 : decode cX4_init 28 = .ok (.aload_n 0, 1) := by decide +kernel
theorem dX4_init_29 : decode cX4_init 29 = .ok (.getstatic 28, 3) := by decide +kernel
theorem dX4_init_32 : decode cX4_init 32 = .ok (.iload_n 2, 1) := by decide +kernel
theorem dX4_init_33 : decode cX4_init 33 = .ok (.iaload, 1) := by decide +kernel
theorem dX4_init_34 : decode cX4_init 34 = .ok (.putfield 31, 3) := by decide +kernel
theorem dX4_init_37 : decode cX4_init 37 = .ok (.return_, 1) := by decide +kernel
theorem dX4_comes_0 : decode cX4_comes 0 = .ok (.iload_n 1, 1) := by decide +kernel
theorem dX4_comes_1 : decode cX4_comes 1 = .ok (.ifCond .ne 10, 3) := by decide +kernel
theorem dX4_comes_4 : decode cX4_comes 4 = .ok (.aload_n 0, 1) := by decide +kernel
theorem dX4_comes_5 : decode cX4_comes 5 = .ok (.getfield 25, 3) := by decide +kernel
theorem dX4_comes_8 : decode cX4_comes 8 = .ok (.goto 16, 3) := by decide +kernel
theorem dX4_comes_11 : decode cX4_comes 11 = .ok (.iload_n 1, 1) := by decide +kernel
theorem dX4_comes_12 : decode cX4_comes 12 = .ok (.iconst 1, 1) := by decide +kernel
theorem dX4_comes_13 : decode cX4_comes 13 = .ok (.if_icmp .ne 10, 3) := by decide +kernel
theorem dX4_comes_16 : decode cX4_comes 16 = .ok (.aload_n 0, 1) := by decide +kernel
theorem dX4_comes_17 : decode cX4_comes 17 = .ok (.getfield 31, 3) := by decide +kernel
theorem dX4_comes_20 : decode cX4_comes 20 = .ok (.goto 4, 3) := by decide +kernel
theorem dX4_comes_23 : decode cX4_comes 23 = .ok (.iconst (-1), 1) := by decide +kernel
theorem dX4_comes_24 : decode cX4_comes 24 = .ok (.ireturn, 1) := by decide +kernel
theorem dX4_voiceMeets_0 : decode cX4_voiceMeets 0 = .ok (.aload_n 2, 1) := by decide +kernel
theorem dX4_voiceMeets_1 : decode cX4_voiceMeets 1 = .ok (.bipush 10, 2) := by decide +kernel
theorem dX4_voiceMeets_3 : decode cX4_voiceMeets 3 = .ok (.invokevirtual 34, 3) := by decide +kernel
theorem dX4_voiceMeets_6 : decode cX4_voiceMeets 6 = .ok (.pop, 1) := by decide +kernel
theorem dX4_voiceMeets_7 : decode cX4_voiceMeets 7 = .ok (.iload_n 1, 1) := by decide +kernel
theorem dX4_voiceMeets_8 : decode cX4_voiceMeets 8 = .ok (.aload_n 0, 1) := by decide +kernel
theorem dX4_voiceMeets_9 : decode cX4_voiceMeets 9 = .ok (.getfield 15, 3) := by decide +kernel
theorem dX4_voiceMeets_12 : decode cX4_voiceMeets 12 = .ok (.iadd, 1) := by decide +kernel
theorem dX4_voiceMeets_13 : decode cX4_voiceMeets 13 = .ok (.ireturn, 1) := by decide +kernel
theorem dX4_voiceTurns_0 : decode cX4_voiceTurns 0 = .ok (.aload_n 2, 1) := by decide +kernel
theorem dX4_voiceTurns_1 : decode cX4_voiceTurns 1 = .ok (.bipush 11, 2) := by decide +kernel
theorem dX4_voiceTurns_3 : decode cX4_voiceTurns 3 = .ok (.invokevirtual 34, 3) := by decide +kernel
theorem dX4_voiceTurns_6 : decode cX4_voiceTurns 6 = .ok (.pop, 1) := by decide +kernel
theorem dX4_voiceTurns_7 : decode cX4_voiceTurns 7 = .ok (.aload_n 0, 1) := by decide +kernel
theorem dX4_voiceTurns_8 : decode cX4_voiceTurns 8 = .ok (.iload_n 1, 1) := by decide +kernel
theorem dX4_voiceTurns_9 : decode cX4_voiceTurns 9 = .ok (.aload_n 2, 1) := by decide +kernel
theorem dX4_voiceTurns_10 : decode cX4_voiceTurns 10 = .ok (.invokevirtual 40, 3) := by decide +kernel
theorem dX4_voiceTurns_13 : decode cX4_voiceTurns 13 = .ok (.iconst 2, 1) := by decide +kernel
theorem dX4_voiceTurns_14 : decode cX4_voiceTurns 14 = .ok (.imul, 1) := by decide +kernel
theorem dX4_voiceTurns_15 : decode cX4_voiceTurns 15 = .ok (.ireturn, 1) := by decide +kernel
theorem dX4_voiceStays_0 : decode cX4_voiceStays 0 = .ok (.aload_n 2, 1) := by decide +kernel
theorem dX4_voiceStays_1 : decode cX4_voiceStays 1 = .ok (.bipush 12, 2) := by decide +kernel
theorem dX4_voiceStays_3 : decode cX4_voiceStays 3 = .ok (.invokevirtual 34, 3) := by decide +kernel
theorem dX4_voiceStays_6 : decode cX4_voiceStays 6 = .ok (.pop, 1) := by decide +kernel
theorem dX4_voiceStays_7 : decode cX4_voiceStays 7 = .ok (.iload_n 1, 1) := by decide +kernel
theorem dX4_voiceStays_8 : decode cX4_voiceStays 8 = .ok (.aload_n 0, 1) := by decide +kernel
theorem dX4_voiceStays_9 : decode cX4_voiceStays 9 = .ok (.getfield 18, 3) := by decide +kernel
theorem dX4_voiceStays_12 : decode cX4_voiceStays 12 = .ok (.isub, 1) := by decide +kernel
theorem dX4_voiceStays_13 : decode cX4_voiceStays 13 = .ok (.ireturn, 1) := by decide +kernel
theorem dX4_voiceTells_0 : decode cX4_voiceTells 0 = .ok (.aload_n 2, 1) := by decide +kernel
theorem dX4_voiceTells_1 : decode cX4_voiceTells 1 = .ok (.bipush 13, 2) := by decide +kernel
theorem dX4_voiceTells_3 : decode cX4_voiceTells 3 = .ok (.invokevirtual 34, 3) := by decide +kernel
theorem dX4_voiceTells_6 : decode cX4_voiceTells 6 = .ok (.pop, 1) := by decide +kernel
theorem dX4_voiceTells_7 : decode cX4_voiceTells 7 = .ok (.aload_n 0, 1) := by decide +kernel
theorem dX4_voiceTells_8 : decode cX4_voiceTells 8 = .ok (.iload_n 1, 1) := by decide +kernel
theorem dX4_voiceTells_9 : decode cX4_voiceTells 9 = .ok (.aload_n 2, 1) := by decide +kernel
theorem dX4_voiceTells_10 : decode cX4_voiceTells 10 = .ok (.invokevirtual 44, 3) := by decide +kernel
theorem dX4_voiceTells_13 : decode cX4_voiceTells 13 = .ok (.istore_n 3, 1) := by decide +kernel
theorem dX4_voiceTells_14 : decode cX4_voiceTells 14 = .ok (.iload_n 3, 1) := by decide +kernel
theorem dX4_voiceTells_15 : decode cX4_voiceTells 15 = .ok (.aload_n 0, 1) := by decide +kernel
theorem dX4_voiceTells_16 : decode cX4_voiceTells 16 = .ok (.iload_n 1, 1) := by decide +kernel
theorem dX4_voiceTells_17 : decode cX4_voiceTells 17 = .ok (.aload_n 2, 1) := by decide +kernel
theorem dX4_voiceTells_18 : decode cX4_voiceTells 18 = .ok (.invokevirtual 47, 3) := by decide +kernel
theorem dX4_voiceTells_21 : decode cX4_voiceTells 21 = .ok (.ixor, 1) := by decide +kernel
theorem dX4_voiceTells_22 : decode cX4_voiceTells 22 = .ok (.ireturn, 1) := by decide +kernel
theorem dX5_init_0 : decode cX5_init 0 = .ok (.aload_n 0, 1) := by decide +kernel
theorem dX5_init_1 : decode cX5_init 1 = .ok (.invokespecial 1, 3) := by decide +kernel
theorem dX5_init_4 : decode cX5_init 4 = .ok (.aload_n 0, 1) := by decide +kernel
theorem dX5_init_5 : decode cX5_init 5 = .ok (.iconst 0, 1) := by decide +kernel
theorem dX5_init_6 : decode cX5_init 6 = .ok (.iload_n 1, 1) := by decide +kernel
theorem dX5_init_7 : decode cX5_init 7 = .ok (.invokestatic 7, 3) := by decide +kernel
theorem dX5_init_10 : decode cX5_init 10 = .ok (.newarray .int, 2) := by decide +kernel
theorem dX5_init_12 : decode cX5_init 12 = .ok (.putfield 13, 3) := by decide +kernel
theorem dX5_init_15 : decode cX5_init 15 = .ok (.return_, 1) := by decide +kernel
theorem dX5_add_0 : decode cX5_add 0 = .ok (.aload_n 0, 1) := by decide +kernel
theorem dX5_add_1 : decode cX5_add 1 = .ok (.getfield 19, 3) := by decide +kernel
theorem dX5_add_4 : decode cX5_add 4 = .ok (.aload_n 0, 1) := by decide +kernel
theorem dX5_add_5 : decode cX5_add 5 = .ok (.getfield 13, 3) := by decide +kernel
theorem dX5_add_8 : decode cX5_add 8 = .ok (.arraylength, 1) := by decide +kernel
theorem dX5_add_9 : decode cX5_add 9 = .ok (.if_icmp .lt 5, 3) := by decide +kernel
theorem dX5_add_12 : decode cX5_add 12 = .ok (.iconst 0, 1) := by decide +kernel
theorem dX5_add_13 : decode cX5_add 13 = .ok (.ireturn, 1) := by decide +kernel
theorem dX5_add_14 : decode cX5_add 14 = .ok (.aload_n 0, 1) := by decide +kernel
theorem dX5_add_15 : decode cX5_add 15 = .ok (.getfield 13, 3) := by decide +kernel
theorem dX5_add_18 : decode cX5_add 18 = .ok (.aload_n 0, 1) := by decide +kernel
theorem dX5_add_19 : decode cX5_add 19 = .ok (.getfield 19, 3) := by decide +kernel
theorem dX5_add_22 : decode cX5_add 22 = .ok (.iload_n 1, 1) := by decide +kernel
theorem dX5_add_23 : decode cX5_add 23 = .ok (.iastore, 1) := by decide +kernel
theorem dX5_add_24 : decode cX5_add 24 = .ok (.aload_n 0, 1) := by decide +kernel
theorem dX5_add_25 : decode cX5_add 25 = .ok (.dup, 1) := by decide +kernel
theorem dX5_add_26 : decode cX5_add 26 = .ok (.getfield 19, 3) := by decide +kernel
theorem dX5_add_29 : decode cX5_add 29 = .ok (.iconst 1, 1) := by decide +kernel
theorem dX5_add_30 : decode cX5_add 30 = .ok (.iadd, 1) := by decide +kernel
theorem dX5_add_31 : decode cX5_add 31 = .ok (.putfield 19, 3) := by decide +kernel
theorem dX5_add_34 : decode cX5_add 34 = .ok (.iconst 1, 1) := by decide +kernel
theorem dX5_add_35 : decode cX5_add 35 = .ok (.ireturn, 1) := by decide +kernel
theorem dX5_has_0 : decode cX5_has 0 = .ok (.iload_n 1, 1) := by decide +kernel
theorem dX5_has_1 : decode cX5_has 1 = .ok (.ifCond .lt 15, 3) := by decide +kernel
theorem dX5_has_4 : decode cX5_has 4 = .ok (.iload_n 1, 1) := by decide +kernel
theorem dX5_has_5 : decode cX5_has 5 = .ok (.aload_n 0, 1) := by decide +kernel
theorem dX5_has_6 : decode cX5_has 6 = .ok (.getfield 19, 3) := by decide +kernel
theorem dX5_has_9 : decode cX5_has 9 = .ok (.if_icmp .ge 7, 3) := by decide +kernel
theorem dX5_has_12 : decode cX5_has 12 = .ok (.iconst 1, 1) := by decide +kernel
theorem dX5_has_13 : decode cX5_has 13 = .ok (.goto 4, 3) := by decide +kernel
theorem dX5_has_16 : decode cX5_has 16 = .ok (.iconst 0, 1) := by decide +kernel
theorem dX5_has_17 : decode cX5_has 17 = .ok (.ireturn, 1) := by decide +kernel
theorem dX5_hasRange_0 : decode cX5_hasRange 0 = .ok (.iload_n 1, 1) := by decide +kernel
theorem dX5_hasRange_1 : decode cX5_hasRange 1 = .ok (.ifCond .lt 29, 3) := by decide +kernel
theorem dX5_hasRange_4 : decode cX5_hasRange 4 = .ok (.iload_n 2, 1) := by decide +kernel
theorem dX5_hasRange_5 : decode cX5_hasRange 5 = .ok (.ifCond .lt 25, 3) := by decide +kernel
theorem dX5_hasRange_8 : decode cX5_hasRange 8 = .ok (.iload_n 2, 1) := by decide +kernel
theorem dX5_hasRange_9 : decode cX5_hasRange 9 = .ok (.aload_n 0, 1) := by decide +kernel
theorem dX5_hasRange_10 : decode cX5_hasRange 10 = .ok (.getfield 19, 3) := by decide +kernel
theorem dX5_hasRange_13 : decode cX5_hasRange 13 = .ok (.if_icmp .gt 17, 3) := by decide +kernel
theorem dX5_hasRange_16 : decode cX5_hasRange 16 = .ok (.iload_n 1, 1) := by decide +kernel
theorem dX5_hasRange_17 : decode cX5_hasRange 17 = .ok (.aload_n 0, 1) := by decide +kernel
theorem dX5_hasRange_18 : decode cX5_hasRange 18 = .ok (.getfield 19, 3) := by decide +kernel
theorem dX5_hasRange_21 : decode cX5_hasRange 21 = .ok (.iload_n 2, 1) := by decide +kernel
theorem dX5_hasRange_22 : decode cX5_hasRange 22 = .ok (.isub, 1) := by decide +kernel
theorem dX5_hasRange_23 : decode cX5_hasRange 23 = .ok (.if_icmp .gt 7, 3) := by decide +kernel
theorem dX5_hasRange_26 : decode cX5_hasRange 26 = .ok (.iconst 1, 1) := by decide +kernel
theorem dX5_hasRange_27 : decode cX5_hasRange 27 = .ok (.goto 4, 3) := by decide +kernel
theorem dX5_hasRange_30 : decode cX5_hasRange 30 = .ok (.iconst 0, 1) := by decide +kernel
theorem dX5_hasRange_31 : decode cX5_hasRange 31 = .ok (.ireturn, 1) := by decide +kernel
theorem dX5_zeros_0 : decode cX5_zeros 0 = .ok (.aload_n 0, 1) := by decide +kernel
theorem dX5_zeros_1 : decode cX5_zeros 1 = .ok (.getfield 13, 3) := by decide +kernel
theorem dX5_zeros_4 : decode cX5_zeros 4 = .ok (.iconst 0, 1) := by decide +kernel
theorem dX5_zeros_5 : decode cX5_zeros 5 = .ok (.invokestatic 23, 3) := by decide +kernel
theorem dX5_zeros_8 : decode cX5_zeros 8 = .ok (.aload_n 0, 1) := by decide +kernel
theorem dX5_zeros_9 : decode cX5_zeros 9 = .ok (.iconst 0, 1) := by decide +kernel
theorem dX5_zeros_10 : decode cX5_zeros 10 = .ok (.iload_n 1, 1) := by decide +kernel
theorem dX5_zeros_11 : decode cX5_zeros 11 = .ok (.aload_n 0, 1) := by decide +kernel
theorem dX5_zeros_12 : decode cX5_zeros 12 = .ok (.getfield 13, 3) := by decide +kernel
theorem dX5_zeros_15 : decode cX5_zeros 15 = .ok (.arraylength, 1) := by decide +kernel
theorem dX5_zeros_16 : decode cX5_zeros 16 = .ok (.invokestatic 29, 3) := by decide +kernel
theorem dX5_zeros_19 : decode cX5_zeros 19 = .ok (.invokestatic 7, 3) := by decide +kernel
theorem dX5_zeros_22 : decode cX5_zeros 22 = .ok (.putfield 19, 3) := by decide +kernel
theorem dX5_zeros_25 : decode cX5_zeros 25 = .ok (.return_, 1) := by decide +kernel
theorem dX5_takeFrom_0 : decode cX5_takeFrom 0 = .ok (.aload_n 1, 1) := by decide +kernel
theorem dX5_takeFrom_1 : decode cX5_takeFrom 1 = .ok (.getfield 19, 3) := by decide +kernel
theorem dX5_takeFrom_4 : decode cX5_takeFrom 4 = .ok (.aload_n 0, 1) := by decide +kernel
theorem dX5_takeFrom_5 : decode cX5_takeFrom 5 = .ok (.getfield 13, 3) := by decide +kernel
theorem dX5_takeFrom_8 : decode cX5_takeFrom 8 = .ok (.arraylength, 1) := by decide +kernel
theorem dX5_takeFrom_9 : decode cX5_takeFrom 9 = .ok (.invokestatic 29, 3) := by decide +kernel
theorem dX5_takeFrom_12 : decode cX5_takeFrom 12 = .ok (.istore_n 2, 1) := by decide +kernel
theorem dX5_takeFrom_13 : decode cX5_takeFrom 13 = .ok (.aload_n 1, 1) := by decide +kernel
theorem dX5_takeFrom_14 : decode cX5_takeFrom 14 = .ok (.getfield 13, 3) := by decide +kernel
theorem dX5_takeFrom_17 : decode cX5_takeFrom 17 = .ok (.iconst 0, 1) := by decide +kernel
theorem dX5_takeFrom_18 : decode cX5_takeFrom 18 = .ok (.aload_n 0, 1) := by decide +kernel
theorem dX5_takeFrom_19 : decode cX5_takeFrom 19 = .ok (.getfield 13, 3) := by decide +kernel
theorem dX5_takeFrom_22 : decode cX5_takeFrom 22 = .ok (.iconst 0, 1) := by decide +kernel
theorem dX5_takeFrom_23 : decode cX5_takeFrom 23 = .ok (.iload_n 2, 1) := by decide +kernel
theorem dX5_takeFrom_24 : decode cX5_takeFrom 24 = .ok (.invokestatic 32, 3) := by decide +kernel
theorem dX5_takeFrom_27 : decode cX5_takeFrom 27 = .ok (.aload_n 0, 1) := by decide +kernel
theorem dX5_takeFrom_28 : decode cX5_takeFrom 28 = .ok (.iload_n 2, 1) := by decide +kernel
theorem dX5_takeFrom_29 : decode cX5_takeFrom 29 = .ok (.putfield 19, 3) := by decide +kernel
theorem dX5_takeFrom_32 : decode cX5_takeFrom 32 = .ok (.return_, 1) := by decide +kernel
theorem dX6_init_0 : decode cX6_init 0 = .ok (.aload_n 0, 1) := by decide +kernel
theorem dX6_init_1 : decode cX6_init 1 = .ok (.invokespecial 3, 3) := by decide +kernel
theorem dX6_init_4 : decode cX6_init 4 = .ok (.aload_n 0, 1) := by decide +kernel
theorem dX6_init_5 : decode cX6_init 5 = .ok (.new 9, 3) := by decide +kernel
theorem dX6_init_8 : decode cX6_init 8 = .ok (.dup, 1) := by decide +kernel
theorem dX6_init_9 : decode cX6_init 9 = .ok (.invokespecial 11, 3) := by decide +kernel
theorem dX6_init_12 : decode cX6_init 12 = .ok (.putfield 12, 3) := by decide +kernel
theorem dX6_init_15 : decode cX6_init 15 = .ok (.aload_n 0, 1) := by decide +kernel
theorem dX6_init_16 : decode cX6_init 16 = .ok (.sipush 455, 3) := by decide +kernel
theorem dX6_init_19 : decode cX6_init 19 = .ok (.newarray .int, 2) := by decide +kernel
theorem dX6_init_21 : decode cX6_init 21 = .ok (.putfield 18, 3) := by decide +kernel
theorem dX6_init_24 : decode cX6_init 24 = .ok (.aload_n 0, 1) := by decide +kernel
theorem dX6_init_25 : decode cX6_init 25 = .ok (.sipush 2730, 3) := by decide +kernel
theorem dX6_init_28 : decode cX6_init 28 = .ok (.newarray .int, 2) := by decide +kernel
theorem dX6_init_30 : decode cX6_init 30 = .ok (.putfield 22, 3) := by decide +kernel
theorem dX6_init_33 : decode cX6_init 33 = .ok (.aload_n 0, 1) := by decide +kernel
theorem dX6_init_34 : decode cX6_init 34 = .ok (.sipush 455, 3) := by decide +kernel
theorem dX6_init_37 : decode cX6_init 37 = .ok (.newarray .int, 2) := by decide +kernel
theorem dX6_init_39 : decode cX6_init 39 = .ok (.putfield 25, 3) := by decide +kernel
theorem dX6_init_42 : decode cX6_init 42 = .ok (.aload_n 0, 1) := by decide +kernel
theorem dX6_init_43 : decode cX6_init 43 = .ok (.sipush 455, 3) := by decide +kernel
theorem dX6_init_46 : decode cX6_init 46 = .ok (.newarray .int, 2) := by decide +kernel
theorem dX6_init_48 : decode cX6_init 48 = .ok (.putfield 28, 3) := by decide +kernel
theorem dX6_init_51 : decode cX6_init 51 = .ok (.aload_n 0, 1) := by decide +kernel
theorem dX6_init_52 : decode cX6_init 52 = .ok (.sipush 455, 3) := by decide +kernel
theorem dX6_init_55 : decode cX6_init 55 = .ok (.newarray .int, 2) := by decide +kernel
theorem dX6_init_57 : decode cX6_init 57 = .ok (.putfield 31, 3) := by decide +kernel
theorem dX6_init_60 : decode cX6_init 60 = .ok (.aload_n 0, 1) := by decide +kernel
theorem dX6_init_61 : decode cX6_init 61 = .ok (.sipush 455, 3) := by decide +kernel
theorem dX6_init_64 : decode cX6_init 64 = .ok (.newarray .int, 2) := by decide +kernel
theorem dX6_init_66 : decode cX6_init 66 = .ok (.putfield 34, 3) := by decide +kernel
theorem dX6_init_69 : decode cX6_init 69 = .ok (.aload_n 0, 1) := by decide +kernel
theorem dX6_init_70 : decode cX6_init 70 = .ok (.sipush 455, 3) := by decide +kernel
theorem dX6_init_73 : decode cX6_init 73 = .ok (.newarray .int, 2) := by decide +kernel
theorem dX6_init_75 : decode cX6_init 75 = .ok (.putfield 37, 3) := by decide +kernel
theorem dX6_init_78 : decode cX6_init 78 = .ok (.aload_n 0, 1) := by decide +kernel
theorem dX6_init_79 : decode cX6_init 79 = .ok (.sipush 455, 3) := by decide +kernel
theorem dX6_init_82 : decode cX6_init 82 = .ok (.newarray .long, 2) := by decide +kernel
theorem dX6_init_84 : decode cX6_init 84 = .ok (.putfield 40, 3) := by decide +kernel
theorem dX6_init_87 : decode cX6_init 87 = .ok (.aload_n 0, 1) := by decide +kernel
theorem dX6_init_88 : decode cX6_init 88 = .ok (.sipush 455, 3) := by decide +kernel
theorem dX6_init_91 : decode cX6_init 91 = .ok (.newarray .long, 2) := by decide +kernel
theorem dX6_init_93 : decode cX6_init 93 = .ok (.putfield 44, 3) := by decide +kernel
theorem dX6_init_96 : decode cX6_init 96 = .ok (.iconst 0, 1) := by decide +kernel
theorem dX6_init_97 : decode cX6_init 97 = .ok (.istore_n 1, 1) := by decide +kernel
theorem dX6_init_98 : decode cX6_init 98 = .ok (.iconst 0, 1) := by decide +kernel
theorem dX6_init_99 : decode cX6_init 99 = .ok (.istore_n 2, 1) := by decide +kernel
theorem dX6_init_100 : decode cX6_init 100 = .ok (.iload_n 2, 1) := by decide +kernel
theorem dX6_init_101 : decode cX6_init 101 = .ok (.bipush 12, 2) := by decide +kernel
theorem dX6_init_103 : decode cX6_init 103 = .ok (.getstatic 47, 3) := by decide +kernel
theorem dX6_init_106 : decode cX6_init 106 = .ok (.iconst 0, 1) := by decide +kernel
theorem dX6_init_107 : decode cX6_init 107 = .ok (.iaload, 1) := by decide +kernel
theorem dX6_init_108 : decode cX6_init 108 = .ok (.imul, 1) := by decide +kernel
theorem dX6_init_109 : decode cX6_init 109 = .ok (.if_icmp .gt 33, 3) := by decide +kernel
theorem dX6_init_112 : decode cX6_init 112 = .ok (.iload_n 2, 1) := by decide +kernel
theorem dX6_init_113 : decode cX6_init 113 = .ok (.invokestatic 50, 3) := by decide +kernel
theorem dX6_init_116 : decode cX6_init 116 = .ok (.ifCond .eq 20, 3) := by decide +kernel
theorem dX6_init_119 : decode cX6_init 119 = .ok (.iload_n 1, 1) := by decide +kernel
theorem dX6_init_120 : decode cX6_init 120 = .ok (.sipush 455, 3) := by decide +kernel
theorem dX6_init_123 : decode cX6_init 123 = .ok (.if_icmp .ge 13, 3) := by decide +kernel
theorem dX6_init_126 : decode cX6_init 126 = .ok (.aload_n 0, 1) := by decide +kernel
theorem dX6_init_127 : decode cX6_init 127 = .ok (.getfield 18, 3) := by decide +kernel
theorem dX6_init_130 : decode cX6_init 130 = .ok (.iload_n 1, 1) := by decide +kernel
theorem dX6_init_131 : decode cX6_init 131 = .ok (.iload_n 2, 1) := by decide +kernel
theorem dX6_init_132 : decode cX6_init 132 = .ok (.iastore, 1) := by decide +kernel
theorem dX6_init_133 : decode cX6_init 133 = .ok (.iinc 1 1, 3) := by decide +kernel
theorem dX6_init_136 : decode cX6_init 136 = .ok (.iinc 2 1, 3) := by decide +kernel
theorem dX6_init_139 : decode cX6_init 139 = .ok (.goto (-39), 3) := by decide +kernel
theorem dX6_init_142 : decode cX6_init 142 = .ok (.aload_n 0, 1) := by decide +kernel
theorem dX6_init_143 : decode cX6_init 143 = .ok (.getfield 22, 3) := by decide +kernel
theorem dX6_init_146 : decode cX6_init 146 = .ok (.bipush (-2), 2) := by decide +kernel
theorem dX6_init_148 : decode cX6_init 148 = .ok (.invokestatic 54, 3) := by decide +kernel
theorem dX6_init_151 : decode cX6_init 151 = .ok (.return_, 1) := by decide +kernel
theorem dX6_forget_0 : decode cX6_forget 0 = .ok (.aload_n 0, 1) := by decide +kernel
theorem dX6_forget_1 : decode cX6_forget 1 = .ok (.getfield 22, 3) := by decide +kernel
theorem dX6_forget_4 : decode cX6_forget 4 = .ok (.bipush (-2), 2) := by decide +kernel
theorem dX6_forget_6 : decode cX6_forget 6 = .ok (.invokestatic 54, 3) := by decide +kernel
theorem dX6_forget_9 : decode cX6_forget 9 = .ok (.return_, 1) := by decide +kernel
theorem dX6_placeOf_0 : decode cX6_placeOf 0 = .ok (.iload_n 0, 1) := by decide +kernel
theorem dX6_placeOf_1 : decode cX6_placeOf 1 = .ok (.iconst 0, 1) := by decide +kernel
theorem dX6_placeOf_2 : decode cX6_placeOf 2 = .ok (.invokestatic 60, 3) := by decide +kernel
theorem dX6_placeOf_5 : decode cX6_placeOf 5 = .ok (.istore_n 1, 1) := by decide +kernel
theorem dX6_placeOf_6 : decode cX6_placeOf 6 = .ok (.iload_n 0, 1) := by decide +kernel
theorem dX6_placeOf_7 : decode cX6_placeOf 7 = .ok (.iconst 1, 1) := by decide +kernel
theorem dX6_placeOf_8 : decode cX6_placeOf 8 = .ok (.invokestatic 60, 3) := by decide +kernel
theorem dX6_placeOf_11 : decode cX6_placeOf 11 = .ok (.istore_n 2, 1) := by decide +kernel
theorem dX6_placeOf_12 : decode cX6_placeOf 12 = .ok (.getstatic 64, 3) := by decide +kernel
theorem dX6_placeOf_15 : decode cX6_placeOf 15 = .ok (.iload_n 1, 1) := by decide +kernel
theorem dX6_placeOf_16 : decode cX6_placeOf 16 = .ok (.iaload, 1) := by decide +kernel
theorem dX6_placeOf_17 : decode cX6_placeOf 17 = .ok (.iload_n 2, 1) := by decide +kernel
theorem dX6_placeOf_18 : decode cX6_placeOf 18 = .ok (.bipush 13, 2) := by decide +kernel
theorem dX6_placeOf_20 : decode cX6_placeOf 20 = .ok (.iload_n 1, 1) := by decide +kernel
theorem dX6_placeOf_21 : decode cX6_placeOf 21 = .ok (.isub, 1) := by decide +kernel
theorem dX6_placeOf_22 : decode cX6_placeOf 22 = .ok (.imul, 1) := by decide +kernel
theorem dX6_placeOf_23 : decode cX6_placeOf 23 = .ok (.iadd, 1) := by decide +kernel
theorem dX6_placeOf_24 : decode cX6_placeOf 24 = .ok (.iload_n 2, 1) := by decide +kernel
theorem dX6_placeOf_25 : decode cX6_placeOf 25 = .ok (.iload_n 2, 1) := by decide +kernel
theorem dX6_placeOf_26 : decode cX6_placeOf 26 = .ok (.iconst 1, 1) := by decide +kernel
theorem dX6_placeOf_27 : decode cX6_placeOf 27 = .ok (.isub, 1) := by decide +kernel
theorem dX6_placeOf_28 : decode cX6_placeOf 28 = .ok (.imul, 1) := by decide +kernel
theorem dX6_placeOf_29 : decode cX6_placeOf 29 = .ok (.iconst 2, 1) := by decide +kernel
theorem dX6_placeOf_30 : decode cX6_placeOf 30 = .ok (.idiv, 1) := by decide +kernel
theorem dX6_placeOf_31 : decode cX6_placeOf 31 = .ok (.isub, 1) := by decide +kernel
theorem dX6_placeOf_32 : decode cX6_placeOf 32 = .ok (.iload_n 0, 1) := by decide +kernel
theorem dX6_placeOf_33 : decode cX6_placeOf 33 = .ok (.iconst 2, 1) := by decide +kernel
theorem dX6_placeOf_34 : decode cX6_placeOf 34 = .ok (.invokestatic 60, 3) := by decide +kernel
theorem dX6_placeOf_37 : decode cX6_placeOf 37 = .ok (.iadd, 1) := by decide +kernel
theorem dX6_placeOf_38 : decode cX6_placeOf 38 = .ok (.ireturn, 1) := by decide +kernel
theorem dX6_lead_0 : decode cX6_lead 0 = .ok (.iload_n 1, 1) := by decide +kernel
theorem dX6_lead_1 : decode cX6_lead 1 = .ok (.bipush 6, 2) := by decide +kernel
theorem dX6_lead_3 : decode cX6_lead 3 = .ok (.imul, 1) := by decide +kernel
theorem dX6_lead_4 : decode cX6_lead 4 = .ok (.iload_n 2, 1) := by decide +kernel
theorem dX6_lead_5 : decode cX6_lead 5 = .ok (.iadd, 1) := by decide +kernel
theorem dX6_lead_6 : decode cX6_lead 6 = .ok (.istore_n 3, 1) := by decide +kernel
theorem dX6_lead_7 : decode cX6_lead 7 = .ok (.aload_n 0, 1) := by decide +kernel
theorem dX6_lead_8 : decode cX6_lead 8 = .ok (.getfield 22, 3) := by decide +kernel
theorem dX6_lead_11 : decode cX6_lead 11 = .ok (.iload_n 3, 1) := by decide +kernel
theorem dX6_lead_12 : decode cX6_lead 12 = .ok (.iaload, 1) := by decide +kernel
theorem dX6_lead_13 : decode cX6_lead 13 = .ok (.bipush (-2), 2) := by decide +kernel
theorem dX6_lead_15 : decode cX6_lead 15 = .ok (.if_icmp .ne 40, 3) := by decide +kernel
theorem dX6_lead_18 : decode cX6_lead 18 = .ok (.aload_n 0, 1) := by decide +kernel
theorem dX6_lead_19 : decode cX6_lead 19 = .ok (.getfield 12, 3) := by decide +kernel
theorem dX6_lead_22 : decode cX6_lead 22 = .ok (.aload_n 0, 1) := by decide +kernel
theorem dX6_lead_23 : decode cX6_lead 23 = .ok (.getfield 18, 3) := by decide +kernel
theorem dX6_lead_26 : decode cX6_lead 26 = .ok (.iload_n 1, 1) := by decide +kernel
theorem dX6_lead_27 : decode cX6_lead 27 = .ok (.iaload, 1) := by decide +kernel
theorem dX6_lead_28 : decode cX6_lead 28 = .ok (.iload_n 2, 1) := by decide +kernel
theorem dX6_lead_29 : decode cX6_lead 29 = .ok (.invokevirtual 67, 3) := by decide +kernel
theorem dX6_lead_32 : decode cX6_lead 32 = .ok (.istore 4, 2) := by decide +kernel
theorem dX6_lead_34 : decode cX6_lead 34 = .ok (.aload_n 0, 1) := by decide +kernel
theorem dX6_lead_35 : decode cX6_lead 35 = .ok (.getfield 22, 3) := by decide +kernel
theorem dX6_lead_38 : decode cX6_lead 38 = .ok (.iload_n 3, 1) := by decide +kernel
theorem dX6_lead_39 : decode cX6_lead 39 = .ok (.iload 4, 2) := by decide +kernel
theorem dX6_lead_41 : decode cX6_lead 41 = .ok (.iconst (-1), 1) := by decide +kernel
theorem dX6_lead_42 : decode cX6_lead 42 = .ok (.if_icmp .ne 7, 3) := by decide +kernel
theorem dX6_lead_45 : decode cX6_lead 45 = .ok (.iconst (-1), 1) := by decide +kernel
theorem dX6_lead_46 : decode cX6_lead 46 = .ok (.goto 8, 3) := by decide +kernel
theorem dX6_lead_49 : decode cX6_lead 49 = .ok (.iload 4, 2) := by decide +kernel
theorem dX6_lead_51 : decode cX6_lead 51 = .ok (.invokestatic 70, 3) := by decide +kernel
theorem dX6_lead_54 : decode cX6_lead 54 = .ok (.iastore, 1) := by decide +kernel
theorem dX6_lead_55 : decode cX6_lead 55 = .ok (.aload_n 0, 1) := by decide +kernel
theorem dX6_lead_56 : decode cX6_lead 56 = .ok (.getfield 22, 3) := by decide +kernel
theorem dX6_lead_59 : decode cX6_lead 59 = .ok (.iload_n 3, 1) := by decide +kernel
theorem dX6_lead_60 : decode cX6_lead 60 = .ok (.iaload, 1) := by decide +kernel
theorem dX6_lead_61 : decode cX6_lead 61 = .ok (.ireturn, 1) := by decide +kernel
theorem dX6_explore_0 : decode cX6_explore 0 = .ok (.aload_n 0, 1) := by decide +kernel
theorem dX6_explore_1 : decode cX6_explore 1 = .ok (.getfield 28, 3) := by decide +kernel
theorem dX6_explore_4 : decode cX6_explore 4 = .ok (.iconst (-1), 1) := by decide +kernel
theorem dX6_explore_5 : decode cX6_explore 5 = .ok (.invokestatic 54, 3) := by decide +kernel
theorem dX6_explore_8 : decode cX6_explore 8 = .ok (.aload_n 0, 1) := by decide +kernel
theorem dX6_explore_9 : decode cX6_explore 9 = .ok (.iconst 0, 1) := by decide +kernel
theorem dX6_explore_10 : decode cX6_explore 10 = .ok (.putfield 74, 3) := by decide +kernel
theorem dX6_explore_13 : decode cX6_explore 13 = .ok (.aload_n 0, 1) := by decide +kernel
theorem dX6_explore_14 : decode cX6_explore 14 = .ok (.aload_n 0, 1) := by decide +kernel
theorem dX6_explore_15 : decode cX6_explore 15 = .ok (.getfield 12, 3) := by decide +kernel
theorem dX6_explore_18 : decode cX6_explore 18 = .ok (.getfield 78, 3) := by decide +kernel
theorem dX6_explore_21 : decode cX6_explore 21 = .ok (.invokestatic 70, 3) := by decide +kernel
theorem dX6_explore_24 : decode cX6_explore 24 = .ok (.iconst 0, 1) := by decide +kernel
theorem dX6_explore_25 : decode cX6_explore 25 = .ok (.iconst (-1), 1) := by decide +kernel
theorem dX6_explore_26 : decode cX6_explore 26 = .ok (.invokevirtual 81, 3) := by decide +kernel
theorem dX6_explore_29 : decode cX6_explore 29 = .ok (.iconst 0, 1) := by decide +kernel
theorem dX6_explore_30 : decode cX6_explore 30 = .ok (.istore_n 1, 1) := by decide +kernel
theorem dX6_explore_31 : decode cX6_explore 31 = .ok (.iload_n 1, 1) := by decide +kernel
theorem dX6_explore_32 : decode cX6_explore 32 = .ok (.aload_n 0, 1) := by decide +kernel
theorem dX6_explore_33 : decode cX6_explore 33 = .ok (.getfield 74, 3) := by decide +kernel
theorem dX6_explore_36 : decode cX6_explore 36 = .ok (.if_icmp .ge 82, 3) := by decide +kernel
theorem dX6_explore_39 : decode cX6_explore 39 = .ok (.iload_n 1, 1) := by decide +kernel
theorem dX6_explore_40 : decode cX6_explore 40 = .ok (.sipush 455, 3) := by decide +kernel
theorem dX6_explore_43 : decode cX6_explore 43 = .ok (.if_icmp .ge 75, 3) := by decide +kernel
theorem dX6_explore_46 : decode cX6_explore 46 = .ok (.aload_n 0, 1) := by decide +kernel
theorem dX6_explore_47 : decode cX6_explore 47 = .ok (.getfield 25, 3) := by decide +kernel
theorem dX6_explore_50 : decode cX6_explore 50 = .ok (.iload_n 1, 1) := by decide +kernel
theorem dX6_explore_51 : decode cX6_explore 51 = .ok (.iaload, 1) := by decide +kernel
theorem dX6_explore_52 : decode cX6_explore 52 = .ok (.istore_n 2, 1) := by decide +kernel
theorem dX6_explore_53 : decode cX6_explore 53 = .ok (.iconst 0, 1) := by decide +kernel
theorem dX6_explore_54 : decode cX6_explore 54 = .ok (.istore_n 3, 1) := by decide +kernel
theorem dX6_explore_55 : decode cX6_explore 55 = .ok (.iload_n 3, 1) := by decide +kernel
theorem dX6_explore_56 : decode cX6_explore 56 = .ok (.bipush 6, 2) := by decide +kernel
theorem dX6_explore_58 : decode cX6_explore 58 = .ok (.if_icmp .ge 54, 3) := by decide +kernel
theorem dX6_explore_61 : decode cX6_explore 61 = .ok (.aload_n 0, 1) := by decide +kernel
theorem dX6_explore_62 : decode cX6_explore 62 = .ok (.iload_n 2, 1) := by decide +kernel
theorem dX6_explore_63 : decode cX6_explore 63 = .ok (.iload_n 3, 1) := by decide +kernel
theorem dX6_explore_64 : decode cX6_explore 64 = .ok (.invokevirtual 85, 3) := by decide +kernel
theorem dX6_explore_67 : decode cX6_explore 67 = .ok (.istore 4, 2) := by decide +kernel
theorem dX6_explore_69 : decode cX6_explore 69 = .ok (.iload 4, 2) := by decide +kernel
theorem dX6_explore_71 : decode cX6_explore 71 = .ok (.iconst (-1), 1) := by decide +kernel
theorem dX6_explore_72 : decode cX6_explore 72 = .ok (.if_icmp .eq 34, 3) := by decide +kernel
theorem dX6_explore_75 : decode cX6_explore 75 = .ok (.aload_n 0, 1) := by decide +kernel
theorem dX6_explore_76 : decode cX6_explore 76 = .ok (.getfield 28, 3) := by decide +kernel
theorem dX6_explore_79 : decode cX6_explore 79 = .ok (.iload 4, 2) := by decide +kernel
theorem dX6_explore_81 : decode cX6_explore 81 = .ok (.iaload, 1) := by decide +kernel
theorem dX6_explore_82 : decode cX6_explore 82 = .ok (.iconst (-1), 1) := by decide +kernel
theorem dX6_explore_83 : decode cX6_explore 83 = .ok (.if_icmp .ne 23, 3) := by decide +kernel
theorem dX6_explore_86 : decode cX6_explore 86 = .ok (.aload_n 0, 1) := by decide +kernel
theorem dX6_explore_87 : decode cX6_explore 87 = .ok (.iload 4, 2) := by decide +kernel
theorem dX6_explore_89 : decode cX6_explore 89 = .ok (.aload_n 0, 1) := by decide +kernel
theorem dX6_explore_90 : decode cX6_explore 90 = .ok (.getfield 28, 3) := by decide +kernel
theorem dX6_explore_93 : decode cX6_explore 93 = .ok (.iload_n 2, 1) := by decide +kernel
theorem dX6_explore_94 : decode cX6_explore 94 = .ok (.iaload, 1) := by decide +kernel
theorem dX6_explore_95 : decode cX6_explore 95 = .ok (.iconst 1, 1) := by decide +kernel
theorem dX6_explore_96 : decode cX6_explore 96 = .ok (.iadd, 1) := by decide +kernel
theorem dX6_explore_97 : decode cX6_explore 97 = .ok (.iload_n 2, 1) := by decide +kernel
theorem dX6_explore_98 : decode cX6_explore 98 = .ok (.bipush 6, 2) := by decide +kernel
theorem dX6_explore_100 : decode cX6_explore 100 = .ok (.imul, 1) := by decide +kernel
theorem dX6_explore_101 : decode cX6_explore 101 = .ok (.iload_n 3, 1) := by decide +kernel
theorem dX6_explore_102 : decode cX6_explore 102 = .ok (.iadd, 1) := by decide +kernel
theorem dX6_explore_103 : decode cX6_explore 103 = .ok (.invokevirtual 81, 3) := by decide +kernel
theorem dX6_explore_106 : decode cX6_explore 106 = .ok (.iinc 3 1, 3) := by decide +kernel
theorem dX6_explore_109 : decode cX6_explore 109 = .ok (.goto (-54), 3) := by decide +kernel
theorem dX6_explore_112 : decode cX6_explore 112 = .ok (.iinc 1 1, 3) := by decide +kernel
theorem dX6_explore_115 : decode cX6_explore 115 = .ok (.goto (-84), 3) := by decide +kernel
theorem dX6_explore_118 : decode cX6_explore 118 = .ok (.return_, 1) := by decide +kernel
theorem dX6_find_0 : decode cX6_find 0 = .ok (.aload_n 0, 1) := by decide +kernel
theorem dX6_find_1 : decode cX6_find 1 = .ok (.getfield 74, 3) := by decide +kernel
theorem dX6_find_4 : decode cX6_find 4 = .ok (.sipush 455, 3) := by decide +kernel
theorem dX6_find_7 : decode cX6_find 7 = .ok (.if_icmp .ge 37, 3) := by decide +kernel
theorem dX6_find_10 : decode cX6_find 10 = .ok (.aload_n 0, 1) := by decide +kernel
theorem dX6_find_11 : decode cX6_find 11 = .ok (.getfield 28, 3) := by decide +kernel
theorem dX6_find_14 : decode cX6_find 14 = .ok (.iload_n 1, 1) := by decide +kernel
theorem dX6_find_15 : decode cX6_find 15 = .ok (.iload_n 2, 1) := by decide +kernel
theorem dX6_find_16 : decode cX6_find 16 = .ok (.iastore, 1) := by decide +kernel
theorem dX6_find_17 : decode cX6_find 17 = .ok (.aload_n 0, 1) := by decide +kernel
theorem dX6_find_18 : decode cX6_find 18 = .ok (.getfield 31, 3) := by decide +kernel
theorem dX6_find_21 : decode cX6_find 21 = .ok (.iload_n 1, 1) := by decide +kernel
theorem dX6_find_22 : decode cX6_find 22 = .ok (.iload_n 3, 1) := by decide +kernel
theorem dX6_find_23 : decode cX6_find 23 = .ok (.iastore, 1) := by decide +kernel
theorem dX6_find_24 : decode cX6_find 24 = .ok (.aload_n 0, 1) := by decide +kernel
theorem dX6_find_25 : decode cX6_find 25 = .ok (.getfield 25, 3) := by decide +kernel
theorem dX6_find_28 : decode cX6_find 28 = .ok (.aload_n 0, 1) := by decide +kernel
theorem dX6_find_29 : decode cX6_find 29 = .ok (.getfield 74, 3) := by decide +kernel
theorem dX6_find_32 : decode cX6_find 32 = .ok (.iload_n 1, 1) := by decide +kernel
theorem dX6_find_33 : decode cX6_find 33 = .ok (.iastore, 1) := by decide +kernel
theorem dX6_find_34 : decode cX6_find 34 = .ok (.aload_n 0, 1) := by decide +kernel
theorem dX6_find_35 : decode cX6_find 35 = .ok (.dup, 1) := by decide +kernel
theorem dX6_find_36 : decode cX6_find 36 = .ok (.getfield 74, 3) := by decide +kernel
theorem dX6_find_39 : decode cX6_find 39 = .ok (.iconst 1, 1) := by decide +kernel
theorem dX6_find_40 : decode cX6_find 40 = .ok (.iadd, 1) := by decide +kernel
theorem dX6_find_41 : decode cX6_find 41 = .ok (.putfield 74, 3) := by decide +kernel
theorem dX6_find_44 : decode cX6_find 44 = .ok (.return_, 1) := by decide +kernel
theorem dX6_distanceOf_0 : decode cX6_distanceOf 0 = .ok (.aload_n 0, 1) := by decide +kernel
theorem dX6_distanceOf_1 : decode cX6_distanceOf 1 = .ok (.getfield 28, 3) := by decide +kernel
theorem dX6_distanceOf_4 : decode cX6_distanceOf 4 = .ok (.iload_n 1, 1) := by decide +kernel
theorem dX6_distanceOf_5 : decode cX6_distanceOf 5 = .ok (.invokestatic 70, 3) := by decide +kernel
theorem dX6_distanceOf_8 : decode cX6_distanceOf 8 = .ok (.iaload, 1) := by decide +kernel
theorem dX6_distanceOf_9 : decode cX6_distanceOf 9 = .ok (.ireturn, 1) := by decide +kernel
theorem dX6_pairOnWay_0 : decode cX6_pairOnWay 0 = .ok (.iload_n 1, 1) := by decide +kernel
theorem dX6_pairOnWay_1 : decode cX6_pairOnWay 1 = .ok (.invokestatic 70, 3) := by decide +kernel
theorem dX6_pairOnWay_4 : decode cX6_pairOnWay 4 = .ok (.istore_n 3, 1) := by decide +kernel
theorem dX6_pairOnWay_5 : decode cX6_pairOnWay 5 = .ok (.aload_n 0, 1) := by decide +kernel
theorem dX6_pairOnWay_6 : decode cX6_pairOnWay 6 = .ok (.getfield 28, 3) := by decide +kernel
theorem dX6_pairOnWay_9 : decode cX6_pairOnWay 9 = .ok (.iload_n 3, 1) := by decide +kernel
theorem dX6_pairOnWay_10 : decode cX6_pairOnWay 10 = .ok (.iaload, 1) := by decide +kernel
theorem dX6_pairOnWay_11 : decode cX6_pairOnWay 11 = .ok (.istore 4, 2) := by decide +kernel
theorem dX6_pairOnWay_13 : decode cX6_pairOnWay 13 = .ok (.iload_n 2, 1) := by decide +kernel
theorem dX6_pairOnWay_14 : decode cX6_pairOnWay 14 = .ok (.iload 4, 2) := by decide +kernel
theorem dX6_pairOnWay_16 : decode cX6_pairOnWay 16 = .ok (.if_icmp .lt 5, 3) := by decide +kernel
theorem dX6_pairOnWay_19 : decode cX6_pairOnWay 19 = .ok (.iconst (-1), 1) := by decide +kernel
theorem dX6_pairOnWay_20 : decode cX6_pairOnWay 20 = .ok (.ireturn, 1) := by decide +kernel
theorem dX6_pairOnWay_21 : decode cX6_pairOnWay 21 = .ok (.iload 4, 2) := by decide +kernel
theorem dX6_pairOnWay_23 : decode cX6_pairOnWay 23 = .ok (.iconst 1, 1) := by decide +kernel
theorem dX6_pairOnWay_24 : decode cX6_pairOnWay 24 = .ok (.isub, 1) := by decide +kernel
theorem dX6_pairOnWay_25 : decode cX6_pairOnWay 25 = .ok (.istore 5, 2) := by decide +kernel
theorem dX6_pairOnWay_27 : decode cX6_pairOnWay 27 = .ok (.iload 5, 2) := by decide +kernel
theorem dX6_pairOnWay_29 : decode cX6_pairOnWay 29 = .ok (.iload_n 2, 1) := by decide +kernel
theorem dX6_pairOnWay_30 : decode cX6_pairOnWay 30 = .ok (.if_icmp .le 19, 3) := by decide +kernel
theorem dX6_pairOnWay_33 : decode cX6_pairOnWay 33 = .ok (.aload_n 0, 1) := by decide +kernel
theorem dX6_pairOnWay_34 : decode cX6_pairOnWay 34 = .ok (.getfield 31, 3) := by decide +kernel
theorem dX6_pairOnWay_37 : decode cX6_pairOnWay 37 = .ok (.iload_n 3, 1) := by decide +kernel
theorem dX6_pairOnWay_38 : decode cX6_pairOnWay 38 = .ok (.iaload, 1) := by decide +kernel
theorem dX6_pairOnWay_39 : decode cX6_pairOnWay 39 = .ok (.bipush 6, 2) := by decide +kernel
theorem dX6_pairOnWay_41 : decode cX6_pairOnWay 41 = .ok (.idiv, 1) := by decide +kernel
theorem dX6_pairOnWay_42 : decode cX6_pairOnWay 42 = .ok (.istore_n 3, 1) := by decide +kernel
theorem dX6_pairOnWay_43 : decode cX6_pairOnWay 43 = .ok (.iinc 5 (-1), 3) := by decide +kernel
theorem dX6_pairOnWay_46 : decode cX6_pairOnWay 46 = .ok (.goto (-19), 3) := by decide +kernel
theorem dX6_pairOnWay_49 : decode cX6_pairOnWay 49 = .ok (.aload_n 0, 1) := by decide +kernel
theorem dX6_pairOnWay_50 : decode cX6_pairOnWay 50 = .ok (.getfield 31, 3) := by decide +kernel
theorem dX6_pairOnWay_53 : decode cX6_pairOnWay 53 = .ok (.iload_n 3, 1) := by decide +kernel
theorem dX6_pairOnWay_54 : decode cX6_pairOnWay 54 = .ok (.iaload, 1) := by decide +kernel
theorem dX6_pairOnWay_55 : decode cX6_pairOnWay 55 = .ok (.bipush 6, 2) := by decide +kernel
theorem dX6_pairOnWay_57 : decode cX6_pairOnWay 57 = .ok (.irem, 1) := by decide +kernel
theorem dX6_pairOnWay_58 : decode cX6_pairOnWay 58 = .ok (.ireturn, 1) := by decide +kernel
theorem dX6_nearestEnd_0 : decode cX6_nearestEnd 0 = .ok (.iconst (-1), 1) := by decide +kernel
theorem dX6_nearestEnd_1 : decode cX6_nearestEnd 1 = .ok (.istore_n 2, 1) := by decide +kernel
theorem dX6_nearestEnd_2 : decode cX6_nearestEnd 2 = .ok (.iconst 1, 1) := by decide +kernel
theorem dX6_nearestEnd_3 : decode cX6_nearestEnd 3 = .ok (.istore_n 3, 1) := by decide +kernel
theorem dX6_nearestEnd_4 : decode cX6_nearestEnd 4 = .ok (.iload_n 3, 1) := by decide +kernel
theorem dX6_nearestEnd_5 : decode cX6_nearestEnd 5 = .ok (.bipush 12, 2) := by decide +kernel
theorem dX6_nearestEnd_7 : decode cX6_nearestEnd 7 = .ok (.if_icmp .gt 50, 3) := by decide +kernel
theorem dX6_nearestEnd_10 : decode cX6_nearestEnd 10 = .ok (.iload_n 3, 1) := by decide +kernel
theorem dX6_nearestEnd_11 : decode cX6_nearestEnd 11 = .ok (.getstatic 47, 3) := by decide +kernel
theorem dX6_nearestEnd_14 : decode cX6_nearestEnd 14 = .ok (.iload_n 1, 1) := by decide +kernel
theorem dX6_nearestEnd_15 : decode cX6_nearestEnd 15 = .ok (.iaload, 1) := by decide +kernel
theorem dX6_nearestEnd_16 : decode cX6_nearestEnd 16 = .ok (.imul, 1) := by decide +kernel
theorem dX6_nearestEnd_17 : decode cX6_nearestEnd 17 = .ok (.istore 4, 2) := by decide +kernel
theorem dX6_nearestEnd_19 : decode cX6_nearestEnd 19 = .ok (.aload_n 0, 1) := by decide +kernel
theorem dX6_nearestEnd_20 : decode cX6_nearestEnd 20 = .ok (.iload 4, 2) := by decide +kernel
theorem dX6_nearestEnd_22 : decode cX6_nearestEnd 22 = .ok (.invokevirtual 88, 3) := by decide +kernel
theorem dX6_nearestEnd_25 : decode cX6_nearestEnd 25 = .ok (.istore 5, 2) := by decide +kernel
theorem dX6_nearestEnd_27 : decode cX6_nearestEnd 27 = .ok (.iload 5, 2) := by decide +kernel
theorem dX6_nearestEnd_29 : decode cX6_nearestEnd 29 = .ok (.iconst (-1), 1) := by decide +kernel
theorem dX6_nearestEnd_30 : decode cX6_nearestEnd 30 = .ok (.if_icmp .eq 21, 3) := by decide +kernel
theorem dX6_nearestEnd_33 : decode cX6_nearestEnd 33 = .ok (.iload_n 2, 1) := by decide +kernel
theorem dX6_nearestEnd_34 : decode cX6_nearestEnd 34 = .ok (.iconst (-1), 1) := by decide +kernel
theorem dX6_nearestEnd_35 : decode cX6_nearestEnd 35 = .ok (.if_icmp .eq 13, 3) := by decide +kernel
theorem dX6_nearestEnd_38 : decode cX6_nearestEnd 38 = .ok (.iload 5, 2) := by decide +kernel
theorem dX6_nearestEnd_40 : decode cX6_nearestEnd 40 = .ok (.aload_n 0, 1) := by decide +kernel
theorem dX6_nearestEnd_41 : decode cX6_nearestEnd 41 = .ok (.iload_n 2, 1) := by decide +kernel
theorem dX6_nearestEnd_42 : decode cX6_nearestEnd 42 = .ok (.invokevirtual 88, 3) := by decide +kernel
theorem dX6_nearestEnd_45 : decode cX6_nearestEnd 45 = .ok (.if_icmp .ge 6, 3) := by decide +kernel
theorem dX6_nearestEnd_48 : decode cX6_nearestEnd 48 = .ok (.iload 4, 2) := by decide +kernel
theorem dX6_nearestEnd_50 : decode cX6_nearestEnd 50 = .ok (.istore_n 2, 1) := by decide +kernel
theorem dX6_nearestEnd_51 : decode cX6_nearestEnd 51 = .ok (.iinc 3 1, 3) := by decide +kernel
theorem dX6_nearestEnd_54 : decode cX6_nearestEnd 54 = .ok (.goto (-50), 3) := by decide +kernel
theorem dX6_nearestEnd_57 : decode cX6_nearestEnd 57 = .ok (.iload_n 2, 1) := by decide +kernel
theorem dX6_nearestEnd_58 : decode cX6_nearestEnd 58 = .ok (.ireturn, 1) := by decide +kernel
theorem dX6_countWays_0 : decode cX6_countWays 0 = .ok (.aload_n 0, 1) := by decide +kernel
theorem dX6_countWays_1 : decode cX6_countWays 1 = .ok (.getfield 40, 3) := by decide +kernel
theorem dX6_countWays_4 : decode cX6_countWays 4 = .ok (.lconst 0, 1) := by decide +kernel
theorem dX6_countWays_5 : decode cX6_countWays 5 = .ok (.invokestatic 91, 3) := by decide +kernel
theorem dX6_countWays_8 : decode cX6_countWays 8 = .ok (.aload_n 0, 1) := by decide +kernel
theorem dX6_countWays_9 : decode cX6_countWays 9 = .ok (.getfield 40, 3) := by decide +kernel
theorem dX6_countWays_12 : decode cX6_countWays 12 = .ok (.aload_n 0, 1) := by decide +kernel
theorem dX6_countWays_13 : decode cX6_countWays 13 = .ok (.getfield 12, 3) := by decide +kernel
theorem dX6_countWays_16 : decode cX6_countWays 16 = .ok (.getfield 78, 3) := by decide +kernel
theorem dX6_countWays_19 : decode cX6_countWays 19 = .ok (.invokestatic 70, 3) := by decide +kernel
theorem dX6_countWays_22 : decode cX6_countWays 22 = .ok (.lconst 1, 1) := by decide +kernel
theorem dX6_countWays_23 : decode cX6_countWays 23 = .ok (.lastore, 1) := by decide +kernel
theorem dX6_countWays_24 : decode cX6_countWays 24 = .ok (.iconst 0, 1) := by decide +kernel
theorem dX6_countWays_25 : decode cX6_countWays 25 = .ok (.istore_n 2, 1) := by decide +kernel
theorem dX6_countWays_26 : decode cX6_countWays 26 = .ok (.iload_n 2, 1) := by decide +kernel
theorem dX6_countWays_27 : decode cX6_countWays 27 = .ok (.iload_n 1, 1) := by decide +kernel
theorem dX6_countWays_28 : decode cX6_countWays 28 = .ok (.if_icmp .ge 66, 3) := by decide +kernel
theorem dX6_countWays_31 : decode cX6_countWays 31 = .ok (.aload_n 0, 1) := by decide +kernel
theorem dX6_countWays_32 : decode cX6_countWays 32 = .ok (.getfield 44, 3) := by decide +kernel
theorem dX6_countWays_35 : decode cX6_countWays 35 = .ok (.lconst 0, 1) := by decide +kernel
theorem dX6_countWays_36 : decode cX6_countWays 36 = .ok (.invokestatic 91, 3) := by decide +kernel
theorem dX6_countWays_39 : decode cX6_countWays 39 = .ok (.iconst 0, 1) := by decide +kernel
theorem dX6_countWays_40 : decode cX6_countWays 40 = .ok (.istore_n 3, 1) := by decide +kernel
theorem dX6_countWays_41 : decode cX6_countWays 41 = .ok (.iload_n 3, 1) := by decide +kernel
theorem dX6_countWays_42 : decode cX6_countWays 42 = .ok (.sipush 455, 3) := by decide +kernel
theorem dX6_countWays_45 : decode cX6_countWays 45 = .ok (.if_icmp .ge 25, 3) := by decide +kernel
theorem dX6_countWays_48 : decode cX6_countWays 48 = .ok (.aload_n 0, 1) := by decide +kernel
theorem dX6_countWays_49 : decode cX6_countWays 49 = .ok (.getfield 40, 3) := by decide +kernel
theorem dX6_countWays_52 : decode cX6_countWays 52 = .ok (.iload_n 3, 1) := by decide +kernel
theorem dX6_countWays_53 : decode cX6_countWays 53 = .ok (.laload, 1) := by decide +kernel
theorem dX6_countWays_54 : decode cX6_countWays 54 = .ok (.lconst 0, 1) := by decide +kernel
theorem dX6_countWays_55 : decode cX6_countWays 55 = .ok (.lcmp, 1) := by decide +kernel
theorem dX6_countWays_56 : decode cX6_countWays 56 = .ok (.ifCond .eq 8, 3) := by decide +kernel
theorem dX6_countWays_59 : decode cX6_countWays 59 = .ok (.aload_n 0, 1) := by decide +kernel
theorem dX6_countWays_60 : decode cX6_countWays 60 = .ok (.iload_n 3, 1) := by decide +kernel
theorem dX6_countWays_61 : decode cX6_countWays 61 = .ok (.invokevirtual 94, 3) := by decide +kernel
theorem dX6_countWays_64 : decode cX6_countWays 64 = .ok (.iinc 3 1, 3) := by decide +kernel
theorem dX6_countWays_67 : decode cX6_countWays 67 = .ok (.goto (-26), 3) := by decide +kernel
theorem dX6_countWays_70 : decode cX6_countWays 70 = .ok (.aload_n 0, 1) := by decide +kernel
theorem dX6_countWays_71 : decode cX6_countWays 71 = .ok (.getfield 40, 3) := by decide +kernel
theorem dX6_countWays_74 : decode cX6_countWays 74 = .ok (.astore_n 3, 1) := by decide +kernel
theorem dX6_countWays_75 : decode cX6_countWays 75 = .ok (.aload_n 0, 1) := by decide +kernel
theorem dX6_countWays_76 : decode cX6_countWays 76 = .ok (.aload_n 0, 1) := by decide +kernel
theorem dX6_countWays_77 : decode cX6_countWays 77 = .ok (.getfield 44, 3) := by decide +kernel
theorem dX6_countWays_80 : decode cX6_countWays 80 = .ok (.putfield 40, 3) := by decide +kernel
theorem dX6_countWays_83 : decode cX6_countWays 83 = .ok (.aload_n 0, 1) := by decide +kernel
theorem dX6_countWays_84 : decode cX6_countWays 84 = .ok (.aload_n 3, 1) := by decide +kernel
theorem dX6_countWays_85 : decode cX6_countWays 85 = .ok (.putfield 44, 3) := by decide +kernel
theorem dX6_countWays_88 : decode cX6_countWays 88 = .ok (.iinc 2 1, 3) := by decide +kernel
theorem dX6_countWays_91 : decode cX6_countWays 91 = .ok (.goto (-65), 3) := by decide +kernel
theorem dX6_countWays_94 : decode cX6_countWays 94 = .ok (.return_, 1) := by decide +kernel
theorem dX6_passOn_0 : decode cX6_passOn 0 = .ok (.iconst 0, 1) := by decide +kernel
theorem dX6_passOn_1 : decode cX6_passOn 1 = .ok (.istore_n 2, 1) := by decide +kernel
theorem dX6_passOn_2 : decode cX6_passOn 2 = .ok (.iload_n 2, 1) := by decide +kernel
theorem dX6_passOn_3 : decode cX6_passOn 3 = .ok (.bipush 6, 2) := by decide +kernel
theorem dX6_passOn_5 : decode cX6_passOn 5 = .ok (.if_icmp .ge 48, 3) := by decide +kernel
theorem dX6_passOn_8 : decode cX6_passOn 8 = .ok (.aload_n 0, 1) := by decide +kernel
theorem dX6_passOn_9 : decode cX6_passOn 9 = .ok (.iload_n 1, 1) := by decide +kernel
theorem dX6_passOn_10 : decode cX6_passOn 10 = .ok (.iload_n 2, 1) := by decide +kernel
theorem dX6_passOn_11 : decode cX6_passOn 11 = .ok (.invokevirtual 85, 3) := by decide +kernel
theorem dX6_passOn_14 : decode cX6_passOn 14 = .ok (.istore_n 3, 1) := by decide +kernel
theorem dX6_passOn_15 : decode cX6_passOn 15 = .ok (.iload_n 3, 1) := by decide +kernel
theorem dX6_passOn_16 : decode cX6_passOn 16 = .ok (.iconst (-1), 1) := by decide +kernel
theorem dX6_passOn_17 : decode cX6_passOn 17 = .ok (.if_icmp .eq 30, 3) := by decide +kernel
theorem dX6_passOn_20 : decode cX6_passOn 20 = .ok (.aload_n 0, 1) := by decide +kernel
theorem dX6_passOn_21 : decode cX6_passOn 21 = .ok (.getfield 44, 3) := by decide +kernel
theorem dX6_passOn_24 : decode cX6_passOn 24 = .ok (.iload_n 3, 1) := by decide +kernel
theorem dX6_passOn_25 : decode cX6_passOn 25 = .ok (.dup2, 1) := by decide +kernel
theorem dX6_passOn_26 : decode cX6_passOn 26 = .ok (.laload, 1) := by decide +kernel
theorem dX6_passOn_27 : decode cX6_passOn 27 = .ok (.aload_n 0, 1) := by decide +kernel
theorem dX6_passOn_28 : decode cX6_passOn 28 = .ok (.getfield 40, 3) := by decide +kernel
theorem dX6_passOn_31 : decode cX6_passOn 31 = .ok (.iload_n 1, 1) := by decide +kernel
theorem dX6_passOn_32 : decode cX6_passOn 32 = .ok (.laload, 1) := by decide +kernel
theorem dX6_passOn_33 : decode cX6_passOn 33 = .ok (.aload_n 0, 1) := by decide +kernel
theorem dX6_passOn_34 : decode cX6_passOn 34 = .ok (.getfield 18, 3) := by decide +kernel
theorem dX6_passOn_37 : decode cX6_passOn 37 = .ok (.iload_n 1, 1) := by decide +kernel
theorem dX6_passOn_38 : decode cX6_passOn 38 = .ok (.iaload, 1) := by decide +kernel
theorem dX6_passOn_39 : decode cX6_passOn 39 = .ok (.iload_n 2, 1) := by decide +kernel
theorem dX6_passOn_40 : decode cX6_passOn 40 = .ok (.invokestatic 98, 3) := by decide +kernel
theorem dX6_passOn_43 : decode cX6_passOn 43 = .ok (.i2l, 1) := by decide +kernel
theorem dX6_passOn_44 : decode cX6_passOn 44 = .ok (.lmul, 1) := by decide +kernel
theorem dX6_passOn_45 : decode cX6_passOn 45 = .ok (.ladd, 1) := by decide +kernel
theorem dX6_passOn_46 : decode cX6_passOn 46 = .ok (.lastore, 1) := by decide +kernel
theorem dX6_passOn_47 : decode cX6_passOn 47 = .ok (.iinc 2 1, 3) := by decide +kernel
theorem dX6_passOn_50 : decode cX6_passOn 50 = .ok (.goto (-48), 3) := by decide +kernel
theorem dX6_passOn_53 : decode cX6_passOn 53 = .ok (.return_, 1) := by decide +kernel
theorem dX6_couples_0 : decode cX6_couples 0 = .ok (.iload_n 0, 1) := by decide +kernel
theorem dX6_couples_1 : decode cX6_couples 1 = .ok (.getstatic 101, 3) := by decide +kernel
theorem dX6_couples_4 : decode cX6_couples 4 = .ok (.iload_n 1, 1) := by decide +kernel
theorem dX6_couples_5 : decode cX6_couples 5 = .ok (.iaload, 1) := by decide +kernel
theorem dX6_couples_6 : decode cX6_couples 6 = .ok (.invokestatic 60, 3) := by decide +kernel
theorem dX6_couples_9 : decode cX6_couples 9 = .ok (.istore_n 2, 1) := by decide +kernel
theorem dX6_couples_10 : decode cX6_couples 10 = .ok (.iload_n 0, 1) := by decide +kernel
theorem dX6_couples_11 : decode cX6_couples 11 = .ok (.getstatic 104, 3) := by decide +kernel
theorem dX6_couples_14 : decode cX6_couples 14 = .ok (.iload_n 1, 1) := by decide +kernel
theorem dX6_couples_15 : decode cX6_couples 15 = .ok (.iaload, 1) := by decide +kernel
theorem dX6_couples_16 : decode cX6_couples 16 = .ok (.invokestatic 60, 3) := by decide +kernel
theorem dX6_couples_19 : decode cX6_couples 19 = .ok (.istore_n 3, 1) := by decide +kernel
theorem dX6_couples_20 : decode cX6_couples 20 = .ok (.getstatic 101, 3) := by decide +kernel
theorem dX6_couples_23 : decode cX6_couples 23 = .ok (.iload_n 1, 1) := by decide +kernel
theorem dX6_couples_24 : decode cX6_couples 24 = .ok (.iaload, 1) := by decide +kernel
theorem dX6_couples_25 : decode cX6_couples 25 = .ok (.getstatic 104, 3) := by decide +kernel
theorem dX6_couples_28 : decode cX6_couples 28 = .ok (.iload_n 1, 1) := by decide +kernel
theorem dX6_couples_29 : decode cX6_couples 29 = .ok (.iaload, 1) := by decide +kernel
theorem dX6_couples_30 : decode cX6_couples 30 = .ok (.if_icmp .ne 13, 3) := by decide +kernel
theorem dX6_couples_33 : decode cX6_couples 33 = .ok (.iload_n 2, 1) := by decide +kernel
theorem dX6_couples_34 : decode cX6_couples 34 = .ok (.iload_n 2, 1) := by decide +kernel
theorem dX6_couples_35 : decode cX6_couples 35 = .ok (.iconst 1, 1) := by decide +kernel
theorem dX6_couples_36 : decode cX6_couples 36 = .ok (.isub, 1) := by decide +kernel
theorem dX6_couples_37 : decode cX6_couples 37 = .ok (.imul, 1) := by decide +kernel
theorem dX6_couples_38 : decode cX6_couples 38 = .ok (.iconst 2, 1) := by decide +kernel
theorem dX6_couples_39 : decode cX6_couples 39 = .ok (.idiv, 1) := by decide +kernel
theorem dX6_couples_40 : decode cX6_couples 40 = .ok (.goto 6, 3) := by decide +kernel
theorem dX6_couples_43 : decode cX6_couples 43 = .ok (.iload_n 2, 1) := by decide +kernel
theorem dX6_couples_44 : decode cX6_couples 44 = .ok (.iload_n 3, 1) := by decide +kernel
theorem dX6_couples_45 : decode cX6_couples 45 = .ok (.imul, 1) := by decide +kernel
theorem dX6_couples_46 : decode cX6_couples 46 = .ok (.ireturn, 1) := by decide +kernel
theorem dX6_waysTo_0 : decode cX6_waysTo 0 = .ok (.aload_n 0, 1) := by decide +kernel
theorem dX6_waysTo_1 : decode cX6_waysTo 1 = .ok (.getfield 40, 3) := by decide +kernel
theorem dX6_waysTo_4 : decode cX6_waysTo 4 = .ok (.iload_n 1, 1) := by decide +kernel
theorem dX6_waysTo_5 : decode cX6_waysTo 5 = .ok (.invokestatic 70, 3) := by decide +kernel
theorem dX6_waysTo_8 : decode cX6_waysTo 8 = .ok (.laload, 1) := by decide +kernel
theorem dX6_waysTo_9 : decode cX6_waysTo 9 = .ok (.lreturn, 1) := by decide +kernel
theorem dX6_waysInAll_0 : decode cX6_waysInAll 0 = .ok (.lconst 0, 1) := by decide +kernel
theorem dX6_waysInAll_1 : decode cX6_waysInAll 1 = .ok (.lstore_n 1, 1) := by decide +kernel
theorem dX6_waysInAll_2 : decode cX6_waysInAll 2 = .ok (.iconst 0, 1) := by decide +kernel
theorem dX6_waysInAll_3 : decode cX6_waysInAll 3 = .ok (.istore_n 3, 1) := by decide +kernel
theorem dX6_waysInAll_4 : decode cX6_waysInAll 4 = .ok (.iload_n 3, 1) := by decide +kernel
theorem dX6_waysInAll_5 : decode cX6_waysInAll 5 = .ok (.sipush 455, 3) := by decide +kernel
theorem dX6_waysInAll_8 : decode cX6_waysInAll 8 = .ok (.if_icmp .ge 18, 3) := by decide +kernel
theorem dX6_waysInAll_11 : decode cX6_waysInAll 11 = .ok (.lload_n 1, 1) := by decide +kernel
theorem dX6_waysInAll_12 : decode cX6_waysInAll 12 = .ok (.aload_n 0, 1) := by decide +kernel
theorem dX6_waysInAll_13 : decode cX6_waysInAll 13 = .ok (.getfield 40, 3) := by decide +kernel
theorem dX6_waysInAll_16 : decode cX6_waysInAll 16 = .ok (.iload_n 3, 1) := by decide +kernel
theorem dX6_waysInAll_17 : decode cX6_waysInAll 17 = .ok (.laload, 1) := by decide +kernel
theorem dX6_waysInAll_18 : decode cX6_waysInAll 18 = .ok (.ladd, 1) := by decide +kernel
theorem dX6_waysInAll_19 : decode cX6_waysInAll 19 = .ok (.lstore_n 1, 1) := by decide +kernel
theorem dX6_waysInAll_20 : decode cX6_waysInAll 20 = .ok (.iinc 3 1, 3) := by decide +kernel
theorem dX6_waysInAll_23 : decode cX6_waysInAll 23 = .ok (.goto (-19), 3) := by decide +kernel
theorem dX6_waysInAll_26 : decode cX6_waysInAll 26 = .ok (.lload_n 1, 1) := by decide +kernel
theorem dX6_waysInAll_27 : decode cX6_waysInAll 27 = .ok (.lreturn, 1) := by decide +kernel
theorem dX6_leastFences_0 : decode cX6_leastFences 0 = .ok (.aload_n 0, 1) := by decide +kernel
theorem dX6_leastFences_1 : decode cX6_leastFences 1 = .ok (.iload_n 1, 1) := by decide +kernel
theorem dX6_leastFences_2 : decode cX6_leastFences 2 = .ok (.invokevirtual 107, 3) := by decide +kernel
theorem dX6_leastFences_5 : decode cX6_leastFences 5 = .ok (.lstore_n 2, 1) := by decide +kernel
theorem dX6_leastFences_6 : decode cX6_leastFences 6 = .ok (.bipush 63, 2) := by decide +kernel
theorem dX6_leastFences_8 : decode cX6_leastFences 8 = .ok (.aload_n 0, 1) := by decide +kernel
theorem dX6_leastFences_9 : decode cX6_leastFences 9 = .ok (.getfield 12, 3) := by decide +kernel
theorem dX6_leastFences_12 : decode cX6_leastFences 12 = .ok (.getfield 111, 3) := by decide +kernel
theorem dX6_leastFences_15 : decode cX6_leastFences 15 = .ok (.iconst (-1), 1) := by decide +kernel
theorem dX6_leastFences_16 : decode cX6_leastFences 16 = .ok (.ixor, 1) := by decide +kernel
theorem dX6_leastFences_17 : decode cX6_leastFences 17 = .ok (.iand, 1) := by decide +kernel
theorem dX6_leastFences_18 : decode cX6_leastFences 18 = .ok (.istore 4, 2) := by decide +kernel
theorem dX6_leastFences_20 : decode cX6_leastFences 20 = .ok (.iconst 0, 1) := by decide +kernel
theorem dX6_leastFences_21 : decode cX6_leastFences 21 = .ok (.istore 5, 2) := by decide +kernel
theorem dX6_leastFences_23 : decode cX6_leastFences 23 = .ok (.iload 5, 2) := by decide +kernel
theorem dX6_leastFences_25 : decode cX6_leastFences 25 = .ok (.bipush 64, 2) := by decide +kernel
theorem dX6_leastFences_27 : decode cX6_leastFences 27 = .ok (.if_icmp .ge 74, 3) := by decide +kernel
theorem dX6_leastFences_30 : decode cX6_leastFences 30 = .ok (.iload 5, 2) := by decide +kernel
theorem dX6_leastFences_32 : decode cX6_leastFences 32 = .ok (.aload_n 0, 1) := by decide +kernel
theorem dX6_leastFences_33 : decode cX6_leastFences 33 = .ok (.getfield 12, 3) := by decide +kernel
theorem dX6_leastFences_36 : decode cX6_leastFences 36 = .ok (.getfield 111, 3) := by decide +kernel
theorem dX6_leastFences_39 : decode cX6_leastFences 39 = .ok (.iand, 1) := by decide +kernel
theorem dX6_leastFences_40 : decode cX6_leastFences 40 = .ok (.ifCond .ne 7, 3) := by decide +kernel
theorem dX6_leastFences_43 : decode cX6_leastFences 43 = .ok (.iconst 1, 1) := by decide +kernel
theorem dX6_leastFences_44 : decode cX6_leastFences 44 = .ok (.goto 4, 3) := by decide +kernel
theorem dX6_leastFences_47 : decode cX6_leastFences 47 = .ok (.iconst 0, 1) := by decide +kernel
theorem dX6_leastFences_48 : decode cX6_leastFences 48 = .ok (.istore 6, 2) := by decide +kernel
theorem dX6_leastFences_50 : decode cX6_leastFences 50 = .ok (.lload_n 2, 1) := by decide +kernel
theorem dX6_leastFences_51 : decode cX6_leastFences 51 = .ok (.iload 5, 2) := by decide +kernel
theorem dX6_leastFences_53 : decode cX6_leastFences 53 = .ok (.lushr, 1) := by decide +kernel
theorem dX6_leastFences_54 : decode cX6_leastFences 54 = .ok (.lconst 1, 1) := by decide +kernel
theorem dX6_leastFences_55 : decode cX6_leastFences 55 = .ok (.land, 1) := by decide +kernel
theorem dX6_leastFences_56 : decode cX6_leastFences 56 = .ok (.lconst 0, 1) := by decide +kernel
theorem dX6_leastFences_57 : decode cX6_leastFences 57 = .ok (.lcmp, 1) := by decide +kernel
theorem dX6_leastFences_58 : decode cX6_leastFences 58 = .ok (.ifCond .ne 7, 3) := by decide +kernel
theorem dX6_leastFences_61 : decode cX6_leastFences 61 = .ok (.iconst 1, 1) := by decide +kernel
theorem dX6_leastFences_62 : decode cX6_leastFences 62 = .ok (.goto 4, 3) := by decide +kernel
theorem dX6_leastFences_65 : decode cX6_leastFences 65 = .ok (.iconst 0, 1) := by decide +kernel
theorem dX6_leastFences_66 : decode cX6_leastFences 66 = .ok (.istore 7, 2) := by decide +kernel
theorem dX6_leastFences_68 : decode cX6_leastFences 68 = .ok (.iload 6, 2) := by decide +kernel
theorem dX6_leastFences_70 : decode cX6_leastFences 70 = .ok (.ifCond .eq 25, 3) := by decide +kernel
theorem dX6_leastFences_73 : decode cX6_leastFences 73 = .ok (.iload 7, 2) := by decide +kernel
theorem dX6_leastFences_75 : decode cX6_leastFences 75 = .ok (.ifCond .eq 20, 3) := by decide +kernel
theorem dX6_leastFences_78 : decode cX6_leastFences 78 = .ok (.iload 5, 2) := by decide +kernel
theorem dX6_leastFences_80 : decode cX6_leastFences 80 = .ok (.invokestatic 114, 3) := by decide +kernel
theorem dX6_leastFences_83 : decode cX6_leastFences 83 = .ok (.iload 4, 2) := by decide +kernel
theorem dX6_leastFences_85 : decode cX6_leastFences 85 = .ok (.invokestatic 114, 3) := by decide +kernel
theorem dX6_leastFences_88 : decode cX6_leastFences 88 = .ok (.if_icmp .ge 7, 3) := by decide +kernel
theorem dX6_leastFences_91 : decode cX6_leastFences 91 = .ok (.iload 5, 2) := by decide +kernel
theorem dX6_leastFences_93 : decode cX6_leastFences 93 = .ok (.istore 4, 2) := by decide +kernel
theorem dX6_leastFences_95 : decode cX6_leastFences 95 = .ok (.iinc 5 1, 3) := by decide +kernel
theorem dX6_leastFences_98 : decode cX6_leastFences 98 = .ok (.goto (-75), 3) := by decide +kernel
theorem dX6_leastFences_101 : decode cX6_leastFences 101 = .ok (.iload 4, 2) := by decide +kernel
theorem dX6_leastFences_103 : decode cX6_leastFences 103 = .ok (.ireturn, 1) := by decide +kernel
theorem dX6_setsThatLetThrough_0 : decode cX6_setsThatLetThrough 0 = .ok (.aload_n 0, 1) := by decide +kernel
theorem dX6_setsThatLetThrough_1 : decode cX6_setsThatLetThrough 1 = .ok (.invokevirtual 119, 3) := by decide +kernel
theorem dX6_setsThatLetThrough_4 : decode cX6_setsThatLetThrough 4 = .ok (.aload_n 0, 1) := by decide +kernel
theorem dX6_setsThatLetThrough_5 : decode cX6_setsThatLetThrough 5 = .ok (.getfield 40, 3) := by decide +kernel
theorem dX6_setsThatLetThrough_8 : decode cX6_setsThatLetThrough 8 = .ok (.lconst 0, 1) := by decide +kernel
theorem dX6_setsThatLetThrough_9 : decode cX6_setsThatLetThrough 9 = .ok (.invokestatic 91, 3) := by decide +kernel
theorem dX6_setsThatLetThrough_12 : decode cX6_setsThatLetThrough 12 = .ok (.aload_n 0, 1) := by decide +kernel
theorem dX6_setsThatLetThrough_13 : decode cX6_setsThatLetThrough 13 = .ok (.getfield 40, 3) := by decide +kernel
theorem dX6_setsThatLetThrough_16 : decode cX6_setsThatLetThrough 16 = .ok (.aload_n 0, 1) := by decide +kernel
theorem dX6_setsThatLetThrough_17 : decode cX6_setsThatLetThrough 17 = .ok (.getfield 25, 3) := by decide +kernel
theorem dX6_setsThatLetThrough_20 : decode cX6_setsThatLetThrough 20 = .ok (.iconst 0, 1) := by decide +kernel
theorem dX6_setsThatLetThrough_21 : decode cX6_setsThatLetThrough 21 = .ok (.iaload, 1) := by decide +kernel
theorem dX6_setsThatLetThrough_22 : decode cX6_setsThatLetThrough 22 = .ok (.ldc2_w 122, 3) := by decide +kernel
theorem dX6_setsThatLetThrough_25 : decode cX6_setsThatLetThrough 25 = .ok (.lastore, 1) := by decide +kernel
theorem dX6_setsThatLetThrough_26 : decode cX6_setsThatLetThrough 26 = .ok (.iconst 1, 1) := by decide +kernel
theorem dX6_setsThatLetThrough_27 : decode cX6_setsThatLetThrough 27 = .ok (.istore_n 2, 1) := by decide +kernel
theorem dX6_setsThatLetThrough_28 : decode cX6_setsThatLetThrough 28 = .ok (.iconst 0, 1) := by decide +kernel
theorem dX6_setsThatLetThrough_29 : decode cX6_setsThatLetThrough 29 = .ok (.istore_n 3, 1) := by decide +kernel
theorem dX6_setsThatLetThrough_30 : decode cX6_setsThatLetThrough 30 = .ok (.iload_n 3, 1) := by decide +kernel
theorem dX6_setsThatLetThrough_31 : decode cX6_setsThatLetThrough 31 = .ok (.sipush 455, 3) := by decide +kernel
theorem dX6_setsThatLetThrough_34 : decode cX6_setsThatLetThrough 34 = .ok (.if_icmp .ge 47, 3) := by decide +kernel
theorem dX6_setsThatLetThrough_37 : decode cX6_setsThatLetThrough 37 = .ok (.iload_n 2, 1) := by decide +kernel
theorem dX6_setsThatLetThrough_38 : decode cX6_setsThatLetThrough 38 = .ok (.ifCond .eq 43, 3) := by decide +kernel
theorem dX6_setsThatLetThrough_41 : decode cX6_setsThatLetThrough 41 = .ok (.iconst 0, 1) := by decide +kernel
theorem dX6_setsThatLetThrough_42 : decode cX6_setsThatLetThrough 42 = .ok (.istore_n 2, 1) := by decide +kernel
theorem dX6_setsThatLetThrough_43 : decode cX6_setsThatLetThrough 43 = .ok (.iconst 0, 1) := by decide +kernel
theorem dX6_setsThatLetThrough_44 : decode cX6_setsThatLetThrough 44 = .ok (.istore 4, 2) := by decide +kernel
theorem dX6_setsThatLetThrough_46 : decode cX6_setsThatLetThrough 46 = .ok (.iload 4, 2) := by decide +kernel
theorem dX6_setsThatLetThrough_48 : decode cX6_setsThatLetThrough 48 = .ok (.aload_n 0, 1) := by decide +kernel
theorem dX6_setsThatLetThrough_49 : decode cX6_setsThatLetThrough 49 = .ok (.getfield 74, 3) := by decide +kernel
theorem dX6_setsThatLetThrough_52 : decode cX6_setsThatLetThrough 52 = .ok (.if_icmp .ge 23, 3) := by decide +kernel
theorem dX6_setsThatLetThrough_55 : decode cX6_setsThatLetThrough 55 = .ok (.iload_n 2, 1) := by decide +kernel
theorem dX6_setsThatLetThrough_56 : decode cX6_setsThatLetThrough 56 = .ok (.aload_n 0, 1) := by decide +kernel
theorem dX6_setsThatLetThrough_57 : decode cX6_setsThatLetThrough 57 = .ok (.aload_n 0, 1) := by decide +kernel
theorem dX6_setsThatLetThrough_58 : decode cX6_setsThatLetThrough 58 = .ok (.getfield 25, 3) := by decide +kernel
theorem dX6_setsThatLetThrough_61 : decode cX6_setsThatLetThrough 61 = .ok (.iload 4, 2) := by decide +kernel
theorem dX6_setsThatLetThrough_63 : decode cX6_setsThatLetThrough 63 = .ok (.iaload, 1) := by decide +kernel
theorem dX6_setsThatLetThrough_64 : decode cX6_setsThatLetThrough 64 = .ok (.invokevirtual 124, 3) := by decide +kernel
theorem dX6_setsThatLetThrough_67 : decode cX6_setsThatLetThrough 67 = .ok (.ior, 1) := by decide +kernel
theorem dX6_setsThatLetThrough_68 : decode cX6_setsThatLetThrough 68 = .ok (.istore_n 2, 1) := by decide +kernel
theorem dX6_setsThatLetThrough_69 : decode cX6_setsThatLetThrough 69 = .ok (.iinc 4 1, 3) := by decide +kernel
theorem dX6_setsThatLetThrough_72 : decode cX6_setsThatLetThrough 72 = .ok (.goto (-26), 3) := by decide +kernel
theorem dX6_setsThatLetThrough_75 : decode cX6_setsThatLetThrough 75 = .ok (.iinc 3 1, 3) := by decide +kernel
theorem dX6_setsThatLetThrough_78 : decode cX6_setsThatLetThrough 78 = .ok (.goto (-48), 3) := by decide +kernel
theorem dX6_setsThatLetThrough_81 : decode cX6_setsThatLetThrough 81 = .ok (.lconst 0, 1) := by decide +kernel
theorem dX6_setsThatLetThrough_82 : decode cX6_setsThatLetThrough 82 = .ok (.lstore_n 3, 1) := by decide +kernel
theorem dX6_setsThatLetThrough_83 : decode cX6_setsThatLetThrough 83 = .ok (.iconst 1, 1) := by decide +kernel
theorem dX6_setsThatLetThrough_84 : decode cX6_setsThatLetThrough 84 = .ok (.istore 5, 2) := by decide +kernel
theorem dX6_setsThatLetThrough_86 : decode cX6_setsThatLetThrough 86 = .ok (.iload 5, 2) := by decide +kernel
theorem dX6_setsThatLetThrough_88 : decode cX6_setsThatLetThrough 88 = .ok (.bipush 12, 2) := by decide +kernel
theorem dX6_setsThatLetThrough_90 : decode cX6_setsThatLetThrough 90 = .ok (.if_icmp .gt 24, 3) := by decide +kernel
theorem dX6_setsThatLetThrough_93 : decode cX6_setsThatLetThrough 93 = .ok (.lload_n 3, 1) := by decide +kernel
theorem dX6_setsThatLetThrough_94 : decode cX6_setsThatLetThrough 94 = .ok (.aload_n 0, 1) := by decide +kernel
theorem dX6_setsThatLetThrough_95 : decode cX6_setsThatLetThrough 95 = .ok (.iload 5, 2) := by decide +kernel
theorem dX6_setsThatLetThrough_97 : decode cX6_setsThatLetThrough 97 = .ok (.getstatic 47, 3) := by decide +kernel
theorem dX6_setsThatLetThrough_100 : decode cX6_setsThatLetThrough 100 = .ok (.iload_n 1, 1) := by decide +kernel
theorem dX6_setsThatLetThrough_101 : decode cX6_setsThatLetThrough 101 = .ok (.iaload, 1) := by decide +kernel
theorem dX6_setsThatLetThrough_102 : decode cX6_setsThatLetThrough 102 = .ok (.imul, 1) := by decide +kernel
theorem dX6_setsThatLetThrough_103 : decode cX6_setsThatLetThrough 103 = .ok (.invokevirtual 127, 3) := by decide +kernel
theorem dX6_setsThatLetThrough_106 : decode cX6_setsThatLetThrough 106 = .ok (.lor, 1) := by decide +kernel
theorem dX6_setsThatLetThrough_107 : decode cX6_setsThatLetThrough 107 = .ok (.lstore_n 3, 1) := by decide +kernel
theorem dX6_setsThatLetThrough_108 : decode cX6_setsThatLetThrough 108 = .ok (.iinc 5 1, 3) := by decide +kernel
theorem dX6_setsThatLetThrough_111 : decode cX6_setsThatLetThrough 111 = .ok (.goto (-25), 3) := by decide +kernel
theorem dX6_setsThatLetThrough_114 : decode cX6_setsThatLetThrough 114 = .ok (.lload_n 3, 1) := by decide +kernel
theorem dX6_setsThatLetThrough_115 : decode cX6_setsThatLetThrough 115 = .ok (.lreturn, 1) := by decide +kernel
theorem dX6_spread_0 : decode cX6_spread 0 = .ok (.iconst 0, 1) := by decide +kernel
theorem dX6_spread_1 : decode cX6_spread 1 = .ok (.istore_n 2, 1) := by decide +kernel
theorem dX6_spread_2 : decode cX6_spread 2 = .ok (.iconst 0, 1) := by decide +kernel
theorem dX6_spread_3 : decode cX6_spread 3 = .ok (.istore_n 3, 1) := by decide +kernel
theorem dX6_spread_4 : decode cX6_spread 4 = .ok (.iload_n 3, 1) := by decide +kernel
theorem dX6_spread_5 : decode cX6_spread 5 = .ok (.bipush 6, 2) := by decide +kernel
theorem dX6_spread_7 : decode cX6_spread 7 = .ok (.if_icmp .ge 70, 3) := by decide +kernel
theorem dX6_spread_10 : decode cX6_spread 10 = .ok (.aload_n 0, 1) := by decide +kernel
theorem dX6_spread_11 : decode cX6_spread 11 = .ok (.iload_n 1, 1) := by decide +kernel
theorem dX6_spread_12 : decode cX6_spread 12 = .ok (.iload_n 3, 1) := by decide +kernel
theorem dX6_spread_13 : decode cX6_spread 13 = .ok (.invokevirtual 85, 3) := by decide +kernel
theorem dX6_spread_16 : decode cX6_spread 16 = .ok (.istore 4, 2) := by decide +kernel
theorem dX6_spread_18 : decode cX6_spread 18 = .ok (.aload_n 0, 1) := by decide +kernel
theorem dX6_spread_19 : decode cX6_spread 19 = .ok (.getfield 40, 3) := by decide +kernel
theorem dX6_spread_22 : decode cX6_spread 22 = .ok (.iload_n 1, 1) := by decide +kernel
theorem dX6_spread_23 : decode cX6_spread 23 = .ok (.laload, 1) := by decide +kernel
theorem dX6_spread_24 : decode cX6_spread 24 = .ok (.getstatic 130, 3) := by decide +kernel
theorem dX6_spread_27 : decode cX6_spread 27 = .ok (.iload_n 3, 1) := by decide +kernel
theorem dX6_spread_28 : decode cX6_spread 28 = .ok (.laload, 1) := by decide +kernel
theorem dX6_spread_29 : decode cX6_spread 29 = .ok (.land, 1) := by decide +kernel
theorem dX6_spread_30 : decode cX6_spread 30 = .ok (.lstore 5, 2) := by decide +kernel
theorem dX6_spread_32 : decode cX6_spread 32 = .ok (.iload 4, 2) := by decide +kernel
theorem dX6_spread_34 : decode cX6_spread 34 = .ok (.iconst (-1), 1) := by decide +kernel
theorem dX6_spread_35 : decode cX6_spread 35 = .ok (.if_icmp .eq 36, 3) := by decide +kernel
theorem dX6_spread_38 : decode cX6_spread 38 = .ok (.lload 5, 2) := by decide +kernel
theorem dX6_spread_40 : decode cX6_spread 40 = .ok (.aload_n 0, 1) := by decide +kernel
theorem dX6_spread_41 : decode cX6_spread 41 = .ok (.getfield 40, 3) := by decide +kernel
theorem dX6_spread_44 : decode cX6_spread 44 = .ok (.iload 4, 2) := by decide +kernel
theorem dX6_spread_46 : decode cX6_spread 46 = .ok (.laload, 1) := by decide +kernel
theorem dX6_spread_47 : decode cX6_spread 47 = .ok (.ldc2_w 122, 3) := by decide +kernel
theorem dX6_spread_50 : decode cX6_spread 50 = .ok (.lxor, 1) := by decide +kernel
theorem dX6_spread_51 : decode cX6_spread 51 = .ok (.land, 1) := by decide +kernel
theorem dX6_spread_52 : decode cX6_spread 52 = .ok (.lconst 0, 1) := by decide +kernel
theorem dX6_spread_53 : decode cX6_spread 53 = .ok (.lcmp, 1) := by decide +kernel
theorem dX6_spread_54 : decode cX6_spread 54 = .ok (.ifCond .eq 17, 3) := by decide +kernel
theorem dX6_spread_57 : decode cX6_spread 57 = .ok (.aload_n 0, 1) := by decide +kernel
theorem dX6_spread_58 : decode cX6_spread 58 = .ok (.getfield 40, 3) := by decide +kernel
theorem dX6_spread_61 : decode cX6_spread 61 = .ok (.iload 4, 2) := by decide +kernel
theorem dX6_spread_63 : decode cX6_spread 63 = .ok (.dup2, 1) := by decide +kernel
theorem dX6_spread_64 : decode cX6_spread 64 = .ok (.laload, 1) := by decide +kernel
theorem dX6_spread_65 : decode cX6_spread 65 = .ok (.lload 5, 2) := by decide +kernel
theorem dX6_spread_67 : decode cX6_spread 67 = .ok (.lor, 1) := by decide +kernel
theorem dX6_spread_68 : decode cX6_spread 68 = .ok (.lastore, 1) := by decide +kernel
theorem dX6_spread_69 : decode cX6_spread 69 = .ok (.iconst 1, 1) := by decide +kernel
theorem dX6_spread_70 : decode cX6_spread 70 = .ok (.istore_n 2, 1) := by decide +kernel
theorem dX6_spread_71 : decode cX6_spread 71 = .ok (.iinc 3 1, 3) := by decide +kernel
theorem dX6_spread_74 : decode cX6_spread 74 = .ok (.goto (-70), 3) := by decide +kernel
theorem dX6_spread_77 : decode cX6_spread 77 = .ok (.iload_n 2, 1) := by decide +kernel
theorem dX6_spread_78 : decode cX6_spread 78 = .ok (.ireturn, 1) := by decide +kernel
theorem dX6_goBack_0 : decode cX6_goBack 0 = .ok (.aload_n 0, 1) := by decide +kernel
theorem dX6_goBack_1 : decode cX6_goBack 1 = .ok (.getfield 34, 3) := by decide +kernel
theorem dX6_goBack_4 : decode cX6_goBack 4 = .ok (.iconst 0, 1) := by decide +kernel
theorem dX6_goBack_5 : decode cX6_goBack 5 = .ok (.invokestatic 54, 3) := by decide +kernel
theorem dX6_goBack_8 : decode cX6_goBack 8 = .ok (.aload_n 0, 1) := by decide +kernel
theorem dX6_goBack_9 : decode cX6_goBack 9 = .ok (.getfield 34, 3) := by decide +kernel
theorem dX6_goBack_12 : decode cX6_goBack 12 = .ok (.aload_n 0, 1) := by decide +kernel
theorem dX6_goBack_13 : decode cX6_goBack 13 = .ok (.getfield 12, 3) := by decide +kernel
theorem dX6_goBack_16 : decode cX6_goBack 16 = .ok (.getfield 78, 3) := by decide +kernel
theorem dX6_goBack_19 : decode cX6_goBack 19 = .ok (.invokestatic 70, 3) := by decide +kernel
theorem dX6_goBack_22 : decode cX6_goBack 22 = .ok (.iconst 1, 1) := by decide +kernel
theorem dX6_goBack_23 : decode cX6_goBack 23 = .ok (.iastore, 1) := by decide +kernel
theorem dX6_goBack_24 : decode cX6_goBack 24 = .ok (.iconst 0, 1) := by decide +kernel
theorem dX6_goBack_25 : decode cX6_goBack 25 = .ok (.istore_n 2, 1) := by decide +kernel
theorem dX6_goBack_26 : decode cX6_goBack 26 = .ok (.iload_n 2, 1) := by decide +kernel
theorem dX6_goBack_27 : decode cX6_goBack 27 = .ok (.iload_n 1, 1) := by decide +kernel
theorem dX6_goBack_28 : decode cX6_goBack 28 = .ok (.if_icmp .ge 61, 3) := by decide +kernel
theorem dX6_goBack_31 : decode cX6_goBack 31 = .ok (.iconst 0, 1) := by decide +kernel
theorem dX6_goBack_32 : decode cX6_goBack 32 = .ok (.istore_n 3, 1) := by decide +kernel
theorem dX6_goBack_33 : decode cX6_goBack 33 = .ok (.iload_n 3, 1) := by decide +kernel
theorem dX6_goBack_34 : decode cX6_goBack 34 = .ok (.sipush 455, 3) := by decide +kernel
theorem dX6_goBack_37 : decode cX6_goBack 37 = .ok (.if_icmp .ge 28, 3) := by decide +kernel
theorem dX6_goBack_40 : decode cX6_goBack 40 = .ok (.aload_n 0, 1) := by decide +kernel
theorem dX6_goBack_41 : decode cX6_goBack 41 = .ok (.getfield 37, 3) := by decide +kernel
theorem dX6_goBack_44 : decode cX6_goBack 44 = .ok (.iload_n 3, 1) := by decide +kernel
theorem dX6_goBack_45 : decode cX6_goBack 45 = .ok (.aload_n 0, 1) := by decide +kernel
theorem dX6_goBack_46 : decode cX6_goBack 46 = .ok (.iload_n 3, 1) := by decide +kernel
theorem dX6_goBack_47 : decode cX6_goBack 47 = .ok (.invokevirtual 133, 3) := by decide +kernel
theorem dX6_goBack_50 : decode cX6_goBack 50 = .ok (.ifCond .eq 7, 3) := by decide +kernel
theorem dX6_goBack_53 : decode cX6_goBack 53 = .ok (.iconst 1, 1) := by decide +kernel
theorem dX6_goBack_54 : decode cX6_goBack 54 = .ok (.goto 4, 3) := by decide +kernel
theorem dX6_goBack_57 : decode cX6_goBack 57 = .ok (.iconst 0, 1) := by decide +kernel
theorem dX6_goBack_58 : decode cX6_goBack 58 = .ok (.iastore, 1) := by decide +kernel
theorem dX6_goBack_59 : decode cX6_goBack 59 = .ok (.iinc 3 1, 3) := by decide +kernel
theorem dX6_goBack_62 : decode cX6_goBack 62 = .ok (.goto (-29), 3) := by decide +kernel
theorem dX6_goBack_65 : decode cX6_goBack 65 = .ok (.aload_n 0, 1) := by decide +kernel
theorem dX6_goBack_66 : decode cX6_goBack 66 = .ok (.getfield 34, 3) := by decide +kernel
theorem dX6_goBack_69 : decode cX6_goBack 69 = .ok (.astore_n 3, 1) := by decide +kernel
theorem dX6_goBack_70 : decode cX6_goBack 70 = .ok (.aload_n 0, 1) := by decide +kernel
theorem dX6_goBack_71 : decode cX6_goBack 71 = .ok (.aload_n 0, 1) := by decide +kernel
theorem dX6_goBack_72 : decode cX6_goBack 72 = .ok (.getfield 37, 3) := by decide +kernel
theorem dX6_goBack_75 : decode cX6_goBack 75 = .ok (.putfield 34, 3) := by decide +kernel
theorem dX6_goBack_78 : decode cX6_goBack 78 = .ok (.aload_n 0, 1) := by decide +kernel
theorem dX6_goBack_79 : decode cX6_goBack 79 = .ok (.aload_n 3, 1) := by decide +kernel
theorem dX6_goBack_80 : decode cX6_goBack 80 = .ok (.putfield 37, 3) := by decide +kernel
theorem dX6_goBack_83 : decode cX6_goBack 83 = .ok (.iinc 2 1, 3) := by decide +kernel
theorem dX6_goBack_86 : decode cX6_goBack 86 = .ok (.goto (-60), 3) := by decide +kernel
theorem dX6_goBack_89 : decode cX6_goBack 89 = .ok (.return_, 1) := by decide +kernel
theorem dX6_leadsToMark_0 : decode cX6_leadsToMark 0 = .ok (.iconst 0, 1) := by decide +kernel
theorem dX6_leadsToMark_1 : decode cX6_leadsToMark 1 = .ok (.istore_n 2, 1) := by decide +kernel
theorem dX6_leadsToMark_2 : decode cX6_leadsToMark 2 = .ok (.iload_n 2, 1) := by decide +kernel
theorem dX6_leadsToMark_3 : decode cX6_leadsToMark 3 = .ok (.bipush 6, 2) := by decide +kernel
theorem dX6_leadsToMark_5 : decode cX6_leadsToMark 5 = .ok (.if_icmp .ge 33, 3) := by decide +kernel
theorem dX6_leadsToMark_8 : decode cX6_leadsToMark 8 = .ok (.aload_n 0, 1) := by decide +kernel
theorem dX6_leadsToMark_9 : decode cX6_leadsToMark 9 = .ok (.iload_n 1, 1) := by decide +kernel
theorem dX6_leadsToMark_10 : decode cX6_leadsToMark 10 = .ok (.iload_n 2, 1) := by decide +kernel
theorem dX6_leadsToMark_11 : decode cX6_leadsToMark 11 = .ok (.invokevirtual 85, 3) := by decide +kernel
theorem dX6_leadsToMark_14 : decode cX6_leadsToMark 14 = .ok (.istore_n 3, 1) := by decide +kernel
theorem dX6_leadsToMark_15 : decode cX6_leadsToMark 15 = .ok (.iload_n 3, 1) := by decide +kernel
theorem dX6_leadsToMark_16 : decode cX6_leadsToMark 16 = .ok (.iconst (-1), 1) := by decide +kernel
theorem dX6_leadsToMark_17 : decode cX6_leadsToMark 17 = .ok (.if_icmp .eq 15, 3) := by decide +kernel
