theorem dX12_feed_72 : decode cX12_feed 72 = .ok (.land, 1) := by decide +kernel
theorem dX12_feed_73 : decode cX12_feed 73 = .ok (.l2i, 1) := by decide +kernel
theorem dX12_feed_74 : decode cX12_feed 74 = .ok (.iastore, 1) := by decide +kernel
theorem dX12_feed_75 : decode cX12_feed 75 = .ok (.aload_n 0, 1) := by decide +kernel
theorem dX12_feed_76 : decode cX12_feed 76 = .ok (.getfield 7, 3) := by decide +kernel
theorem dX12_feed_79 : decode cX12_feed 79 = .ok (.bipush 24, 2) := by decide +kernel
theorem dX12_feed_81 : decode cX12_feed 81 = .ok (.dup2, 1) := by decide +kernel
theorem dX12_feed_82 : decode cX12_feed 82 = .ok (.iaload, 1) := by decide +kernel
theorem dX12_feed_83 : decode cX12_feed 83 = .ok (.iconst 1, 1) := by decide +kernel
theorem dX12_feed_84 : decode cX12_feed 84 = .ok (.iadd, 1) := by decide +kernel
theorem dX12_feed_85 : decode cX12_feed 85 = .ok (.iastore, 1) := by decide +kernel
theorem dX12_feed_86 : decode cX12_feed 86 = .ok (.iinc 4 1, 3) := by decide +kernel
theorem dX12_feed_89 : decode cX12_feed 89 = .ok (.goto (-48), 3) := by decide +kernel
theorem dX12_feed_92 : decode cX12_feed 92 = .ok (.aload_n 0, 1) := by decide +kernel
theorem dX12_feed_93 : decode cX12_feed 93 = .ok (.getfield 7, 3) := by decide +kernel
theorem dX12_feed_96 : decode cX12_feed 96 = .ok (.bipush 24, 2) := by decide +kernel
theorem dX12_feed_98 : decode cX12_feed 98 = .ok (.iaload, 1) := by decide +kernel
theorem dX12_feed_99 : decode cX12_feed 99 = .ok (.ireturn, 1) := by decide +kernel
theorem dX12_text_0 : decode cX12_text 0 = .ok (.iload_n 1, 1) := by decide +kernel
theorem dX12_text_1 : decode cX12_text 1 = .ok (.i2l, 1) := by decide +kernel
theorem dX12_text_2 : decode cX12_text 2 = .ok (.lconst 0, 1) := by decide +kernel
theorem dX12_text_3 : decode cX12_text 3 = .ok (.lconst 1, 1) := by decide +kernel
theorem dX12_text_4 : decode cX12_text 4 = .ok (.invokestatic 78, 3) := by decide +kernel
theorem dX12_text_7 : decode cX12_text 7 = .ok (.ifCond .ne 9, 3) := by decide +kernel
theorem dX12_text_10 : decode cX12_text 10 = .ok (.aload_n 0, 1) := by decide +kernel
theorem dX12_text_11 : decode cX12_text 11 = .ok (.iconst 1, 1) := by decide +kernel
theorem dX12_text_12 : decode cX12_text 12 = .ok (.invokevirtual 152, 3) := by decide +kernel
theorem dX12_text_15 : decode cX12_text 15 = .ok (.ireturn, 1) := by decide +kernel
theorem dX12_text_16 : decode cX12_text 16 = .ok (.aload_n 0, 1) := by decide +kernel
theorem dX12_text_17 : decode cX12_text 17 = .ok (.getfield 7, 3) := by decide +kernel
theorem dX12_text_20 : decode cX12_text 20 = .ok (.bipush 24, 2) := by decide +kernel
theorem dX12_text_22 : decode cX12_text 22 = .ok (.iaload, 1) := by decide +kernel
theorem dX12_text_23 : decode cX12_text 23 = .ok (.istore_n 2, 1) := by decide +kernel
theorem dX12_text_24 : decode cX12_text 24 = .ok (.aload_n 0, 1) := by decide +kernel
theorem dX12_text_25 : decode cX12_text 25 = .ok (.getfield 7, 3) := by decide +kernel
theorem dX12_text_28 : decode cX12_text 28 = .ok (.bipush 24, 2) := by decide +kernel
theorem dX12_text_30 : decode cX12_text 30 = .ok (.iconst 0, 1) := by decide +kernel
theorem dX12_text_31 : decode cX12_text 31 = .ok (.iastore, 1) := by decide +kernel
theorem dX12_text_32 : decode cX12_text 32 = .ok (.aload_n 0, 1) := by decide +kernel
theorem dX12_text_33 : decode cX12_text 33 = .ok (.sipush 148, 3) := by decide +kernel
theorem dX12_text_36 : decode cX12_text 36 = .ok (.iload_n 2, 1) := by decide +kernel
theorem dX12_text_37 : decode cX12_text 37 = .ok (.iload_n 1, 1) := by decide +kernel
theorem dX12_text_38 : decode cX12_text 38 = .ok (.invokevirtual 157, 3) := by decide +kernel
theorem dX12_text_41 : decode cX12_text 41 = .ok (.istore_n 3, 1) := by decide +kernel
theorem dX12_text_42 : decode cX12_text 42 = .ok (.aload_n 0, 1) := by decide +kernel
theorem dX12_text_43 : decode cX12_text 43 = .ok (.getfield 101, 3) := by decide +kernel
theorem dX12_text_46 : decode cX12_text 46 = .ok (.ifCond .lt 11, 3) := by decide +kernel
theorem dX12_text_49 : decode cX12_text 49 = .ok (.bipush (-10), 2) := by decide +kernel
theorem dX12_text_51 : decode cX12_text 51 = .ok (.aload_n 0, 1) := by decide +kernel
theorem dX12_text_52 : decode cX12_text 52 = .ok (.getfield 101, 3) := by decide +kernel
theorem dX12_text_55 : decode cX12_text 55 = .ok (.isub, 1) := by decide +kernel
theorem dX12_text_56 : decode cX12_text 56 = .ok (.ireturn, 1) := by decide +kernel
theorem dX12_text_57 : decode cX12_text 57 = .ok (.aload_n 0, 1) := by decide +kernel
theorem dX12_text_58 : decode cX12_text 58 = .ok (.getfield 7, 3) := by decide +kernel
theorem dX12_text_61 : decode cX12_text 61 = .ok (.bipush 26, 2) := by decide +kernel
theorem dX12_text_63 : decode cX12_text 63 = .ok (.iload_n 1, 1) := by decide +kernel
theorem dX12_text_64 : decode cX12_text 64 = .ok (.iadd, 1) := by decide +kernel
theorem dX12_text_65 : decode cX12_text 65 = .ok (.iload_n 2, 1) := by decide +kernel
theorem dX12_text_66 : decode cX12_text 66 = .ok (.iastore, 1) := by decide +kernel
theorem dX12_text_67 : decode cX12_text 67 = .ok (.iconst 0, 1) := by decide +kernel
theorem dX12_text_68 : decode cX12_text 68 = .ok (.istore 4, 2) := by decide +kernel
theorem dX12_text_70 : decode cX12_text 70 = .ok (.iload 4, 2) := by decide +kernel
theorem dX12_text_72 : decode cX12_text 72 = .ok (.iload_n 2, 1) := by decide +kernel
theorem dX12_text_73 : decode cX12_text 73 = .ok (.if_icmp .ge 35, 3) := by decide +kernel
theorem dX12_text_76 : decode cX12_text 76 = .ok (.aload_n 0, 1) := by decide +kernel
theorem dX12_text_77 : decode cX12_text 77 = .ok (.getfield 7, 3) := by decide +kernel
theorem dX12_text_80 : decode cX12_text 80 = .ok (.bipush 48, 2) := by decide +kernel
theorem dX12_text_82 : decode cX12_text 82 = .ok (.bipush 50, 2) := by decide +kernel
theorem dX12_text_84 : decode cX12_text 84 = .ok (.iload_n 1, 1) := by decide +kernel
theorem dX12_text_85 : decode cX12_text 85 = .ok (.imul, 1) := by decide +kernel
theorem dX12_text_86 : decode cX12_text 86 = .ok (.iadd, 1) := by decide +kernel
theorem dX12_text_87 : decode cX12_text 87 = .ok (.iload 4, 2) := by decide +kernel
theorem dX12_text_89 : decode cX12_text 89 = .ok (.iadd, 1) := by decide +kernel
theorem dX12_text_90 : decode cX12_text 90 = .ok (.aload_n 0, 1) := by decide +kernel
theorem dX12_text_91 : decode cX12_text 91 = .ok (.getfield 7, 3) := by decide +kernel
theorem dX12_text_94 : decode cX12_text 94 = .ok (.sipush 148, 3) := by decide +kernel
theorem dX12_text_97 : decode cX12_text 97 = .ok (.iload 4, 2) := by decide +kernel
theorem dX12_text_99 : decode cX12_text 99 = .ok (.iadd, 1) := by decide +kernel
theorem dX12_text_100 : decode cX12_text 100 = .ok (.iaload, 1) := by decide +kernel
theorem dX12_text_101 : decode cX12_text 101 = .ok (.iastore, 1) := by decide +kernel
theorem dX12_text_102 : decode cX12_text 102 = .ok (.iinc 4 1, 3) := by decide +kernel
theorem dX12_text_105 : decode cX12_text 105 = .ok (.goto (-35), 3) := by decide +kernel
theorem dX12_text_108 : decode cX12_text 108 = .ok (.iconst 1, 1) := by decide +kernel
theorem dX12_text_109 : decode cX12_text 109 = .ok (.ireturn, 1) := by decide +kernel
theorem dX12_given_0 : decode cX12_given 0 = .ok (.iload_n 1, 1) := by decide +kernel
theorem dX12_given_1 : decode cX12_given 1 = .ok (.ifCond .ne 12, 3) := by decide +kernel
theorem dX12_given_4 : decode cX12_given 4 = .ok (.iload_n 2, 1) := by decide +kernel
theorem dX12_given_5 : decode cX12_given 5 = .ok (.iload_n 3, 1) := by decide +kernel
theorem dX12_given_6 : decode cX12_given 6 = .ok (.iadd, 1) := by decide +kernel
theorem dX12_given_7 : decode cX12_given 7 = .ok (.iload 4, 2) := by decide +kernel
theorem dX12_given_9 : decode cX12_given 9 = .ok (.iadd, 1) := by decide +kernel
theorem dX12_given_10 : decode cX12_given 10 = .ok (.goto 4, 3) := by decide +kernel
theorem dX12_given_13 : decode cX12_given 13 = .ok (.iconst 1, 1) := by decide +kernel
theorem dX12_given_14 : decode cX12_given 14 = .ok (.istore 6, 2) := by decide +kernel
theorem dX12_given_16 : decode cX12_given 16 = .ok (.aload_n 0, 1) := by decide +kernel
theorem dX12_given_17 : decode cX12_given 17 = .ok (.getfield 7, 3) := by decide +kernel
theorem dX12_given_20 : decode cX12_given 20 = .ok (.bipush 26, 2) := by decide +kernel
theorem dX12_given_22 : decode cX12_given 22 = .ok (.iload_n 1, 1) := by decide +kernel
theorem dX12_given_23 : decode cX12_given 23 = .ok (.iadd, 1) := by decide +kernel
theorem dX12_given_24 : decode cX12_given 24 = .ok (.iaload, 1) := by decide +kernel
theorem dX12_given_25 : decode cX12_given 25 = .ok (.ifCond .le 56, 3) := by decide +kernel
theorem dX12_given_28 : decode cX12_given 28 = .ok (.aload_n 0, 1) := by decide +kernel
theorem dX12_given_29 : decode cX12_given 29 = .ok (.getfield 19, 3) := by decide +kernel
theorem dX12_given_32 : decode cX12_given 32 = .ok (.iconst 0, 1) := by decide +kernel
theorem dX12_given_33 : decode cX12_given 33 = .ok (.iload_n 2, 1) := by decide +kernel
theorem dX12_given_34 : decode cX12_given 34 = .ok (.iastore, 1) := by decide +kernel
theorem dX12_given_35 : decode cX12_given 35 = .ok (.aload_n 0, 1) := by decide +kernel
theorem dX12_given_36 : decode cX12_given 36 = .ok (.getfield 19, 3) := by decide +kernel
theorem dX12_given_39 : decode cX12_given 39 = .ok (.iconst 1, 1) := by decide +kernel
theorem dX12_given_40 : decode cX12_given 40 = .ok (.iload_n 3, 1) := by decide +kernel
theorem dX12_given_41 : decode cX12_given 41 = .ok (.iastore, 1) := by decide +kernel
theorem dX12_given_42 : decode cX12_given 42 = .ok (.aload_n 0, 1) := by decide +kernel
theorem dX12_given_43 : decode cX12_given 43 = .ok (.getfield 19, 3) := by decide +kernel
theorem dX12_given_46 : decode cX12_given 46 = .ok (.iconst 2, 1) := by decide +kernel
theorem dX12_given_47 : decode cX12_given 47 = .ok (.iload 4, 2) := by decide +kernel
theorem dX12_given_49 : decode cX12_given 49 = .ok (.iastore, 1) := by decide +kernel
theorem dX12_given_50 : decode cX12_given 50 = .ok (.aload_n 0, 1) := by decide +kernel
theorem dX12_given_51 : decode cX12_given 51 = .ok (.getfield 19, 3) := by decide +kernel
theorem dX12_given_54 : decode cX12_given 54 = .ok (.iconst 3, 1) := by decide +kernel
theorem dX12_given_55 : decode cX12_given 55 = .ok (.iload 5, 2) := by decide +kernel
theorem dX12_given_57 : decode cX12_given 57 = .ok (.iastore, 1) := by decide +kernel
theorem dX12_given_58 : decode cX12_given 58 = .ok (.aload_n 0, 1) := by decide +kernel
theorem dX12_given_59 : decode cX12_given 59 = .ok (.bipush 48, 2) := by decide +kernel
theorem dX12_given_61 : decode cX12_given 61 = .ok (.bipush 50, 2) := by decide +kernel
theorem dX12_given_63 : decode cX12_given 63 = .ok (.iload_n 1, 1) := by decide +kernel
theorem dX12_given_64 : decode cX12_given 64 = .ok (.imul, 1) := by decide +kernel
theorem dX12_given_65 : decode cX12_given 65 = .ok (.iadd, 1) := by decide +kernel
theorem dX12_given_66 : decode cX12_given 66 = .ok (.aload_n 0, 1) := by decide +kernel
theorem dX12_given_67 : decode cX12_given 67 = .ok (.getfield 7, 3) := by decide +kernel
theorem dX12_given_70 : decode cX12_given 70 = .ok (.bipush 26, 2) := by decide +kernel
theorem dX12_given_72 : decode cX12_given 72 = .ok (.iload_n 1, 1) := by decide +kernel
theorem dX12_given_73 : decode cX12_given 73 = .ok (.iadd, 1) := by decide +kernel
theorem dX12_given_74 : decode cX12_given 74 = .ok (.iaload, 1) := by decide +kernel
theorem dX12_given_75 : decode cX12_given 75 = .ok (.iload_n 1, 1) := by decide +kernel
theorem dX12_given_76 : decode cX12_given 76 = .ok (.invokevirtual 157, 3) := by decide +kernel
theorem dX12_given_79 : decode cX12_given 79 = .ok (.istore 6, 2) := by decide +kernel
theorem dX12_given_81 : decode cX12_given 81 = .ok (.iload_n 1, 1) := by decide +kernel
theorem dX12_given_82 : decode cX12_given 82 = .ok (.ifCond .ne 15, 3) := by decide +kernel
theorem dX12_given_85 : decode cX12_given 85 = .ok (.iload 6, 2) := by decide +kernel
theorem dX12_given_87 : decode cX12_given 87 = .ok (.iconst 3, 1) := by decide +kernel
theorem dX12_given_88 : decode cX12_given 88 = .ok (.irem, 1) := by decide +kernel
theorem dX12_given_89 : decode cX12_given 89 = .ok (.iconst 0, 1) := by decide +kernel
theorem dX12_given_90 : decode cX12_given 90 = .ok (.iconst 2, 1) := by decide +kernel
theorem dX12_given_91 : decode cX12_given 91 = .ok (.invokestatic 161, 3) := by decide +kernel
theorem dX12_given_94 : decode cX12_given 94 = .ok (.goto 12, 3) := by decide +kernel
theorem dX12_given_97 : decode cX12_given 97 = .ok (.iload 6, 2) := by decide +kernel
theorem dX12_given_99 : decode cX12_given 99 = .ok (.bipush (-99), 2) := by decide +kernel
theorem dX12_given_101 : decode cX12_given 101 = .ok (.bipush 99, 2) := by decide +kernel
theorem dX12_given_103 : decode cX12_given 103 = .ok (.invokestatic 161, 3) := by decide +kernel
theorem dX12_given_106 : decode cX12_given 106 = .ok (.ireturn, 1) := by decide +kernel
theorem dX12_gives_0 : decode cX12_gives 0 = .ok (.iload_n 1, 1) := by decide +kernel
theorem dX12_gives_1 : decode cX12_gives 1 = .ok (.i2l, 1) := by decide +kernel
theorem dX12_gives_2 : decode cX12_gives 2 = .ok (.lconst 0, 1) := by decide +kernel
theorem dX12_gives_3 : decode cX12_gives 3 = .ok (.lconst 1, 1) := by decide +kernel
theorem dX12_gives_4 : decode cX12_gives 4 = .ok (.invokestatic 78, 3) := by decide +kernel
theorem dX12_gives_7 : decode cX12_gives 7 = .ok (.ifCond .eq 17, 3) := by decide +kernel
theorem dX12_gives_10 : decode cX12_gives 10 = .ok (.aload_n 0, 1) := by decide +kernel
theorem dX12_gives_11 : decode cX12_gives 11 = .ok (.iload_n 1, 1) := by decide +kernel
theorem dX12_gives_12 : decode cX12_gives 12 = .ok (.iload_n 2, 1) := by decide +kernel
theorem dX12_gives_13 : decode cX12_gives 13 = .ok (.iload_n 3, 1) := by decide +kernel
theorem dX12_gives_14 : decode cX12_gives 14 = .ok (.iload 4, 2) := by decide +kernel
theorem dX12_gives_16 : decode cX12_gives 16 = .ok (.iload 5, 2) := by decide +kernel
theorem dX12_gives_18 : decode cX12_gives 18 = .ok (.invokevirtual 164, 3) := by decide +kernel
theorem dX12_gives_21 : decode cX12_gives 21 = .ok (.goto 8, 3) := by decide +kernel
theorem dX12_gives_24 : decode cX12_gives 24 = .ok (.aload_n 0, 1) := by decide +kernel
theorem dX12_gives_25 : decode cX12_gives 25 = .ok (.iconst 1, 1) := by decide +kernel
theorem dX12_gives_26 : decode cX12_gives 26 = .ok (.invokevirtual 152, 3) := by decide +kernel
theorem dX12_gives_29 : decode cX12_gives 29 = .ok (.ireturn, 1) := by decide +kernel
theorem dX12_be_0 : decode cX12_be 0 = .ok (.iload_n 1, 1) := by decide +kernel
theorem dX12_be_1 : decode cX12_be 1 = .ok (.invokestatic 168, 3) := by decide +kernel
theorem dX12_be_4 : decode cX12_be 4 = .ok (.ifCond .eq 15, 3) := by decide +kernel
theorem dX12_be_7 : decode cX12_be 7 = .ok (.iload_n 2, 1) := by decide +kernel
theorem dX12_be_8 : decode cX12_be 8 = .ok (.i2l, 1) := by decide +kernel
theorem dX12_be_9 : decode cX12_be 9 = .ok (.lconst 0, 1) := by decide +kernel
theorem dX12_be_10 : decode cX12_be 10 = .ok (.ldc2_w 171, 3) := by decide +kernel
theorem dX12_be_13 : decode cX12_be 13 = .ok (.invokestatic 78, 3) := by decide +kernel
theorem dX12_be_16 : decode cX12_be 16 = .ok (.ifCond .ne 9, 3) := by decide +kernel
theorem dX12_be_19 : decode cX12_be 19 = .ok (.aload_n 0, 1) := by decide +kernel
theorem dX12_be_20 : decode cX12_be 20 = .ok (.iconst 1, 1) := by decide +kernel
theorem dX12_be_21 : decode cX12_be 21 = .ok (.invokevirtual 152, 3) := by decide +kernel
theorem dX12_be_24 : decode cX12_be 24 = .ok (.ireturn, 1) := by decide +kernel
theorem dX12_be_25 : decode cX12_be 25 = .ok (.aload_n 0, 1) := by decide +kernel
theorem dX12_be_26 : decode cX12_be 26 = .ok (.getfield 7, 3) := by decide +kernel
theorem dX12_be_29 : decode cX12_be 29 = .ok (.iconst 0, 1) := by decide +kernel
theorem dX12_be_30 : decode cX12_be 30 = .ok (.iload_n 1, 1) := by decide +kernel
theorem dX12_be_31 : decode cX12_be 31 = .ok (.iadd, 1) := by decide +kernel
theorem dX12_be_32 : decode cX12_be 32 = .ok (.iaload, 1) := by decide +kernel
theorem dX12_be_33 : decode cX12_be 33 = .ok (.istore_n 3, 1) := by decide +kernel
theorem dX12_be_34 : decode cX12_be 34 = .ok (.aload_n 0, 1) := by decide +kernel
theorem dX12_be_35 : decode cX12_be 35 = .ok (.invokevirtual 173, 3) := by decide +kernel
theorem dX12_be_38 : decode cX12_be 38 = .ok (.invokestatic 86, 3) := by decide +kernel
theorem dX12_be_41 : decode cX12_be 41 = .ok (.iload_n 3, 1) := by decide +kernel
theorem dX12_be_42 : decode cX12_be 42 = .ok (.isub, 1) := by decide +kernel
theorem dX12_be_43 : decode cX12_be 43 = .ok (.iload_n 2, 1) := by decide +kernel
theorem dX12_be_44 : decode cX12_be 44 = .ok (.iadd, 1) := by decide +kernel
theorem dX12_be_45 : decode cX12_be 45 = .ok (.bipush 12, 2) := by decide +kernel
theorem dX12_be_47 : decode cX12_be 47 = .ok (.if_icmp .le 9, 3) := by decide +kernel
theorem dX12_be_50 : decode cX12_be 50 = .ok (.aload_n 0, 1) := by decide +kernel
theorem dX12_be_51 : decode cX12_be 51 = .ok (.iconst 4, 1) := by decide +kernel
theorem dX12_be_52 : decode cX12_be 52 = .ok (.invokevirtual 152, 3) := by decide +kernel
theorem dX12_be_55 : decode cX12_be 55 = .ok (.ireturn, 1) := by decide +kernel
theorem dX12_be_56 : decode cX12_be 56 = .ok (.aload_n 0, 1) := by decide +kernel
theorem dX12_be_57 : decode cX12_be 57 = .ok (.getfield 7, 3) := by decide +kernel
theorem dX12_be_60 : decode cX12_be 60 = .ok (.iconst 0, 1) := by decide +kernel
theorem dX12_be_61 : decode cX12_be 61 = .ok (.iload_n 1, 1) := by decide +kernel
theorem dX12_be_62 : decode cX12_be 62 = .ok (.iadd, 1) := by decide +kernel
theorem dX12_be_63 : decode cX12_be 63 = .ok (.iload_n 2, 1) := by decide +kernel
theorem dX12_be_64 : decode cX12_be 64 = .ok (.iastore, 1) := by decide +kernel
theorem dX12_be_65 : decode cX12_be 65 = .ok (.iload_n 3, 1) := by decide +kernel
theorem dX12_be_66 : decode cX12_be 66 = .ok (.ireturn, 1) := by decide +kernel
theorem dX12_of_0 : decode cX12_of 0 = .ok (.iload_n 1, 1) := by decide +kernel
theorem dX12_of_1 : decode cX12_of 1 = .ok (.invokestatic 168, 3) := by decide +kernel
theorem dX12_of_4 : decode cX12_of 4 = .ok (.ifCond .eq 14, 3) := by decide +kernel
theorem dX12_of_7 : decode cX12_of 7 = .ok (.aload_n 0, 1) := by decide +kernel
theorem dX12_of_8 : decode cX12_of 8 = .ok (.getfield 7, 3) := by decide +kernel
theorem dX12_of_11 : decode cX12_of 11 = .ok (.iconst 0, 1) := by decide +kernel
theorem dX12_of_12 : decode cX12_of 12 = .ok (.iload_n 1, 1) := by decide +kernel
theorem dX12_of_13 : decode cX12_of 13 = .ok (.iadd, 1) := by decide +kernel
theorem dX12_of_14 : decode cX12_of 14 = .ok (.iaload, 1) := by decide +kernel
theorem dX12_of_15 : decode cX12_of 15 = .ok (.goto 8, 3) := by decide +kernel
theorem dX12_of_18 : decode cX12_of 18 = .ok (.aload_n 0, 1) := by decide +kernel
theorem dX12_of_19 : decode cX12_of 19 = .ok (.iconst 1, 1) := by decide +kernel
theorem dX12_of_20 : decode cX12_of 20 = .ok (.invokevirtual 152, 3) := by decide +kernel
theorem dX12_of_23 : decode cX12_of 23 = .ok (.ireturn, 1) := by decide +kernel
theorem dX12_law_0 : decode cX12_law 0 = .ok (.iload_n 1, 1) := by decide +kernel
theorem dX12_law_1 : decode cX12_law 1 = .ok (.invokestatic 176, 3) := by decide +kernel
theorem dX12_law_4 : decode cX12_law 4 = .ok (.ifCond .eq 15, 3) := by decide +kernel
theorem dX12_law_7 : decode cX12_law 7 = .ok (.iload_n 2, 1) := by decide +kernel
theorem dX12_law_8 : decode cX12_law 8 = .ok (.i2l, 1) := by decide +kernel
theorem dX12_law_9 : decode cX12_law 9 = .ok (.lconst 0, 1) := by decide +kernel
theorem dX12_law_10 : decode cX12_law 10 = .ok (.ldc2_w 179, 3) := by decide +kernel
theorem dX12_law_13 : decode cX12_law 13 = .ok (.invokestatic 78, 3) := by decide +kernel
theorem dX12_law_16 : decode cX12_law 16 = .ok (.ifCond .ne 9, 3) := by decide +kernel
theorem dX12_law_19 : decode cX12_law 19 = .ok (.aload_n 0, 1) := by decide +kernel
theorem dX12_law_20 : decode cX12_law 20 = .ok (.iconst 1, 1) := by decide +kernel
theorem dX12_law_21 : decode cX12_law 21 = .ok (.invokevirtual 152, 3) := by decide +kernel
theorem dX12_law_24 : decode cX12_law 24 = .ok (.ireturn, 1) := by decide +kernel
theorem dX12_law_25 : decode cX12_law 25 = .ok (.bipush 10, 2) := by decide +kernel
theorem dX12_law_27 : decode cX12_law 27 = .ok (.aload_n 0, 1) := by decide +kernel
theorem dX12_law_28 : decode cX12_law 28 = .ok (.getfield 7, 3) := by decide +kernel
theorem dX12_law_31 : decode cX12_law 31 = .ok (.iconst 3, 1) := by decide +kernel
theorem dX12_law_32 : decode cX12_law 32 = .ok (.iload_n 1, 1) := by decide +kernel
theorem dX12_law_33 : decode cX12_law 33 = .ok (.iadd, 1) := by decide +kernel
theorem dX12_law_34 : decode cX12_law 34 = .ok (.iaload, 1) := by decide +kernel
theorem dX12_law_35 : decode cX12_law 35 = .ok (.imul, 1) := by decide +kernel
theorem dX12_law_36 : decode cX12_law 36 = .ok (.aload_n 0, 1) := by decide +kernel
theorem dX12_law_37 : decode cX12_law 37 = .ok (.getfield 7, 3) := by decide +kernel
theorem dX12_law_40 : decode cX12_law 40 = .ok (.bipush 9, 2) := by decide +kernel
theorem dX12_law_42 : decode cX12_law 42 = .ok (.iload_n 1, 1) := by decide +kernel
theorem dX12_law_43 : decode cX12_law 43 = .ok (.iadd, 1) := by decide +kernel
theorem dX12_law_44 : decode cX12_law 44 = .ok (.iaload, 1) := by decide +kernel
theorem dX12_law_45 : decode cX12_law 45 = .ok (.iadd, 1) := by decide +kernel
theorem dX12_law_46 : decode cX12_law 46 = .ok (.istore_n 3, 1) := by decide +kernel
theorem dX12_law_47 : decode cX12_law 47 = .ok (.aload_n 0, 1) := by decide +kernel
theorem dX12_law_48 : decode cX12_law 48 = .ok (.getfield 7, 3) := by decide +kernel
theorem dX12_law_51 : decode cX12_law 51 = .ok (.iconst 3, 1) := by decide +kernel
theorem dX12_law_52 : decode cX12_law 52 = .ok (.iload_n 1, 1) := by decide +kernel
theorem dX12_law_53 : decode cX12_law 53 = .ok (.iadd, 1) := by decide +kernel
theorem dX12_law_54 : decode cX12_law 54 = .ok (.iload_n 2, 1) := by decide +kernel
theorem dX12_law_55 : decode cX12_law 55 = .ok (.bipush 10, 2) := by decide +kernel
theorem dX12_law_57 : decode cX12_law 57 = .ok (.idiv, 1) := by decide +kernel
theorem dX12_law_58 : decode cX12_law 58 = .ok (.iastore, 1) := by decide +kernel
theorem dX12_law_59 : decode cX12_law 59 = .ok (.aload_n 0, 1) := by decide +kernel
theorem dX12_law_60 : decode cX12_law 60 = .ok (.getfield 7, 3) := by decide +kernel
theorem dX12_law_63 : decode cX12_law 63 = .ok (.bipush 9, 2) := by decide +kernel
theorem dX12_law_65 : decode cX12_law 65 = .ok (.iload_n 1, 1) := by decide +kernel
theorem dX12_law_66 : decode cX12_law 66 = .ok (.iadd, 1) := by decide +kernel
theorem dX12_law_67 : decode cX12_law 67 = .ok (.iload_n 2, 1) := by decide +kernel
theorem dX12_law_68 : decode cX12_law 68 = .ok (.bipush 10, 2) := by decide +kernel
theorem dX12_law_70 : decode cX12_law 70 = .ok (.irem, 1) := by decide +kernel
theorem dX12_law_71 : decode cX12_law 71 = .ok (.iastore, 1) := by decide +kernel
theorem dX12_law_72 : decode cX12_law 72 = .ok (.iload_n 3, 1) := by decide +kernel
theorem dX12_law_73 : decode cX12_law 73 = .ok (.ireturn, 1) := by decide +kernel
theorem dX12_fence_0 : decode cX12_fence 0 = .ok (.iload_n 1, 1) := by decide +kernel
theorem dX12_fence_1 : decode cX12_fence 1 = .ok (.invokestatic 176, 3) := by decide +kernel
theorem dX12_fence_4 : decode cX12_fence 4 = .ok (.ifCond .eq 13, 3) := by decide +kernel
theorem dX12_fence_7 : decode cX12_fence 7 = .ok (.iload_n 2, 1) := by decide +kernel
theorem dX12_fence_8 : decode cX12_fence 8 = .ok (.i2l, 1) := by decide +kernel
theorem dX12_fence_9 : decode cX12_fence 9 = .ok (.lconst 0, 1) := by decide +kernel
theorem dX12_fence_10 : decode cX12_fence 10 = .ok (.lconst 1, 1) := by decide +kernel
theorem dX12_fence_11 : decode cX12_fence 11 = .ok (.invokestatic 78, 3) := by decide +kernel
theorem dX12_fence_14 : decode cX12_fence 14 = .ok (.ifCond .ne 9, 3) := by decide +kernel
theorem dX12_fence_17 : decode cX12_fence 17 = .ok (.aload_n 0, 1) := by decide +kernel
theorem dX12_fence_18 : decode cX12_fence 18 = .ok (.iconst 1, 1) := by decide +kernel
theorem dX12_fence_19 : decode cX12_fence 19 = .ok (.invokevirtual 152, 3) := by decide +kernel
theorem dX12_fence_22 : decode cX12_fence 22 = .ok (.ireturn, 1) := by decide +kernel
theorem dX12_fence_23 : decode cX12_fence 23 = .ok (.aload_n 0, 1) := by decide +kernel
theorem dX12_fence_24 : decode cX12_fence 24 = .ok (.getfield 7, 3) := by decide +kernel
theorem dX12_fence_27 : decode cX12_fence 27 = .ok (.bipush 15, 2) := by decide +kernel
theorem dX12_fence_29 : decode cX12_fence 29 = .ok (.iload_n 1, 1) := by decide +kernel
theorem dX12_fence_30 : decode cX12_fence 30 = .ok (.iadd, 1) := by decide +kernel
theorem dX12_fence_31 : decode cX12_fence 31 = .ok (.iaload, 1) := by decide +kernel
theorem dX12_fence_32 : decode cX12_fence 32 = .ok (.istore_n 3, 1) := by decide +kernel
theorem dX12_fence_33 : decode cX12_fence 33 = .ok (.aload_n 0, 1) := by decide +kernel
theorem dX12_fence_34 : decode cX12_fence 34 = .ok (.getfield 7, 3) := by decide +kernel
theorem dX12_fence_37 : decode cX12_fence 37 = .ok (.bipush 15, 2) := by decide +kernel
theorem dX12_fence_39 : decode cX12_fence 39 = .ok (.iload_n 1, 1) := by decide +kernel
theorem dX12_fence_40 : decode cX12_fence 40 = .ok (.iadd, 1) := by decide +kernel
theorem dX12_fence_41 : decode cX12_fence 41 = .ok (.iload_n 2, 1) := by decide +kernel
theorem dX12_fence_42 : decode cX12_fence 42 = .ok (.iastore, 1) := by decide +kernel
theorem dX12_fence_43 : decode cX12_fence 43 = .ok (.iload_n 3, 1) := by decide +kernel
theorem dX12_fence_44 : decode cX12_fence 44 = .ok (.ireturn, 1) := by decide +kernel
theorem dX12_put3_0 : decode cX12_put3 0 = .ok (.aload_n 0, 1) := by decide +kernel
theorem dX12_put3_1 : decode cX12_put3 1 = .ok (.getfield 22, 3) := by decide +kernel
theorem dX12_put3_4 : decode cX12_put3 4 = .ok (.iconst 3, 1) := by decide +kernel
theorem dX12_put3_5 : decode cX12_put3 5 = .ok (.iload_n 1, 1) := by decide +kernel
theorem dX12_put3_6 : decode cX12_put3 6 = .ok (.imul, 1) := by decide +kernel
theorem dX12_put3_7 : decode cX12_put3 7 = .ok (.iload_n 2, 1) := by decide +kernel
theorem dX12_put3_8 : decode cX12_put3 8 = .ok (.iastore, 1) := by decide +kernel
theorem dX12_put3_9 : decode cX12_put3 9 = .ok (.aload_n 0, 1) := by decide +kernel
theorem dX12_put3_10 : decode cX12_put3 10 = .ok (.getfield 22, 3) := by decide +kernel
theorem dX12_put3_13 : decode cX12_put3 13 = .ok (.iconst 3, 1) := by decide +kernel
theorem dX12_put3_14 : decode cX12_put3 14 = .ok (.iload_n 1, 1) := by decide +kernel
theorem dX12_put3_15 : decode cX12_put3 15 = .ok (.imul, 1) := by decide +kernel
theorem dX12_put3_16 : decode cX12_put3 16 = .ok (.iconst 1, 1) := by decide +kernel
theorem dX12_put3_17 : decode cX12_put3 17 = .ok (.iadd, 1) := by decide +kernel
theorem dX12_put3_18 : decode cX12_put3 18 = .ok (.iload_n 3, 1) := by decide +kernel
theorem dX12_put3_19 : decode cX12_put3 19 = .ok (.iastore, 1) := by decide +kernel
theorem dX12_put3_20 : decode cX12_put3 20 = .ok (.aload_n 0, 1) := by decide +kernel
theorem dX12_put3_21 : decode cX12_put3 21 = .ok (.getfield 22, 3) := by decide +kernel
theorem dX12_put3_24 : decode cX12_put3 24 = .ok (.iconst 3, 1) := by decide +kernel
theorem dX12_put3_25 : decode cX12_put3 25 = .ok (.iload_n 1, 1) := by decide +kernel
theorem dX12_put3_26 : decode cX12_put3 26 = .ok (.imul, 1) := by decide +kernel
theorem dX12_put3_27 : decode cX12_put3 27 = .ok (.iconst 2, 1) := by decide +kernel
theorem dX12_put3_28 : decode cX12_put3 28 = .ok (.iadd, 1) := by decide +kernel
theorem dX12_put3_29 : decode cX12_put3 29 = .ok (.iload 4, 2) := by decide +kernel
theorem dX12_put3_31 : decode cX12_put3 31 = .ok (.iastore, 1) := by decide +kernel
theorem dX12_put3_32 : decode cX12_put3 32 = .ok (.return_, 1) := by decide +kernel
theorem dX12_findComes_0 : decode cX12_findComes 0 = .ok (.iload_n 1, 1) := by decide +kernel
theorem dX12_findComes_1 : decode cX12_findComes 1 = .ok (.invokestatic 181, 3) := by decide +kernel
theorem dX12_findComes_4 : decode cX12_findComes 4 = .ok (.istore_n 2, 1) := by decide +kernel
theorem dX12_findComes_5 : decode cX12_findComes 5 = .ok (.iload_n 1, 1) := by decide +kernel
theorem dX12_findComes_6 : decode cX12_findComes 6 = .ok (.invokestatic 184, 3) := by decide +kernel
theorem dX12_findComes_9 : decode cX12_findComes 9 = .ok (.istore_n 3, 1) := by decide +kernel
theorem dX12_findComes_10 : decode cX12_findComes 10 = .ok (.aload_n 0, 1) := by decide +kernel
theorem dX12_findComes_11 : decode cX12_findComes 11 = .ok (.getfield 7, 3) := by decide +kernel
theorem dX12_findComes_14 : decode cX12_findComes 14 = .ok (.bipush 9, 2) := by decide +kernel
theorem dX12_findComes_16 : decode cX12_findComes 16 = .ok (.iload_n 1, 1) := by decide +kernel
theorem dX12_findComes_17 : decode cX12_findComes 17 = .ok (.iadd, 1) := by decide +kernel
theorem dX12_findComes_18 : decode cX12_findComes 18 = .ok (.iaload, 1) := by decide +kernel
theorem dX12_findComes_19 : decode cX12_findComes 19 = .ok (.istore 4, 2) := by decide +kernel
theorem dX12_findComes_21 : decode cX12_findComes 21 = .ok (.iconst 0, 1) := by decide +kernel
theorem dX12_findComes_22 : decode cX12_findComes 22 = .ok (.istore 5, 2) := by decide +kernel
theorem dX12_findComes_24 : decode cX12_findComes 24 = .ok (.aload_n 0, 1) := by decide +kernel
theorem dX12_findComes_25 : decode cX12_findComes 25 = .ok (.getfield 7, 3) := by decide +kernel
theorem dX12_findComes_28 : decode cX12_findComes 28 = .ok (.iconst 3, 1) := by decide +kernel
theorem dX12_findComes_29 : decode cX12_findComes 29 = .ok (.iload_n 1, 1) := by decide +kernel
theorem dX12_findComes_30 : decode cX12_findComes 30 = .ok (.iadd, 1) := by decide +kernel
theorem dX12_findComes_31 : decode cX12_findComes 31 = .ok (.iaload, 1) := by decide +kernel
theorem dX12_findComes_32 : decode cX12_findComes 32 = .ok (.tableswitch 169 1 6 #[40, 77, 88, 102, 113, 131], 40) := by decide +kernel
theorem dX12_findComes_72 : decode cX12_findComes 72 = .ok (.aload_n 0, 1) := by decide +kernel
theorem dX12_findComes_73 : decode cX12_findComes 73 = .ok (.iload_n 1, 1) := by decide +kernel
theorem dX12_findComes_74 : decode cX12_findComes 74 = .ok (.iload_n 2, 1) := by decide +kernel
theorem dX12_findComes_75 : decode cX12_findComes 75 = .ok (.iload_n 3, 1) := by decide +kernel
theorem dX12_findComes_76 : decode cX12_findComes 76 = .ok (.if_icmp .ne 7, 3) := by decide +kernel
theorem dX12_findComes_79 : decode cX12_findComes 79 = .ok (.iload_n 2, 1) := by decide +kernel
theorem dX12_findComes_80 : decode cX12_findComes 80 = .ok (.goto 8, 3) := by decide +kernel
theorem dX12_findComes_83 : decode cX12_findComes 83 = .ok (.iconst 3, 1) := by decide +kernel
theorem dX12_findComes_84 : decode cX12_findComes 84 = .ok (.iload_n 2, 1) := by decide +kernel
theorem dX12_findComes_85 : decode cX12_findComes 85 = .ok (.isub, 1) := by decide +kernel
theorem dX12_findComes_86 : decode cX12_findComes 86 = .ok (.iload_n 3, 1) := by decide +kernel
theorem dX12_findComes_87 : decode cX12_findComes 87 = .ok (.isub, 1) := by decide +kernel
theorem dX12_findComes_88 : decode cX12_findComes 88 = .ok (.iload_n 2, 1) := by decide +kernel
theorem dX12_findComes_89 : decode cX12_findComes 89 = .ok (.iload_n 3, 1) := by decide +kernel
theorem dX12_findComes_90 : decode cX12_findComes 90 = .ok (.if_icmp .ne 7, 3) := by decide +kernel
theorem dX12_findComes_93 : decode cX12_findComes 93 = .ok (.iload_n 3, 1) := by decide +kernel
theorem dX12_findComes_94 : decode cX12_findComes 94 = .ok (.goto 8, 3) := by decide +kernel
theorem dX12_findComes_97 : decode cX12_findComes 97 = .ok (.iconst 3, 1) := by decide +kernel
theorem dX12_findComes_98 : decode cX12_findComes 98 = .ok (.iload_n 2, 1) := by decide +kernel
theorem dX12_findComes_99 : decode cX12_findComes 99 = .ok (.isub, 1) := by decide +kernel
theorem dX12_findComes_100 : decode cX12_findComes 100 = .ok (.iload_n 3, 1) := by decide +kernel
theorem dX12_findComes_101 : decode cX12_findComes 101 = .ok (.isub, 1) := by decide +kernel
theorem dX12_findComes_102 : decode cX12_findComes 102 = .ok (.iconst (-1), 1) := by decide +kernel
theorem dX12_findComes_103 : decode cX12_findComes 103 = .ok (.invokevirtual 187, 3) := by decide +kernel
theorem dX12_findComes_106 : decode cX12_findComes 106 = .ok (.goto 103, 3) := by decide +kernel
theorem dX12_findComes_109 : decode cX12_findComes 109 = .ok (.aload_n 0, 1) := by decide +kernel
theorem dX12_findComes_110 : decode cX12_findComes 110 = .ok (.iload_n 1, 1) := by decide +kernel
theorem dX12_findComes_111 : decode cX12_findComes 111 = .ok (.iload_n 3, 1) := by decide +kernel
theorem dX12_findComes_112 : decode cX12_findComes 112 = .ok (.iconst (-1), 1) := by decide +kernel
theorem dX12_findComes_113 : decode cX12_findComes 113 = .ok (.iconst (-1), 1) := by decide +kernel
theorem dX12_findComes_114 : decode cX12_findComes 114 = .ok (.invokevirtual 187, 3) := by decide +kernel
theorem dX12_findComes_117 : decode cX12_findComes 117 = .ok (.goto 92, 3) := by decide +kernel
theorem dX12_findComes_120 : decode cX12_findComes 120 = .ok (.aload_n 0, 1) := by decide +kernel
theorem dX12_findComes_121 : decode cX12_findComes 121 = .ok (.iload_n 1, 1) := by decide +kernel
theorem dX12_findComes_122 : decode cX12_findComes 122 = .ok (.iload_n 2, 1) := by decide +kernel
theorem dX12_findComes_123 : decode cX12_findComes 123 = .ok (.iload_n 3, 1) := by decide +kernel
theorem dX12_findComes_124 : decode cX12_findComes 124 = .ok (.iload 4, 2) := by decide +kernel
theorem dX12_findComes_126 : decode cX12_findComes 126 = .ok (.iconst 3, 1) := by decide +kernel
theorem dX12_findComes_127 : decode cX12_findComes 127 = .ok (.irem, 1) := by decide +kernel
theorem dX12_findComes_128 : decode cX12_findComes 128 = .ok (.invokevirtual 187, 3) := by decide +kernel
theorem dX12_findComes_131 : decode cX12_findComes 131 = .ok (.goto 78, 3) := by decide +kernel
theorem dX12_findComes_134 : decode cX12_findComes 134 = .ok (.aload_n 0, 1) := by decide +kernel
theorem dX12_findComes_135 : decode cX12_findComes 135 = .ok (.iload_n 1, 1) := by decide +kernel
theorem dX12_findComes_136 : decode cX12_findComes 136 = .ok (.iload_n 3, 1) := by decide +kernel
theorem dX12_findComes_137 : decode cX12_findComes 137 = .ok (.iload_n 3, 1) := by decide +kernel
theorem dX12_findComes_138 : decode cX12_findComes 138 = .ok (.iconst (-1), 1) := by decide +kernel
theorem dX12_findComes_139 : decode cX12_findComes 139 = .ok (.invokevirtual 187, 3) := by decide +kernel
theorem dX12_findComes_142 : decode cX12_findComes 142 = .ok (.goto 67, 3) := by decide +kernel
theorem dX12_findComes_145 : decode cX12_findComes 145 = .ok (.aload_n 0, 1) := by decide +kernel
theorem dX12_findComes_146 : decode cX12_findComes 146 = .ok (.iload_n 1, 1) := by decide +kernel
theorem dX12_findComes_147 : decode cX12_findComes 147 = .ok (.iload_n 2, 1) := by decide +kernel
theorem dX12_findComes_148 : decode cX12_findComes 148 = .ok (.iload_n 3, 1) := by decide +kernel
theorem dX12_findComes_149 : decode cX12_findComes 149 = .ok (.iadd, 1) := by decide +kernel
theorem dX12_findComes_150 : decode cX12_findComes 150 = .ok (.iload 4, 2) := by decide +kernel
theorem dX12_findComes_152 : decode cX12_findComes 152 = .ok (.iadd, 1) := by decide +kernel
theorem dX12_findComes_153 : decode cX12_findComes 153 = .ok (.iconst 3, 1) := by decide +kernel
theorem dX12_findComes_154 : decode cX12_findComes 154 = .ok (.irem, 1) := by decide +kernel
theorem dX12_findComes_155 : decode cX12_findComes 155 = .ok (.iconst (-1), 1) := by decide +kernel
theorem dX12_findComes_156 : decode cX12_findComes 156 = .ok (.iconst (-1), 1) := by decide +kernel
theorem dX12_findComes_157 : decode cX12_findComes 157 = .ok (.invokevirtual 187, 3) := by decide +kernel
theorem dX12_findComes_160 : decode cX12_findComes 160 = .ok (.goto 49, 3) := by decide +kernel
theorem dX12_findComes_163 : decode cX12_findComes 163 = .ok (.aload_n 0, 1) := by decide +kernel
theorem dX12_findComes_164 : decode cX12_findComes 164 = .ok (.iconst 0, 1) := by decide +kernel
theorem dX12_findComes_165 : decode cX12_findComes 165 = .ok (.iload_n 2, 1) := by decide +kernel
theorem dX12_findComes_166 : decode cX12_findComes 166 = .ok (.iload_n 3, 1) := by decide +kernel
theorem dX12_findComes_167 : decode cX12_findComes 167 = .ok (.iload 4, 2) := by decide +kernel
theorem dX12_findComes_169 : decode cX12_findComes 169 = .ok (.iconst 0, 1) := by decide +kernel
theorem dX12_findComes_170 : decode cX12_findComes 170 = .ok (.invokevirtual 164, 3) := by decide +kernel
theorem dX12_findComes_173 : decode cX12_findComes 173 = .ok (.istore 5, 2) := by decide +kernel
theorem dX12_findComes_175 : decode cX12_findComes 175 = .ok (.aload_n 0, 1) := by decide +kernel
theorem dX12_findComes_176 : decode cX12_findComes 176 = .ok (.iload_n 1, 1) := by decide +kernel
theorem dX12_findComes_177 : decode cX12_findComes 177 = .ok (.iload 5, 2) := by decide +kernel
theorem dX12_findComes_179 : decode cX12_findComes 179 = .ok (.iload 5, 2) := by decide +kernel
theorem dX12_findComes_181 : decode cX12_findComes 181 = .ok (.iload 4, 2) := by decide +kernel
theorem dX12_findComes_183 : decode cX12_findComes 183 = .ok (.iconst 4, 1) := by decide +kernel
theorem dX12_findComes_184 : decode cX12_findComes 184 = .ok (.if_icmp .le 10, 3) := by decide +kernel
theorem dX12_findComes_187 : decode cX12_findComes 187 = .ok (.iload 4, 2) := by decide +kernel
theorem dX12_findComes_189 : decode cX12_findComes 189 = .ok (.iconst 3, 1) := by decide +kernel
theorem dX12_findComes_190 : decode cX12_findComes 190 = .ok (.irem, 1) := by decide +kernel
theorem dX12_findComes_191 : decode cX12_findComes 191 = .ok (.goto 4, 3) := by decide +kernel
theorem dX12_findComes_194 : decode cX12_findComes 194 = .ok (.iconst (-1), 1) := by decide +kernel
theorem dX12_findComes_195 : decode cX12_findComes 195 = .ok (.invokevirtual 187, 3) := by decide +kernel
theorem dX12_findComes_198 : decode cX12_findComes 198 = .ok (.goto 11, 3) := by decide +kernel
theorem dX12_findComes_201 : decode cX12_findComes 201 = .ok (.aload_n 0, 1) := by decide +kernel
theorem dX12_findComes_202 : decode cX12_findComes 202 = .ok (.iload_n 1, 1) := by decide +kernel
theorem dX12_findComes_203 : decode cX12_findComes 203 = .ok (.iload_n 2, 1) := by decide +kernel
theorem dX12_findComes_204 : decode cX12_findComes 204 = .ok (.iload_n 3, 1) := by decide +kernel
theorem dX12_findComes_205 : decode cX12_findComes 205 = .ok (.iconst (-1), 1) := by decide +kernel
theorem dX12_findComes_206 : decode cX12_findComes 206 = .ok (.invokevirtual 187, 3) := by decide +kernel
theorem dX12_findComes_209 : decode cX12_findComes 209 = .ok (.return_, 1) := by decide +kernel
theorem dX12_findAll_0 : decode cX12_findAll 0 = .ok (.iconst 0, 1) := by decide +kernel
theorem dX12_findAll_1 : decode cX12_findAll 1 = .ok (.istore_n 1, 1) := by decide +kernel
theorem dX12_findAll_2 : decode cX12_findAll 2 = .ok (.iload_n 1, 1) := by decide +kernel
theorem dX12_findAll_3 : decode cX12_findAll 3 = .ok (.bipush 6, 2) := by decide +kernel
theorem dX12_findAll_5 : decode cX12_findAll 5 = .ok (.if_icmp .ge 14, 3) := by decide +kernel
theorem dX12_findAll_8 : decode cX12_findAll 8 = .ok (.aload_n 0, 1) := by decide +kernel
theorem dX12_findAll_9 : decode cX12_findAll 9 = .ok (.iload_n 1, 1) := by decide +kernel
theorem dX12_findAll_10 : decode cX12_findAll 10 = .ok (.invokevirtual 191, 3) := by decide +kernel
theorem dX12_findAll_13 : decode cX12_findAll 13 = .ok (.iinc 1 1, 3) := by decide +kernel
theorem dX12_findAll_16 : decode cX12_findAll 16 = .ok (.goto (-14), 3) := by decide +kernel
theorem dX12_findAll_19 : decode cX12_findAll 19 = .ok (.return_, 1) := by decide +kernel
theorem dX12_manyOf_0 : decode cX12_manyOf 0 = .ok (.iconst 1, 1) := by decide +kernel
theorem dX12_manyOf_1 : decode cX12_manyOf 1 = .ok (.aload_n 0, 1) := by decide +kernel
theorem dX12_manyOf_2 : decode cX12_manyOf 2 = .ok (.getfield 22, 3) := by decide +kernel
theorem dX12_manyOf_5 : decode cX12_manyOf 5 = .ok (.iconst 3, 1) := by decide +kernel
theorem dX12_manyOf_6 : decode cX12_manyOf 6 = .ok (.iload_n 1, 1) := by decide +kernel
theorem dX12_manyOf_7 : decode cX12_manyOf 7 = .ok (.imul, 1) := by decide +kernel
theorem dX12_manyOf_8 : decode cX12_manyOf 8 = .ok (.iconst 1, 1) := by decide +kernel
theorem dX12_manyOf_9 : decode cX12_manyOf 9 = .ok (.iadd, 1) := by decide +kernel
theorem dX12_manyOf_10 : decode cX12_manyOf 10 = .ok (.iaload, 1) := by decide +kernel
theorem dX12_manyOf_11 : decode cX12_manyOf 11 = .ok (.ifCond .lt 7, 3) := by decide +kernel
theorem dX12_manyOf_14 : decode cX12_manyOf 14 = .ok (.iconst 1, 1) := by decide +kernel
theorem dX12_manyOf_15 : decode cX12_manyOf 15 = .ok (.goto 4, 3) := by decide +kernel
theorem dX12_manyOf_18 : decode cX12_manyOf 18 = .ok (.iconst 0, 1) := by decide +kernel
theorem dX12_manyOf_19 : decode cX12_manyOf 19 = .ok (.iadd, 1) := by decide +kernel
theorem dX12_manyOf_20 : decode cX12_manyOf 20 = .ok (.aload_n 0, 1) := by decide +kernel
theorem dX12_manyOf_21 : decode cX12_manyOf 21 = .ok (.getfield 22, 3) := by decide +kernel
theorem dX12_manyOf_24 : decode cX12_manyOf 24 = .ok (.iconst 3, 1) := by decide +kernel
theorem dX12_manyOf_25 : decode cX12_manyOf 25 = .ok (.iload_n 1, 1) := by decide +kernel
theorem dX12_manyOf_26 : decode cX12_manyOf 26 = .ok (.imul, 1) := by decide +kernel
theorem dX12_manyOf_27 : decode cX12_manyOf 27 = .ok (.iconst 2, 1) := by decide +kernel
theorem dX12_manyOf_28 : decode cX12_manyOf 28 = .ok (.iadd, 1) := by decide +kernel
theorem dX12_manyOf_29 : decode cX12_manyOf 29 = .ok (.iaload, 1) := by decide +kernel
theorem dX12_manyOf_30 : decode cX12_manyOf 30 = .ok (.ifCond .lt 7, 3) := by decide +kernel
theorem dX12_manyOf_33 : decode cX12_manyOf 33 = .ok (.iconst 1, 1) := by decide +kernel
theorem dX12_manyOf_34 : decode cX12_manyOf 34 = .ok (.goto 4, 3) := by decide +kernel
theorem dX12_manyOf_37 : decode cX12_manyOf 37 = .ok (.iconst 0, 1) := by decide +kernel
theorem dX12_manyOf_38 : decode cX12_manyOf 38 = .ok (.iadd, 1) := by decide +kernel
theorem dX12_manyOf_39 : decode cX12_manyOf 39 = .ok (.ireturn, 1) := by decide +kernel
theorem dX12_one_0 : decode cX12_one 0 = .ok (.iload_n 0, 1) := by decide +kernel
theorem dX12_one_1 : decode cX12_one 1 = .ok (.ifCond .ge 7, 3) := by decide +kernel
theorem dX12_one_4 : decode cX12_one 4 = .ok (.iconst 0, 1) := by decide +kernel
theorem dX12_one_5 : decode cX12_one 5 = .ok (.goto 24, 3) := by decide +kernel
theorem dX12_one_8 : decode cX12_one 8 = .ok (.iload_n 0, 1) := by decide +kernel
theorem dX12_one_9 : decode cX12_one 9 = .ok (.ifCond .ne 9, 3) := by decide +kernel
theorem dX12_one_12 : decode cX12_one 12 = .ok (.sipush 169, 3) := by decide +kernel
theorem dX12_one_15 : decode cX12_one 15 = .ok (.goto 14, 3) := by decide +kernel
theorem dX12_one_18 : decode cX12_one 18 = .ok (.iload_n 0, 1) := by decide +kernel
theorem dX12_one_19 : decode cX12_one 19 = .ok (.iconst 1, 1) := by decide +kernel
theorem dX12_one_20 : decode cX12_one 20 = .ok (.if_icmp .ne 8, 3) := by decide +kernel
theorem dX12_one_23 : decode cX12_one 23 = .ok (.bipush 13, 2) := by decide +kernel
theorem dX12_one_25 : decode cX12_one 25 = .ok (.goto 4, 3) := by decide +kernel
theorem dX12_one_28 : decode cX12_one 28 = .ok (.iconst 1, 1) := by decide +kernel
theorem dX12_one_29 : decode cX12_one 29 = .ok (.ireturn, 1) := by decide +kernel
theorem dX12_mayMeet_0 : decode cX12_mayMeet 0 = .ok (.iload_n 2, 1) := by decide +kernel
theorem dX12_mayMeet_1 : decode cX12_mayMeet 1 = .ok (.invokestatic 181, 3) := by decide +kernel
theorem dX12_mayMeet_4 : decode cX12_mayMeet 4 = .ok (.istore 4, 2) := by decide +kernel
theorem dX12_mayMeet_6 : decode cX12_mayMeet 6 = .ok (.iload_n 2, 1) := by decide +kernel
theorem dX12_mayMeet_7 : decode cX12_mayMeet 7 = .ok (.invokestatic 184, 3) := by decide +kernel
theorem dX12_mayMeet_10 : decode cX12_mayMeet 10 = .ok (.istore 5, 2) := by decide +kernel
theorem dX12_mayMeet_12 : decode cX12_mayMeet 12 = .ok (.iload 4, 2) := by decide +kernel
theorem dX12_mayMeet_14 : decode cX12_mayMeet 14 = .ok (.iload 5, 2) := by decide +kernel
theorem dX12_mayMeet_16 : decode cX12_mayMeet 16 = .ok (.if_icmp .ne 21, 3) := by decide +kernel
theorem dX12_mayMeet_19 : decode cX12_mayMeet 19 = .ok (.iload_n 1, 1) := by decide +kernel
theorem dX12_mayMeet_20 : decode cX12_mayMeet 20 = .ok (.iload 4, 2) := by decide +kernel
theorem dX12_mayMeet_22 : decode cX12_mayMeet 22 = .ok (.invokestatic 90, 3) := by decide +kernel
theorem dX12_mayMeet_25 : decode cX12_mayMeet 25 = .ok (.iconst 2, 1) := by decide +kernel
theorem dX12_mayMeet_26 : decode cX12_mayMeet 26 = .ok (.if_icmp .lt 7, 3) := by decide +kernel
theorem dX12_mayMeet_29 : decode cX12_mayMeet 29 = .ok (.iconst 1, 1) := by decide +kernel
theorem dX12_mayMeet_30 : decode cX12_mayMeet 30 = .ok (.goto 30, 3) := by decide +kernel
theorem dX12_mayMeet_33 : decode cX12_mayMeet 33 = .ok (.iconst 0, 1) := by decide +kernel
theorem dX12_mayMeet_34 : decode cX12_mayMeet 34 = .ok (.goto 26, 3) := by decide +kernel
theorem dX12_mayMeet_37 : decode cX12_mayMeet 37 = .ok (.iload_n 1, 1) := by decide +kernel
theorem dX12_mayMeet_38 : decode cX12_mayMeet 38 = .ok (.iload 4, 2) := by decide +kernel
theorem dX12_mayMeet_40 : decode cX12_mayMeet 40 = .ok (.invokestatic 90, 3) := by decide +kernel
theorem dX12_mayMeet_43 : decode cX12_mayMeet 43 = .ok (.ifCond .le 16, 3) := by decide +kernel
theorem dX12_mayMeet_46 : decode cX12_mayMeet 46 = .ok (.iload_n 1, 1) := by decide +kernel
theorem dX12_mayMeet_47 : decode cX12_mayMeet 47 = .ok (.iload 5, 2) := by decide +kernel
theorem dX12_mayMeet_49 : decode cX12_mayMeet 49 = .ok (.invokestatic 90, 3) := by decide +kernel
theorem dX12_mayMeet_52 : decode cX12_mayMeet 52 = .ok (.ifCond .le 7, 3) := by decide +kernel
theorem dX12_mayMeet_55 : decode cX12_mayMeet 55 = .ok (.iconst 1, 1) := by decide +kernel
theorem dX12_mayMeet_56 : decode cX12_mayMeet 56 = .ok (.goto 4, 3) := by decide +kernel
theorem dX12_mayMeet_59 : decode cX12_mayMeet 59 = .ok (.iconst 0, 1) := by decide +kernel
theorem dX12_mayMeet_60 : decode cX12_mayMeet 60 = .ok (.istore 6, 2) := by decide +kernel
theorem dX12_mayMeet_62 : decode cX12_mayMeet 62 = .ok (.iload 6, 2) := by decide +kernel
theorem dX12_mayMeet_64 : decode cX12_mayMeet 64 = .ok (.ifCond .eq 32, 3) := by decide +kernel
theorem dX12_mayMeet_67 : decode cX12_mayMeet 67 = .ok (.iload_n 3, 1) := by decide +kernel
theorem dX12_mayMeet_68 : decode cX12_mayMeet 68 = .ok (.iload_n 2, 1) := by decide +kernel
theorem dX12_mayMeet_69 : decode cX12_mayMeet 69 = .ok (.ishr, 1) := by decide +kernel
theorem dX12_mayMeet_70 : decode cX12_mayMeet 70 = .ok (.iconst 1, 1) := by decide +kernel
theorem dX12_mayMeet_71 : decode cX12_mayMeet 71 = .ok (.iand, 1) := by decide +kernel
theorem dX12_mayMeet_72 : decode cX12_mayMeet 72 = .ok (.ifCond .ne 24, 3) := by decide +kernel
theorem dX12_mayMeet_75 : decode cX12_mayMeet 75 = .ok (.iload_n 1, 1) := by decide +kernel
theorem dX12_mayMeet_76 : decode cX12_mayMeet 76 = .ok (.invokestatic 86, 3) := by decide +kernel
theorem dX12_mayMeet_79 : decode cX12_mayMeet 79 = .ok (.iconst 2, 1) := by decide +kernel
theorem dX12_mayMeet_80 : decode cX12_mayMeet 80 = .ok (.isub, 1) := by decide +kernel
theorem dX12_mayMeet_81 : decode cX12_mayMeet 81 = .ok (.aload_n 0, 1) := by decide +kernel
theorem dX12_mayMeet_82 : decode cX12_mayMeet 82 = .ok (.iload_n 2, 1) := by decide +kernel
theorem dX12_mayMeet_83 : decode cX12_mayMeet 83 = .ok (.invokevirtual 195, 3) := by decide +kernel
theorem dX12_mayMeet_86 : decode cX12_mayMeet 86 = .ok (.iadd, 1) := by decide +kernel
theorem dX12_mayMeet_87 : decode cX12_mayMeet 87 = .ok (.bipush 12, 2) := by decide +kernel
theorem dX12_mayMeet_89 : decode cX12_mayMeet 89 = .ok (.if_icmp .gt 7, 3) := by decide +kernel
theorem dX12_mayMeet_92 : decode cX12_mayMeet 92 = .ok (.iconst 1, 1) := by decide +kernel
theorem dX12_mayMeet_93 : decode cX12_mayMeet 93 = .ok (.goto 4, 3) := by decide +kernel
theorem dX12_mayMeet_96 : decode cX12_mayMeet 96 = .ok (.iconst 0, 1) := by decide +kernel
theorem dX12_mayMeet_97 : decode cX12_mayMeet 97 = .ok (.ireturn, 1) := by decide +kernel
theorem dX12_after_0 : decode cX12_after 0 = .ok (.iload_n 1, 1) := by decide +kernel
theorem dX12_after_1 : decode cX12_after 1 = .ok (.iload_n 2, 1) := by decide +kernel
theorem dX12_after_2 : decode cX12_after 2 = .ok (.invokestatic 181, 3) := by decide +kernel
theorem dX12_after_5 : decode cX12_after 5 = .ok (.invokestatic 198, 3) := by decide +kernel
theorem dX12_after_8 : decode cX12_after 8 = .ok (.isub, 1) := by decide +kernel
theorem dX12_after_9 : decode cX12_after 9 = .ok (.iload_n 2, 1) := by decide +kernel
theorem dX12_after_10 : decode cX12_after 10 = .ok (.invokestatic 184, 3) := by decide +kernel
theorem dX12_after_13 : decode cX12_after 13 = .ok (.invokestatic 198, 3) := by decide +kernel
theorem dX12_after_16 : decode cX12_after 16 = .ok (.isub, 1) := by decide +kernel
theorem dX12_after_17 : decode cX12_after 17 = .ok (.aload_n 0, 1) := by decide +kernel
theorem dX12_after_18 : decode cX12_after 18 = .ok (.getfield 22, 3) := by decide +kernel
theorem dX12_after_21 : decode cX12_after 21 = .ok (.iconst 3, 1) := by decide +kernel
theorem dX12_after_22 : decode cX12_after 22 = .ok (.iload_n 2, 1) := by decide +kernel
theorem dX12_after_23 : decode cX12_after 23 = .ok (.imul, 1) := by decide +kernel
theorem dX12_after_24 : decode cX12_after 24 = .ok (.iaload, 1) := by decide +kernel
theorem dX12_after_25 : decode cX12_after 25 = .ok (.invokestatic 198, 3) := by decide +kernel
theorem dX12_after_28 : decode cX12_after 28 = .ok (.iadd, 1) := by decide +kernel
theorem dX12_after_29 : decode cX12_after 29 = .ok (.aload_n 0, 1) := by decide +kernel
theorem dX12_after_30 : decode cX12_after 30 = .ok (.getfield 22, 3) := by decide +kernel
theorem dX12_after_33 : decode cX12_after 33 = .ok (.iconst 3, 1) := by decide +kernel
theorem dX12_after_34 : decode cX12_after 34 = .ok (.iload_n 2, 1) := by decide +kernel
theorem dX12_after_35 : decode cX12_after 35 = .ok (.imul, 1) := by decide +kernel
theorem dX12_after_36 : decode cX12_after 36 = .ok (.iconst 1, 1) := by decide +kernel
theorem dX12_after_37 : decode cX12_after 37 = .ok (.iadd, 1) := by decide +kernel
theorem dX12_after_38 : decode cX12_after 38 = .ok (.iaload, 1) := by decide +kernel
theorem dX12_after_39 : decode cX12_after 39 = .ok (.invokestatic 198, 3) := by decide +kernel
theorem dX12_after_42 : decode cX12_after 42 = .ok (.iadd, 1) := by decide +kernel
theorem dX12_after_43 : decode cX12_after 43 = .ok (.aload_n 0, 1) := by decide +kernel
theorem dX12_after_44 : decode cX12_after 44 = .ok (.getfield 22, 3) := by decide +kernel
theorem dX12_after_47 : decode cX12_after 47 = .ok (.iconst 3, 1) := by decide +kernel
theorem dX12_after_48 : decode cX12_after 48 = .ok (.iload_n 2, 1) := by decide +kernel
theorem dX12_after_49 : decode cX12_after 49 = .ok (.imul, 1) := by decide +kernel
theorem dX12_after_50 : decode cX12_after 50 = .ok (.iconst 2, 1) := by decide +kernel
theorem dX12_after_51 : decode cX12_after 51 = .ok (.iadd, 1) := by decide +kernel
theorem dX12_after_52 : decode cX12_after 52 = .ok (.iaload, 1) := by decide +kernel
theorem dX12_after_53 : decode cX12_after 53 = .ok (.invokestatic 198, 3) := by decide +kernel
theorem dX12_after_56 : decode cX12_after 56 = .ok (.iadd, 1) := by decide +kernel
theorem dX12_after_57 : decode cX12_after 57 = .ok (.ireturn, 1) := by decide +kernel
theorem dX12_fencedNow_0 : decode cX12_fencedNow 0 = .ok (.iconst 0, 1) := by decide +kernel
theorem dX12_fencedNow_1 : decode cX12_fencedNow 1 = .ok (.istore_n 1, 1) := by decide +kernel
theorem dX12_fencedNow_2 : decode cX12_fencedNow 2 = .ok (.iconst 0, 1) := by decide +kernel
theorem dX12_fencedNow_3 : decode cX12_fencedNow 3 = .ok (.istore_n 2, 1) := by decide +kernel
theorem dX12_fencedNow_4 : decode cX12_fencedNow 4 = .ok (.iload_n 2, 1) := by decide +kernel
theorem dX12_fencedNow_5 : decode cX12_fencedNow 5 = .ok (.bipush 6, 2) := by decide +kernel
theorem dX12_fencedNow_7 : decode cX12_fencedNow 7 = .ok (.if_icmp .ge 23, 3) := by decide +kernel
theorem dX12_fencedNow_10 : decode cX12_fencedNow 10 = .ok (.iload_n 1, 1) := by decide +kernel
theorem dX12_fencedNow_11 : decode cX12_fencedNow 11 = .ok (.aload_n 0, 1) := by decide +kernel
theorem dX12_fencedNow_12 : decode cX12_fencedNow 12 = .ok (.getfield 7, 3) := by decide +kernel
theorem dX12_fencedNow_15 : decode cX12_fencedNow 15 = .ok (.bipush 15, 2) := by decide +kernel
theorem dX12_fencedNow_17 : decode cX12_fencedNow 17 = .ok (.iload_n 2, 1) := by decide +kernel
theorem dX12_fencedNow_18 : decode cX12_fencedNow 18 = .ok (.iadd, 1) := by decide +kernel
theorem dX12_fencedNow_19 : decode cX12_fencedNow 19 = .ok (.iaload, 1) := by decide +kernel
theorem dX12_fencedNow_20 : decode cX12_fencedNow 20 = .ok (.iload_n 2, 1) := by decide +kernel
theorem dX12_fencedNow_21 : decode cX12_fencedNow 21 = .ok (.ishl, 1) := by decide +kernel
theorem dX12_fencedNow_22 : decode cX12_fencedNow 22 = .ok (.ior, 1) := by decide +kernel
theorem dX12_fencedNow_23 : decode cX12_fencedNow 23 = .ok (.istore_n 1, 1) := by decide +kernel
theorem dX12_fencedNow_24 : decode cX12_fencedNow 24 = .ok (.iinc 2 1, 3) := by decide +kernel
theorem dX12_fencedNow_27 : decode cX12_fencedNow 27 = .ok (.goto (-23), 3) := by decide +kernel
theorem dX12_fencedNow_30 : decode cX12_fencedNow 30 = .ok (.iload_n 1, 1) := by decide +kernel
theorem dX12_fencedNow_31 : decode cX12_fencedNow 31 = .ok (.ireturn, 1) := by decide +kernel
theorem dX12_ofPair_0 : decode cX12_ofPair 0 = .ok (.iload_n 1, 1) := by decide +kernel
theorem dX12_ofPair_1 : decode cX12_ofPair 1 = .ok (.invokestatic 176, 3) := by decide +kernel
theorem dX12_ofPair_4 : decode cX12_ofPair 4 = .ok (.ifCond .eq 15, 3) := by decide +kernel
theorem dX12_ofPair_7 : decode cX12_ofPair 7 = .ok (.iload_n 2, 1) := by decide +kernel
theorem dX12_ofPair_8 : decode cX12_ofPair 8 = .ok (.i2l, 1) := by decide +kernel
theorem dX12_ofPair_9 : decode cX12_ofPair 9 = .ok (.lconst 0, 1) := by decide +kernel
theorem dX12_ofPair_10 : decode cX12_ofPair 10 = .ok (.ldc2_w 201, 3) := by decide +kernel
theorem dX12_ofPair_13 : decode cX12_ofPair 13 = .ok (.invokestatic 78, 3) := by decide +kernel
theorem dX12_ofPair_16 : decode cX12_ofPair 16 = .ok (.ifCond .ne 9, 3) := by decide +kernel
theorem dX12_ofPair_19 : decode cX12_ofPair 19 = .ok (.aload_n 0, 1) := by decide +kernel
theorem dX12_ofPair_20 : decode cX12_ofPair 20 = .ok (.iconst 1, 1) := by decide +kernel
theorem dX12_ofPair_21 : decode cX12_ofPair 21 = .ok (.invokevirtual 152, 3) := by decide +kernel
theorem dX12_ofPair_24 : decode cX12_ofPair 24 = .ok (.ireturn, 1) := by decide +kernel
theorem dX12_ofPair_25 : decode cX12_ofPair 25 = .ok (.aload_n 0, 1) := by decide +kernel
theorem dX12_ofPair_26 : decode cX12_ofPair 26 = .ok (.invokevirtual 203, 3) := by decide +kernel
theorem dX12_ofPair_29 : decode cX12_ofPair 29 = .ok (.iload_n 2, 1) := by decide +kernel
theorem dX12_ofPair_30 : decode cX12_ofPair 30 = .ok (.tableswitch 91 0 4 #[34, 43, 53, 63, 85], 34) := by decide +kernel
theorem dX12_ofPair_64 : decode cX12_ofPair 64 = .ok (.aload_n 0, 1) := by decide +kernel
theorem dX12_ofPair_65 : decode cX12_ofPair 65 = .ok (.getfield 7, 3) := by decide +kernel
theorem dX12_ofPair_68 : decode cX12_ofPair 68 = .ok (.iconst 3, 1) := by decide +kernel
theorem dX12_ofPair_69 : decode cX12_ofPair 69 = .ok (.iload_n 1, 1) := by decide +kernel
theorem dX12_ofPair_70 : decode cX12_ofPair 70 = .ok (.iadd, 1) := by decide +kernel
theorem dX12_ofPair_71 : decode cX12_ofPair 71 = .ok (.iaload, 1) := by decide +kernel
theorem dX12_ofPair_72 : decode cX12_ofPair 72 = .ok (.ireturn, 1) := by decide +kernel
theorem dX12_ofPair_73 : decode cX12_ofPair 73 = .ok (.aload_n 0, 1) := by decide +kernel
theorem dX12_ofPair_74 : decode cX12_ofPair 74 = .ok (.getfield 7, 3) := by decide +kernel
theorem dX12_ofPair_77 : decode cX12_ofPair 77 = .ok (.bipush 9, 2) := by decide +kernel
theorem dX12_ofPair_79 : decode cX12_ofPair 79 = .ok (.iload_n 1, 1) := by decide +kernel
theorem dX12_ofPair_80 : decode cX12_ofPair 80 = .ok (.iadd, 1) := by decide +kernel
theorem dX12_ofPair_81 : decode cX12_ofPair 81 = .ok (.iaload, 1) := by decide +kernel
theorem dX12_ofPair_82 : decode cX12_ofPair 82 = .ok (.ireturn, 1) := by decide +kernel
theorem dX12_ofPair_83 : decode cX12_ofPair 83 = .ok (.aload_n 0, 1) := by decide +kernel
theorem dX12_ofPair_84 : decode cX12_ofPair 84 = .ok (.getfield 7, 3) := by decide +kernel
theorem dX12_ofPair_87 : decode cX12_ofPair 87 = .ok (.bipush 15, 2) := by decide +kernel
theorem dX12_ofPair_89 : decode cX12_ofPair 89 = .ok (.iload_n 1, 1) := by decide +kernel
theorem dX12_ofPair_90 : decode cX12_ofPair 90 = .ok (.iadd, 1) := by decide +kernel
theorem dX12_ofPair_91 : decode cX12_ofPair 91 = .ok (.iaload, 1) := by decide +kernel
theorem dX12_ofPair_92 : decode cX12_ofPair 92 = .ok (.ireturn, 1) := by decide +kernel
theorem dX12_ofPair_93 : decode cX12_ofPair 93 = .ok (.aload_n 0, 1) := by decide +kernel
theorem dX12_ofPair_94 : decode cX12_ofPair 94 = .ok (.aload_n 0, 1) := by decide +kernel
theorem dX12_ofPair_95 : decode cX12_ofPair 95 = .ok (.invokevirtual 173, 3) := by decide +kernel
theorem dX12_ofPair_98 : decode cX12_ofPair 98 = .ok (.iload_n 1, 1) := by decide +kernel
theorem dX12_ofPair_99 : decode cX12_ofPair 99 = .ok (.aload_n 0, 1) := by decide +kernel
theorem dX12_ofPair_100 : decode cX12_ofPair 100 = .ok (.invokevirtual 206, 3) := by decide +kernel
theorem dX12_ofPair_103 : decode cX12_ofPair 103 = .ok (.invokevirtual 209, 3) := by decide +kernel
theorem dX12_ofPair_106 : decode cX12_ofPair 106 = .ok (.ifCond .eq 7, 3) := by decide +kernel
theorem dX12_ofPair_109 : decode cX12_ofPair 109 = .ok (.iconst 1, 1) := by decide +kernel
theorem dX12_ofPair_110 : decode cX12_ofPair 110 = .ok (.goto 4, 3) := by decide +kernel
theorem dX12_ofPair_113 : decode cX12_ofPair 113 = .ok (.iconst 0, 1) := by decide +kernel
theorem dX12_ofPair_114 : decode cX12_ofPair 114 = .ok (.ireturn, 1) := by decide +kernel
theorem dX12_ofPair_115 : decode cX12_ofPair 115 = .ok (.aload_n 0, 1) := by decide +kernel
theorem dX12_ofPair_116 : decode cX12_ofPair 116 = .ok (.iload_n 1, 1) := by decide +kernel
theorem dX12_ofPair_117 : decode cX12_ofPair 117 = .ok (.invokevirtual 195, 3) := by decide +kernel
theorem dX12_ofPair_120 : decode cX12_ofPair 120 = .ok (.ireturn, 1) := by decide +kernel
theorem dX12_ofPair_121 : decode cX12_ofPair 121 = .ok (.aload_n 0, 1) := by decide +kernel
theorem dX12_ofPair_122 : decode cX12_ofPair 122 = .ok (.getfield 22, 3) := by decide +kernel
theorem dX12_ofPair_125 : decode cX12_ofPair 125 = .ok (.iconst 3, 1) := by decide +kernel
theorem dX12_ofPair_126 : decode cX12_ofPair 126 = .ok (.iload_n 1, 1) := by decide +kernel
theorem dX12_ofPair_127 : decode cX12_ofPair 127 = .ok (.imul, 1) := by decide +kernel
theorem dX12_ofPair_128 : decode cX12_ofPair 128 = .ok (.iload_n 2, 1) := by decide +kernel
theorem dX12_ofPair_129 : decode cX12_ofPair 129 = .ok (.iadd, 1) := by decide +kernel
theorem dX12_ofPair_130 : decode cX12_ofPair 130 = .ok (.iconst 5, 1) := by decide +kernel
theorem dX12_ofPair_131 : decode cX12_ofPair 131 = .ok (.isub, 1) := by decide +kernel
theorem dX12_ofPair_132 : decode cX12_ofPair 132 = .ok (.iaload, 1) := by decide +kernel
theorem dX12_ofPair_133 : decode cX12_ofPair 133 = .ok (.ireturn, 1) := by decide +kernel
theorem dX12_above_0 : decode cX12_above 0 = .ok (.iload_n 0, 1) := by decide +kernel
theorem dX12_above_1 : decode cX12_above 1 = .ok (.iconst 4, 1) := by decide +kernel
theorem dX12_above_2 : decode cX12_above 2 = .ok (.if_icmp .ne 7, 3) := by decide +kernel
theorem dX12_above_5 : decode cX12_above 5 = .ok (.iconst 1, 1) := by decide +kernel
theorem dX12_above_6 : decode cX12_above 6 = .ok (.goto 23, 3) := by decide +kernel
theorem dX12_above_9 : decode cX12_above 9 = .ok (.iload_n 0, 1) := by decide +kernel
theorem dX12_above_10 : decode cX12_above 10 = .ok (.iconst 5, 1) := by decide +kernel
theorem dX12_above_11 : decode cX12_above 11 = .ok (.if_icmp .ne 7, 3) := by decide +kernel
theorem dX12_above_14 : decode cX12_above 14 = .ok (.iconst 2, 1) := by decide +kernel
theorem dX12_above_15 : decode cX12_above 15 = .ok (.goto 14, 3) := by decide +kernel
theorem dX12_above_18 : decode cX12_above 18 = .ok (.iload_n 0, 1) := by decide +kernel
theorem dX12_above_19 : decode cX12_above 19 = .ok (.bipush 6, 2) := by decide +kernel
theorem dX12_above_21 : decode cX12_above 21 = .ok (.if_icmp .ne 7, 3) := by decide +kernel
theorem dX12_above_24 : decode cX12_above 24 = .ok (.iconst 3, 1) := by decide +kernel
theorem dX12_above_25 : decode cX12_above 25 = .ok (.goto 4, 3) := by decide +kernel
theorem dX12_above_28 : decode cX12_above 28 = .ok (.iconst 0, 1) := by decide +kernel
theorem dX12_above_29 : decode cX12_above 29 = .ok (.ireturn, 1) := by decide +kernel
theorem dX12_as_0 : decode cX12_as 0 = .ok (.iload_n 1, 1) := by decide +kernel
theorem dX12_as_1 : decode cX12_as 1 = .ok (.invokestatic 176, 3) := by decide +kernel
theorem dX12_as_4 : decode cX12_as 4 = .ok (.ifCond .eq 15, 3) := by decide +kernel
theorem dX12_as_7 : decode cX12_as 7 = .ok (.iload_n 2, 1) := by decide +kernel
theorem dX12_as_8 : decode cX12_as 8 = .ok (.i2l, 1) := by decide +kernel
theorem dX12_as_9 : decode cX12_as 9 = .ok (.lconst 0, 1) := by decide +kernel
theorem dX12_as_10 : decode cX12_as 10 = .ok (.ldc2_w 213, 3) := by decide +kernel
theorem dX12_as_13 : decode cX12_as 13 = .ok (.invokestatic 78, 3) := by decide +kernel
theorem dX12_as_16 : decode cX12_as 16 = .ok (.ifCond .ne 9, 3) := by decide +kernel
theorem dX12_as_19 : decode cX12_as 19 = .ok (.aload_n 0, 1) := by decide +kernel
theorem dX12_as_20 : decode cX12_as 20 = .ok (.iconst 1, 1) := by decide +kernel
theorem dX12_as_21 : decode cX12_as 21 = .ok (.invokevirtual 152, 3) := by decide +kernel
theorem dX12_as_24 : decode cX12_as 24 = .ok (.ireturn, 1) := by decide +kernel
theorem dX12_as_25 : decode cX12_as 25 = .ok (.aload_n 0, 1) := by decide +kernel
theorem dX12_as_26 : decode cX12_as 26 = .ok (.getfield 7, 3) := by decide +kernel
theorem dX12_as_29 : decode cX12_as 29 = .ok (.iconst 3, 1) := by decide +kernel
theorem dX12_as_30 : decode cX12_as 30 = .ok (.iload_n 1, 1) := by decide +kernel
theorem dX12_as_31 : decode cX12_as 31 = .ok (.iadd, 1) := by decide +kernel
theorem dX12_as_32 : decode cX12_as 32 = .ok (.iaload, 1) := by decide +kernel
theorem dX12_as_33 : decode cX12_as 33 = .ok (.istore_n 3, 1) := by decide +kernel
theorem dX12_as_34 : decode cX12_as 34 = .ok (.iload_n 2, 1) := by decide +kernel
theorem dX12_as_35 : decode cX12_as 35 = .ok (.ifCond .eq 16, 3) := by decide +kernel
theorem dX12_as_38 : decode cX12_as 38 = .ok (.iload_n 2, 1) := by decide +kernel
theorem dX12_as_39 : decode cX12_as 39 = .ok (.iload_n 3, 1) := by decide +kernel
theorem dX12_as_40 : decode cX12_as 40 = .ok (.if_icmp .eq 11, 3) := by decide +kernel
theorem dX12_as_43 : decode cX12_as 43 = .ok (.iload_n 2, 1) := by decide +kernel
theorem dX12_as_44 : decode cX12_as 44 = .ok (.iload_n 3, 1) := by decide +kernel
theorem dX12_as_45 : decode cX12_as 45 = .ok (.invokestatic 215, 3) := by decide +kernel
theorem dX12_as_48 : decode cX12_as 48 = .ok (.if_icmp .ne 15, 3) := by decide +kernel
theorem dX12_as_51 : decode cX12_as 51 = .ok (.aload_n 0, 1) := by decide +kernel
theorem dX12_as_52 : decode cX12_as 52 = .ok (.getfield 7, 3) := by decide +kernel
theorem dX12_as_55 : decode cX12_as 55 = .ok (.bipush 9, 2) := by decide +kernel
theorem dX12_as_57 : decode cX12_as 57 = .ok (.iload_n 1, 1) := by decide +kernel
theorem dX12_as_58 : decode cX12_as 58 = .ok (.iadd, 1) := by decide +kernel
theorem dX12_as_59 : decode cX12_as 59 = .ok (.iaload, 1) := by decide +kernel
theorem dX12_as_60 : decode cX12_as 60 = .ok (.goto 8, 3) := by decide +kernel
theorem dX12_as_63 : decode cX12_as 63 = .ok (.aload_n 0, 1) := by decide +kernel
theorem dX12_as_64 : decode cX12_as 64 = .ok (.iconst 5, 1) := by decide +kernel
theorem dX12_as_65 : decode cX12_as 65 = .ok (.invokevirtual 152, 3) := by decide +kernel
theorem dX12_as_68 : decode cX12_as 68 = .ok (.ireturn, 1) := by decide +kernel
theorem dX12_meets_0 : decode cX12_meets 0 = .ok (.aload_n 0, 1) := by decide +kernel
theorem dX12_meets_1 : decode cX12_meets 1 = .ok (.iconst 1, 1) := by decide +kernel
theorem dX12_meets_2 : decode cX12_meets 2 = .ok (.iload_n 1, 1) := by decide +kernel
theorem dX12_meets_3 : decode cX12_meets 3 = .ok (.invokestatic 181, 3) := by decide +kernel
theorem dX12_meets_6 : decode cX12_meets 6 = .ok (.iload_n 1, 1) := by decide +kernel
theorem dX12_meets_7 : decode cX12_meets 7 = .ok (.invokestatic 184, 3) := by decide +kernel
theorem dX12_meets_10 : decode cX12_meets 10 = .ok (.aload_n 0, 1) := by decide +kernel
theorem dX12_meets_11 : decode cX12_meets 11 = .ok (.getfield 7, 3) := by decide +kernel
theorem dX12_meets_14 : decode cX12_meets 14 = .ok (.iconst 3, 1) := by decide +kernel
theorem dX12_meets_15 : decode cX12_meets 15 = .ok (.iload_n 1, 1) := by decide +kernel
theorem dX12_meets_16 : decode cX12_meets 16 = .ok (.iadd, 1) := by decide +kernel
theorem dX12_meets_17 : decode cX12_meets 17 = .ok (.iaload, 1) := by decide +kernel
theorem dX12_meets_18 : decode cX12_meets 18 = .ok (.aload_n 0, 1) := by decide +kernel
theorem dX12_meets_19 : decode cX12_meets 19 = .ok (.getfield 7, 3) := by decide +kernel
theorem dX12_meets_22 : decode cX12_meets 22 = .ok (.bipush 21, 2) := by decide +kernel
theorem dX12_meets_24 : decode cX12_meets 24 = .ok (.iaload, 1) := by decide +kernel
theorem dX12_meets_25 : decode cX12_meets 25 = .ok (.invokevirtual 164, 3) := by decide +kernel
theorem dX12_meets_28 : decode cX12_meets 28 = .ok (.istore_n 2, 1) := by decide +kernel
theorem dX12_meets_29 : decode cX12_meets 29 = .ok (.aload_n 0, 1) := by decide +kernel
theorem dX12_meets_30 : decode cX12_meets 30 = .ok (.getfield 7, 3) := by decide +kernel
theorem dX12_meets_33 : decode cX12_meets 33 = .ok (.bipush 22, 2) := by decide +kernel
theorem dX12_meets_35 : decode cX12_meets 35 = .ok (.aload_n 0, 1) := by decide +kernel
theorem dX12_meets_36 : decode cX12_meets 36 = .ok (.getfield 7, 3) := by decide +kernel
theorem dX12_meets_39 : decode cX12_meets 39 = .ok (.bipush 22, 2) := by decide +kernel
theorem dX12_meets_41 : decode cX12_meets 41 = .ok (.iaload, 1) := by decide +kernel
theorem dX12_meets_42 : decode cX12_meets 42 = .ok (.iload_n 2, 1) := by decide +kernel
theorem dX12_meets_43 : decode cX12_meets 43 = .ok (.iadd, 1) := by decide +kernel
theorem dX12_meets_44 : decode cX12_meets 44 = .ok (.ldc 218, 2) := by decide +kernel
theorem dX12_meets_46 : decode cX12_meets 46 = .ok (.ldc 219, 2) := by decide +kernel
theorem dX12_meets_48 : decode cX12_meets 48 = .ok (.invokestatic 161, 3) := by decide +kernel
theorem dX12_meets_51 : decode cX12_meets 51 = .ok (.iastore, 1) := by decide +kernel
theorem dX12_meets_52 : decode cX12_meets 52 = .ok (.aload_n 0, 1) := by decide +kernel
theorem dX12_meets_53 : decode cX12_meets 53 = .ok (.getfield 7, 3) := by decide +kernel
theorem dX12_meets_56 : decode cX12_meets 56 = .ok (.bipush 21, 2) := by decide +kernel
theorem dX12_meets_58 : decode cX12_meets 58 = .ok (.dup2, 1) := by decide +kernel
theorem dX12_meets_59 : decode cX12_meets 59 = .ok (.iaload, 1) := by decide +kernel
theorem dX12_meets_60 : decode cX12_meets 60 = .ok (.iconst 1, 1) := by decide +kernel
theorem dX12_meets_61 : decode cX12_meets 61 = .ok (.iadd, 1) := by decide +kernel
theorem dX12_meets_62 : decode cX12_meets 62 = .ok (.iastore, 1) := by decide +kernel
theorem dX12_meets_63 : decode cX12_meets 63 = .ok (.aload_n 0, 1) := by decide +kernel
theorem dX12_meets_64 : decode cX12_meets 64 = .ok (.aload_n 0, 1) := by decide +kernel
theorem dX12_meets_65 : decode cX12_meets 65 = .ok (.aload_n 0, 1) := by decide +kernel
theorem dX12_meets_66 : decode cX12_meets 66 = .ok (.invokevirtual 173, 3) := by decide +kernel
theorem dX12_meets_69 : decode cX12_meets 69 = .ok (.iload_n 1, 1) := by decide +kernel
theorem dX12_meets_70 : decode cX12_meets 70 = .ok (.invokevirtual 220, 3) := by decide +kernel
theorem dX12_meets_73 : decode cX12_meets 73 = .ok (.invokevirtual 223, 3) := by decide +kernel
theorem dX12_meets_76 : decode cX12_meets 76 = .ok (.return_, 1) := by decide +kernel
theorem dX12_meet_0 : decode cX12_meet 0 = .ok (.iload_n 1, 1) := by decide +kernel
theorem dX12_meet_1 : decode cX12_meet 1 = .ok (.invokestatic 176, 3) := by decide +kernel
theorem dX12_meet_4 : decode cX12_meet 4 = .ok (.ifCond .ne 9, 3) := by decide +kernel
theorem dX12_meet_7 : decode cX12_meet 7 = .ok (.aload_n 0, 1) := by decide +kernel
theorem dX12_meet_8 : decode cX12_meet 8 = .ok (.iconst 1, 1) := by decide +kernel
theorem dX12_meet_9 : decode cX12_meet 9 = .ok (.invokevirtual 152, 3) := by decide +kernel
theorem dX12_meet_12 : decode cX12_meet 12 = .ok (.ireturn, 1) := by decide +kernel
theorem dX12_meet_13 : decode cX12_meet 13 = .ok (.aload_n 0, 1) := by decide +kernel
theorem dX12_meet_14 : decode cX12_meet 14 = .ok (.invokevirtual 203, 3) := by decide +kernel
theorem dX12_meet_17 : decode cX12_meet 17 = .ok (.aload_n 0, 1) := by decide +kernel
theorem dX12_meet_18 : decode cX12_meet 18 = .ok (.aload_n 0, 1) := by decide +kernel
theorem dX12_meet_19 : decode cX12_meet 19 = .ok (.invokevirtual 173, 3) := by decide +kernel
theorem dX12_meet_22 : decode cX12_meet 22 = .ok (.iload_n 1, 1) := by decide +kernel
theorem dX12_meet_23 : decode cX12_meet 23 = .ok (.aload_n 0, 1) := by decide +kernel
theorem dX12_meet_24 : decode cX12_meet 24 = .ok (.invokevirtual 206, 3) := by decide +kernel
theorem dX12_meet_27 : decode cX12_meet 27 = .ok (.invokevirtual 209, 3) := by decide +kernel
theorem dX12_meet_30 : decode cX12_meet 30 = .ok (.ifCond .eq 16, 3) := by decide +kernel
theorem dX12_meet_33 : decode cX12_meet 33 = .ok (.aload_n 0, 1) := by decide +kernel
theorem dX12_meet_34 : decode cX12_meet 34 = .ok (.getfield 7, 3) := by decide +kernel
theorem dX12_meet_37 : decode cX12_meet 37 = .ok (.bipush 21, 2) := by decide +kernel
theorem dX12_meet_39 : decode cX12_meet 39 = .ok (.iaload, 1) := by decide +kernel
theorem dX12_meet_40 : decode cX12_meet 40 = .ok (.sipush 9999, 3) := by decide +kernel
theorem dX12_meet_43 : decode cX12_meet 43 = .ok (.if_icmp .ne 9, 3) := by decide +kernel
theorem dX12_meet_46 : decode cX12_meet 46 = .ok (.aload_n 0, 1) := by decide +kernel
theorem dX12_meet_47 : decode cX12_meet 47 = .ok (.iconst 3, 1) := by decide +kernel
theorem dX12_meet_48 : decode cX12_meet 48 = .ok (.invokevirtual 152, 3) := by decide +kernel
theorem dX12_meet_51 : decode cX12_meet 51 = .ok (.ireturn, 1) := by decide +kernel
theorem dX12_meet_52 : decode cX12_meet 52 = .ok (.aload_n 0, 1) := by decide +kernel
theorem dX12_meet_53 : decode cX12_meet 53 = .ok (.iload_n 1, 1) := by decide +kernel
theorem dX12_meet_54 : decode cX12_meet 54 = .ok (.invokevirtual 226, 3) := by decide +kernel
theorem dX12_meet_57 : decode cX12_meet 57 = .ok (.aload_n 0, 1) := by decide +kernel
theorem dX12_meet_58 : decode cX12_meet 58 = .ok (.invokevirtual 173, 3) := by decide +kernel
theorem dX12_meet_61 : decode cX12_meet 61 = .ok (.ireturn, 1) := by decide +kernel
theorem dX12_drawn_0 : decode cX12_drawn 0 = .ok (.aload_n 0, 1) := by decide +kernel
theorem dX12_drawn_1 : decode cX12_drawn 1 = .ok (.getfield 7, 3) := by decide +kernel
theorem dX12_drawn_4 : decode cX12_drawn 4 = .ok (.bipush 23, 2) := by decide +kernel
theorem dX12_drawn_6 : decode cX12_drawn 6 = .ok (.aload_n 0, 1) := by decide +kernel
theorem dX12_drawn_7 : decode cX12_drawn 7 = .ok (.getfield 7, 3) := by decide +kernel
theorem dX12_drawn_10 : decode cX12_drawn 10 = .ok (.bipush 23, 2) := by decide +kernel
theorem dX12_drawn_12 : decode cX12_drawn 12 = .ok (.iaload, 1) := by decide +kernel
theorem dX12_drawn_13 : decode cX12_drawn 13 = .ok (.ldc 229, 2) := by decide +kernel
theorem dX12_drawn_15 : decode cX12_drawn 15 = .ok (.imul, 1) := by decide +kernel
theorem dX12_drawn_16 : decode cX12_drawn 16 = .ok (.sipush 12345, 3) := by decide +kernel
theorem dX12_drawn_19 : decode cX12_drawn 19 = .ok (.iadd, 1) := by decide +kernel
theorem dX12_drawn_20 : decode cX12_drawn 20 = .ok (.iastore, 1) := by decide +kernel
theorem dX12_drawn_21 : decode cX12_drawn 21 = .ok (.aload_n 0, 1) := by decide +kernel
theorem dX12_drawn_22 : decode cX12_drawn 22 = .ok (.getfield 7, 3) := by decide +kernel
theorem dX12_drawn_25 : decode cX12_drawn 25 = .ok (.bipush 23, 2) := by decide +kernel
theorem dX12_drawn_27 : decode cX12_drawn 27 = .ok (.iaload, 1) := by decide +kernel
theorem dX12_drawn_28 : decode cX12_drawn 28 = .ok (.bipush 8, 2) := by decide +kernel
theorem dX12_drawn_30 : decode cX12_drawn 30 = .ok (.iushr, 1) := by decide +kernel
theorem dX12_drawn_31 : decode cX12_drawn 31 = .ok (.ireturn, 1) := by decide +kernel
theorem dX12_sortOf_0 : decode cX12_sortOf 0 = .ok (.iload_n 1, 1) := by decide +kernel
theorem dX12_sortOf_1 : decode cX12_sortOf 1 = .ok (.istore_n 3, 1) := by decide +kernel
theorem dX12_sortOf_2 : decode cX12_sortOf 2 = .ok (.iconst 0, 1) := by decide +kernel
theorem dX12_sortOf_3 : decode cX12_sortOf 3 = .ok (.istore 4, 2) := by decide +kernel
theorem dX12_sortOf_5 : decode cX12_sortOf 5 = .ok (.iload 4, 2) := by decide +kernel
theorem dX12_sortOf_7 : decode cX12_sortOf 7 = .ok (.iconst 2, 1) := by decide +kernel
theorem dX12_sortOf_8 : decode cX12_sortOf 8 = .ok (.if_icmp .ge 46, 3) := by decide +kernel
theorem dX12_sortOf_11 : decode cX12_sortOf 11 = .ok (.aload_n 0, 1) := by decide +kernel
theorem dX12_sortOf_12 : decode cX12_sortOf 12 = .ok (.getfield 7, 3) := by decide +kernel
theorem dX12_sortOf_15 : decode cX12_sortOf 15 = .ok (.iconst 0, 1) := by decide +kernel
theorem dX12_sortOf_16 : decode cX12_sortOf 16 = .ok (.iload 4, 2) := by decide +kernel
theorem dX12_sortOf_18 : decode cX12_sortOf 18 = .ok (.iadd, 1) := by decide +kernel
theorem dX12_sortOf_19 : decode cX12_sortOf 19 = .ok (.iaload, 1) := by decide +kernel
theorem dX12_sortOf_20 : decode cX12_sortOf 20 = .ok (.iload 4, 2) := by decide +kernel
theorem dX12_sortOf_22 : decode cX12_sortOf 22 = .ok (.iload_n 2, 1) := by decide +kernel
theorem dX12_sortOf_23 : decode cX12_sortOf 23 = .ok (.if_icmp .ne 7, 3) := by decide +kernel
theorem dX12_sortOf_26 : decode cX12_sortOf 26 = .ok (.iconst 1, 1) := by decide +kernel
theorem dX12_sortOf_27 : decode cX12_sortOf 27 = .ok (.goto 4, 3) := by decide +kernel
theorem dX12_sortOf_30 : decode cX12_sortOf 30 = .ok (.iconst 0, 1) := by decide +kernel
theorem dX12_sortOf_31 : decode cX12_sortOf 31 = .ok (.isub, 1) := by decide +kernel
theorem dX12_sortOf_32 : decode cX12_sortOf 32 = .ok (.istore 5, 2) := by decide +kernel
theorem dX12_sortOf_34 : decode cX12_sortOf 34 = .ok (.iload_n 3, 1) := by decide +kernel
theorem dX12_sortOf_35 : decode cX12_sortOf 35 = .ok (.iload 5, 2) := by decide +kernel
theorem dX12_sortOf_37 : decode cX12_sortOf 37 = .ok (.if_icmp .ge 6, 3) := by decide +kernel
theorem dX12_sortOf_40 : decode cX12_sortOf 40 = .ok (.iload 4, 2) := by decide +kernel
theorem dX12_sortOf_42 : decode cX12_sortOf 42 = .ok (.ireturn, 1) := by decide +kernel
theorem dX12_sortOf_43 : decode cX12_sortOf 43 = .ok (.iload_n 3, 1) := by decide +kernel
theorem dX12_sortOf_44 : decode cX12_sortOf 44 = .ok (.iload 5, 2) := by decide +kernel
theorem dX12_sortOf_46 : decode cX12_sortOf 46 = .ok (.isub, 1) := by decide +kernel
theorem dX12_sortOf_47 : decode cX12_sortOf 47 = .ok (.istore_n 3, 1) := by decide +kernel
theorem dX12_sortOf_48 : decode cX12_sortOf 48 = .ok (.iinc 4 1, 3) := by decide +kernel
theorem dX12_sortOf_51 : decode cX12_sortOf 51 = .ok (.goto (-46), 3) := by decide +kernel
theorem dX12_sortOf_54 : decode cX12_sortOf 54 = .ok (.iconst 2, 1) := by decide +kernel
theorem dX12_sortOf_55 : decode cX12_sortOf 55 = .ok (.ireturn, 1) := by decide +kernel
theorem dX12_pairOf_0 : decode cX12_pairOf 0 = .ok (.iload_n 0, 1) := by decide +kernel
theorem dX12_pairOf_1 : decode cX12_pairOf 1 = .ok (.iload_n 1, 1) := by decide +kernel
theorem dX12_pairOf_2 : decode cX12_pairOf 2 = .ok (.if_icmp .ge 7, 3) := by decide +kernel
theorem dX12_pairOf_5 : decode cX12_pairOf 5 = .ok (.iload_n 0, 1) := by decide +kernel
theorem dX12_pairOf_6 : decode cX12_pairOf 6 = .ok (.goto 4, 3) := by decide +kernel
theorem dX12_pairOf_9 : decode cX12_pairOf 9 = .ok (.iload_n 1, 1) := by decide +kernel
theorem dX12_pairOf_10 : decode cX12_pairOf 10 = .ok (.istore_n 2, 1) := by decide +kernel
theorem dX12_pairOf_11 : decode cX12_pairOf 11 = .ok (.iload_n 0, 1) := by decide +kernel
theorem dX12_pairOf_12 : decode cX12_pairOf 12 = .ok (.iload_n 1, 1) := by decide +kernel
theorem dX12_pairOf_13 : decode cX12_pairOf 13 = .ok (.iadd, 1) := by decide +kernel
theorem dX12_pairOf_14 : decode cX12_pairOf 14 = .ok (.iload_n 2, 1) := by decide +kernel
theorem dX12_pairOf_15 : decode cX12_pairOf 15 = .ok (.isub, 1) := by decide +kernel
theorem dX12_pairOf_16 : decode cX12_pairOf 16 = .ok (.istore_n 3, 1) := by decide +kernel
theorem dX12_pairOf_17 : decode cX12_pairOf 17 = .ok (.iload_n 2, 1) := by decide +kernel
theorem dX12_pairOf_18 : decode cX12_pairOf 18 = .ok (.ifCond .ne 7, 3) := by decide +kernel
theorem dX12_pairOf_21 : decode cX12_pairOf 21 = .ok (.iload_n 3, 1) := by decide +kernel
theorem dX12_pairOf_22 : decode cX12_pairOf 22 = .ok (.goto 15, 3) := by decide +kernel
theorem dX12_pairOf_25 : decode cX12_pairOf 25 = .ok (.iload_n 2, 1) := by decide +kernel
theorem dX12_pairOf_26 : decode cX12_pairOf 26 = .ok (.iconst 1, 1) := by decide +kernel
theorem dX12_pairOf_27 : decode cX12_pairOf 27 = .ok (.if_icmp .ne 9, 3) := by decide +kernel
theorem dX12_pairOf_30 : decode cX12_pairOf 30 = .ok (.iload_n 3, 1) := by decide +kernel
theorem dX12_pairOf_31 : decode cX12_pairOf 31 = .ok (.iconst 2, 1) := by decide +kernel
theorem dX12_pairOf_32 : decode cX12_pairOf 32 = .ok (.iadd, 1) := by decide +kernel
theorem dX12_pairOf_33 : decode cX12_pairOf 33 = .ok (.goto 4, 3) := by decide +kernel
theorem dX12_pairOf_36 : decode cX12_pairOf 36 = .ok (.iconst 5, 1) := by decide +kernel
theorem dX12_pairOf_37 : decode cX12_pairOf 37 = .ok (.ireturn, 1) := by decide +kernel
theorem dX12_chances_0 : decode cX12_chances 0 = .ok (.aload_n 0, 1) := by decide +kernel
theorem dX12_chances_1 : decode cX12_chances 1 = .ok (.invokevirtual 173, 3) := by decide +kernel
theorem dX12_chances_4 : decode cX12_chances 4 = .ok (.invokestatic 86, 3) := by decide +kernel
theorem dX12_chances_7 : decode cX12_chances 7 = .ok (.istore_n 1, 1) := by decide +kernel
theorem dX12_chances_8 : decode cX12_chances 8 = .ok (.iload_n 1, 1) := by decide +kernel
theorem dX12_chances_9 : decode cX12_chances 9 = .ok (.iconst 2, 1) := by decide +kernel
theorem dX12_chances_10 : decode cX12_chances 10 = .ok (.if_icmp .ge 4, 3) := by decide +kernel
theorem dX12_chances_13 : decode cX12_chances 13 = .ok (.return_, 1) := by decide +kernel
theorem dX12_chances_14 : decode cX12_chances 14 = .ok (.aload_n 0, 1) := by decide +kernel
theorem dX12_chances_15 : decode cX12_chances 15 = .ok (.aload_n 0, 1) := by decide +kernel
theorem dX12_chances_16 : decode cX12_chances 16 = .ok (.invokevirtual 230, 3) := by decide +kernel
theorem dX12_chances_19 : decode cX12_chances 19 = .ok (.iload_n 1, 1) := by decide +kernel
theorem dX12_chances_20 : decode cX12_chances 20 = .ok (.irem, 1) := by decide +kernel
theorem dX12_chances_21 : decode cX12_chances 21 = .ok (.iconst (-1), 1) := by decide +kernel
theorem dX12_chances_22 : decode cX12_chances 22 = .ok (.invokevirtual 233, 3) := by decide +kernel
theorem dX12_chances_25 : decode cX12_chances 25 = .ok (.istore_n 2, 1) := by decide +kernel
theorem dX12_chances_26 : decode cX12_chances 26 = .ok (.aload_n 0, 1) := by decide +kernel
theorem dX12_chances_27 : decode cX12_chances 27 = .ok (.aload_n 0, 1) := by decide +kernel
theorem dX12_chances_28 : decode cX12_chances 28 = .ok (.invokevirtual 230, 3) := by decide +kernel
theorem dX12_chances_31 : decode cX12_chances 31 = .ok (.iload_n 1, 1) := by decide +kernel
theorem dX12_chances_32 : decode cX12_chances 32 = .ok (.iconst 1, 1) := by decide +kernel
theorem dX12_chances_33 : decode cX12_chances 33 = .ok (.isub, 1) := by decide +kernel
theorem dX12_chances_34 : decode cX12_chances 34 = .ok (.irem, 1) := by decide +kernel
theorem dX12_chances_35 : decode cX12_chances 35 = .ok (.iload_n 2, 1) := by decide +kernel
theorem dX12_chances_36 : decode cX12_chances 36 = .ok (.invokevirtual 233, 3) := by decide +kernel
theorem dX12_chances_39 : decode cX12_chances 39 = .ok (.istore_n 3, 1) := by decide +kernel
theorem dX12_chances_40 : decode cX12_chances 40 = .ok (.iload_n 2, 1) := by decide +kernel
theorem dX12_chances_41 : decode cX12_chances 41 = .ok (.iload_n 3, 1) := by decide +kernel
theorem dX12_chances_42 : decode cX12_chances 42 = .ok (.invokestatic 236, 3) := by decide +kernel
theorem dX12_chances_45 : decode cX12_chances 45 = .ok (.istore 4, 2) := by decide +kernel
theorem dX12_chances_47 : decode cX12_chances 47 = .ok (.aload_n 0, 1) := by decide +kernel
theorem dX12_chances_48 : decode cX12_chances 48 = .ok (.aload_n 0, 1) := by decide +kernel
theorem dX12_chances_49 : decode cX12_chances 49 = .ok (.invokevirtual 173, 3) := by decide +kernel
theorem dX12_chances_52 : decode cX12_chances 52 = .ok (.iload 4, 2) := by decide +kernel
theorem dX12_chances_54 : decode cX12_chances 54 = .ok (.aload_n 0, 1) := by decide +kernel
theorem dX12_chances_55 : decode cX12_chances 55 = .ok (.invokevirtual 206, 3) := by decide +kernel
theorem dX12_chances_58 : decode cX12_chances 58 = .ok (.invokevirtual 209, 3) := by decide +kernel
theorem dX12_chances_61 : decode cX12_chances 61 = .ok (.ifCond .eq 9, 3) := by decide +kernel
theorem dX12_chances_64 : decode cX12_chances 64 = .ok (.aload_n 0, 1) := by decide +kernel
theorem dX12_chances_65 : decode cX12_chances 65 = .ok (.iload 4, 2) := by decide +kernel
theorem dX12_chances_67 : decode cX12_chances 67 = .ok (.invokevirtual 226, 3) := by decide +kernel
theorem dX12_chances_70 : decode cX12_chances 70 = .ok (.return_, 1) := by decide +kernel
theorem dX12_chance_0 : decode cX12_chance 0 = .ok (.iload_n 1, 1) := by decide +kernel
theorem dX12_chance_1 : decode cX12_chance 1 = .ok (.i2l, 1) := by decide +kernel
theorem dX12_chance_2 : decode cX12_chance 2 = .ok (.lconst 1, 1) := by decide +kernel
theorem dX12_chance_3 : decode cX12_chance 3 = .ok (.ldc2_w 239, 3) := by decide +kernel
theorem dX12_chance_6 : decode cX12_chance 6 = .ok (.invokestatic 78, 3) := by decide +kernel
theorem dX12_chance_9 : decode cX12_chance 9 = .ok (.ifCond .ne 9, 3) := by decide +kernel
theorem dX12_chance_12 : decode cX12_chance 12 = .ok (.aload_n 0, 1) := by decide +kernel
theorem dX12_chance_13 : decode cX12_chance 13 = .ok (.iconst 1, 1) := by decide +kernel
theorem dX12_chance_14 : decode cX12_chance 14 = .ok (.invokevirtual 152, 3) := by decide +kernel
theorem dX12_chance_17 : decode cX12_chance 17 = .ok (.ireturn, 1) := by decide +kernel
theorem dX12_chance_18 : decode cX12_chance 18 = .ok (.aload_n 0, 1) := by decide +kernel
theorem dX12_chance_19 : decode cX12_chance 19 = .ok (.getfield 7, 3) := by decide +kernel
theorem dX12_chance_22 : decode cX12_chance 22 = .ok (.bipush 21, 2) := by decide +kernel
theorem dX12_chance_24 : decode cX12_chance 24 = .ok (.iaload, 1) := by decide +kernel
theorem dX12_chance_25 : decode cX12_chance 25 = .ok (.iload_n 1, 1) := by decide +kernel
theorem dX12_chance_26 : decode cX12_chance 26 = .ok (.iadd, 1) := by decide +kernel
theorem dX12_chance_27 : decode cX12_chance 27 = .ok (.sipush 9999, 3) := by decide +kernel
theorem dX12_chance_30 : decode cX12_chance 30 = .ok (.if_icmp .le 9, 3) := by decide +kernel
theorem dX12_chance_33 : decode cX12_chance 33 = .ok (.aload_n 0, 1) := by decide +kernel
theorem dX12_chance_34 : decode cX12_chance 34 = .ok (.iconst 3, 1) := by decide +kernel
theorem dX12_chance_35 : decode cX12_chance 35 = .ok (.invokevirtual 152, 3) := by decide +kernel
theorem dX12_chance_38 : decode cX12_chance 38 = .ok (.ireturn, 1) := by decide +kernel
theorem dX12_chance_39 : decode cX12_chance 39 = .ok (.aload_n 0, 1) := by decide +kernel
theorem dX12_chance_40 : decode cX12_chance 40 = .ok (.invokevirtual 203, 3) := by decide +kernel
theorem dX12_chance_43 : decode cX12_chance 43 = .ok (.iconst 0, 1) := by decide +kernel
theorem dX12_chance_44 : decode cX12_chance 44 = .ok (.istore_n 2, 1) := by decide +kernel
theorem dX12_chance_45 : decode cX12_chance 45 = .ok (.iload_n 2, 1) := by decide +kernel
theorem dX12_chance_46 : decode cX12_chance 46 = .ok (.iload_n 1, 1) := by decide +kernel
theorem dX12_chance_47 : decode cX12_chance 47 = .ok (.if_icmp .ge 13, 3) := by decide +kernel
theorem dX12_chance_50 : decode cX12_chance 50 = .ok (.aload_n 0, 1) := by decide +kernel
theorem dX12_chance_51 : decode cX12_chance 51 = .ok (.invokevirtual 241, 3) := by decide +kernel
theorem dX12_chance_54 : decode cX12_chance 54 = .ok (.iinc 2 1, 3) := by decide +kernel
theorem dX12_chance_57 : decode cX12_chance 57 = .ok (.goto (-12), 3) := by decide +kernel
theorem dX12_chance_60 : decode cX12_chance 60 = .ok (.aload_n 0, 1) := by decide +kernel
theorem dX12_chance_61 : decode cX12_chance 61 = .ok (.invokevirtual 173, 3) := by decide +kernel
theorem dX12_chance_64 : decode cX12_chance 64 = .ok (.ireturn, 1) := by decide +kernel
theorem dX12_findFar_0 : decode cX12_findFar 0 = .ok (.iconst 0, 1) := by decide +kernel
theorem dX12_findFar_1 : decode cX12_findFar 1 = .ok (.istore_n 3, 1) := by decide +kernel
theorem dX12_findFar_2 : decode cX12_findFar 2 = .ok (.iload_n 3, 1) := by decide +kernel
theorem dX12_findFar_3 : decode cX12_findFar 3 = .ok (.sipush 2197, 3) := by decide +kernel
theorem dX12_findFar_6 : decode cX12_findFar 6 = .ok (.if_icmp .ge 17, 3) := by decide +kernel
theorem dX12_findFar_9 : decode cX12_findFar 9 = .ok (.aload_n 0, 1) := by decide +kernel
theorem dX12_findFar_10 : decode cX12_findFar 10 = .ok (.getfield 25, 3) := by decide +kernel
theorem dX12_findFar_13 : decode cX12_findFar 13 = .ok (.iload_n 3, 1) := by decide +kernel
theorem dX12_findFar_14 : decode cX12_findFar 14 = .ok (.ldc 244, 2) := by decide +kernel
theorem dX12_findFar_16 : decode cX12_findFar 16 = .ok (.iastore, 1) := by decide +kernel
theorem dX12_findFar_17 : decode cX12_findFar 17 = .ok (.iinc 3 1, 3) := by decide +kernel
theorem dX12_findFar_20 : decode cX12_findFar 20 = .ok (.goto (-18), 3) := by decide +kernel
theorem dX12_findFar_23 : decode cX12_findFar 23 = .ok (.aload_n 0, 1) := by decide +kernel
theorem dX12_findFar_24 : decode cX12_findFar 24 = .ok (.getfield 25, 3) := by decide +kernel
theorem dX12_findFar_27 : decode cX12_findFar 27 = .ok (.iload_n 1, 1) := by decide +kernel
theorem dX12_findFar_28 : decode cX12_findFar 28 = .ok (.iconst 0, 1) := by decide +kernel
theorem dX12_findFar_29 : decode cX12_findFar 29 = .ok (.iastore, 1) := by decide +kernel
theorem dX12_findFar_30 : decode cX12_findFar 30 = .ok (.aload_n 0, 1) := by decide +kernel
theorem dX12_findFar_31 : decode cX12_findFar 31 = .ok (.getfield 28, 3) := by decide +kernel
theorem dX12_findFar_34 : decode cX12_findFar 34 = .ok (.iconst 0, 1) := by decide +kernel
theorem dX12_findFar_35 : decode cX12_findFar 35 = .ok (.iload_n 1, 1) := by decide +kernel
theorem dX12_findFar_36 : decode cX12_findFar 36 = .ok (.iastore, 1) := by decide +kernel
theorem dX12_findFar_37 : decode cX12_findFar 37 = .ok (.iconst 1, 1) := by decide +kernel
theorem dX12_findFar_38 : decode cX12_findFar 38 = .ok (.istore_n 3, 1) := by decide +kernel
theorem dX12_findFar_39 : decode cX12_findFar 39 = .ok (.iconst 0, 1) := by decide +kernel
theorem dX12_findFar_40 : decode cX12_findFar 40 = .ok (.istore 4, 2) := by decide +kernel
theorem dX12_findFar_42 : decode cX12_findFar 42 = .ok (.iload 4, 2) := by decide +kernel
theorem dX12_findFar_44 : decode cX12_findFar 44 = .ok (.iload_n 3, 1) := by decide +kernel
theorem dX12_findFar_45 : decode cX12_findFar 45 = .ok (.if_icmp .ge 101, 3) := by decide +kernel
theorem dX12_findFar_48 : decode cX12_findFar 48 = .ok (.iconst 0, 1) := by decide +kernel
theorem dX12_findFar_49 : decode cX12_findFar 49 = .ok (.istore 5, 2) := by decide +kernel
theorem dX12_findFar_51 : decode cX12_findFar 51 = .ok (.iload 5, 2) := by decide +kernel
theorem dX12_findFar_53 : decode cX12_findFar 53 = .ok (.bipush 6, 2) := by decide +kernel
theorem dX12_findFar_55 : decode cX12_findFar 55 = .ok (.if_icmp .ge 85, 3) := by decide +kernel
theorem dX12_findFar_58 : decode cX12_findFar 58 = .ok (.aload_n 0, 1) := by decide +kernel
theorem dX12_findFar_59 : decode cX12_findFar 59 = .ok (.aload_n 0, 1) := by decide +kernel
theorem dX12_findFar_60 : decode cX12_findFar 60 = .ok (.getfield 28, 3) := by decide +kernel
theorem dX12_findFar_63 : decode cX12_findFar 63 = .ok (.iload 4, 2) := by decide +kernel
theorem dX12_findFar_65 : decode cX12_findFar 65 = .ok (.iaload, 1) := by decide +kernel
theorem dX12_findFar_66 : decode cX12_findFar 66 = .ok (.iload 5, 2) := by decide +kernel
theorem dX12_findFar_68 : decode cX12_findFar 68 = .ok (.iload_n 2, 1) := by decide +kernel
theorem dX12_findFar_69 : decode cX12_findFar 69 = .ok (.invokevirtual 209, 3) := by decide +kernel
theorem dX12_findFar_72 : decode cX12_findFar 72 = .ok (.ifCond .eq 62, 3) := by decide +kernel
theorem dX12_findFar_75 : decode cX12_findFar 75 = .ok (.aload_n 0, 1) := by decide +kernel
theorem dX12_findFar_76 : decode cX12_findFar 76 = .ok (.aload_n 0, 1) := by decide +kernel
theorem dX12_findFar_77 : decode cX12_findFar 77 = .ok (.getfield 28, 3) := by decide +kernel
theorem dX12_findFar_80 : decode cX12_findFar 80 = .ok (.iload 4, 2) := by decide +kernel
theorem dX12_findFar_82 : decode cX12_findFar 82 = .ok (.iaload, 1) := by decide +kernel
theorem dX12_findFar_83 : decode cX12_findFar 83 = .ok (.iload 5, 2) := by decide +kernel
theorem dX12_findFar_85 : decode cX12_findFar 85 = .ok (.invokevirtual 220, 3) := by decide +kernel
theorem dX12_findFar_88 : decode cX12_findFar 88 = .ok (.istore 6, 2) := by decide +kernel
theorem dX12_findFar_90 : decode cX12_findFar 90 = .ok (.aload_n 0, 1) := by decide +kernel
theorem dX12_findFar_91 : decode cX12_findFar 91 = .ok (.getfield 25, 3) := by decide +kernel
theorem dX12_findFar_94 : decode cX12_findFar 94 = .ok (.iload 6, 2) := by decide +kernel
theorem dX12_findFar_96 : decode cX12_findFar 96 = .ok (.iaload, 1) := by decide +kernel
theorem dX12_findFar_97 : decode cX12_findFar 97 = .ok (.ldc 244, 2) := by decide +kernel
theorem dX12_findFar_99 : decode cX12_findFar 99 = .ok (.if_icmp .ne 35, 3) := by decide +kernel
theorem dX12_findFar_102 : decode cX12_findFar 102 = .ok (.aload_n 0, 1) := by decide +kernel
theorem dX12_findFar_103 : decode cX12_findFar 103 = .ok (.getfield 25, 3) := by decide +kernel
theorem dX12_findFar_106 : decode cX12_findFar 106 = .ok (.iload 6, 2) := by decide +kernel
theorem dX12_findFar_108 : decode cX12_findFar 108 = .ok (.aload_n 0, 1) := by decide +kernel
theorem dX12_findFar_109 : decode cX12_findFar 109 = .ok (.getfield 25, 3) := by decide +kernel
theorem dX12_findFar_112 : decode cX12_findFar 112 = .ok (.aload_n 0, 1) := by decide +kernel
theorem dX12_findFar_113 : decode cX12_findFar 113 = .ok (.getfield 28, 3) := by decide +kernel
theorem dX12_findFar_116 : decode cX12_findFar 116 = .ok (.iload 4, 2) := by decide +kernel
theorem dX12_findFar_118 : decode cX12_findFar 118 = .ok (.iaload, 1) := by decide +kernel
theorem dX12_findFar_119 : decode cX12_findFar 119 = .ok (.iaload, 1) := by decide +kernel
theorem dX12_findFar_120 : decode cX12_findFar 120 = .ok (.iconst 1, 1) := by decide +kernel
theorem dX12_findFar_121 : decode cX12_findFar 121 = .ok (.iadd, 1) := by decide +kernel
theorem dX12_findFar_122 : decode cX12_findFar 122 = .ok (.iastore, 1) := by decide +kernel
theorem dX12_findFar_123 : decode cX12_findFar 123 = .ok (.aload_n 0, 1) := by decide +kernel
theorem dX12_findFar_124 : decode cX12_findFar 124 = .ok (.getfield 28, 3) := by decide +kernel
theorem dX12_findFar_127 : decode cX12_findFar 127 = .ok (.iload_n 3, 1) := by decide +kernel
theorem dX12_findFar_128 : decode cX12_findFar 128 = .ok (.iload 6, 2) := by decide +kernel
theorem dX12_findFar_130 : decode cX12_findFar 130 = .ok (.iastore, 1) := by decide +kernel
theorem dX12_findFar_131 : decode cX12_findFar 131 = .ok (.iinc 3 1, 3) := by decide +kernel
theorem dX12_findFar_134 : decode cX12_findFar 134 = .ok (.iinc 5 1, 3) := by decide +kernel
theorem dX12_findFar_137 : decode cX12_findFar 137 = .ok (.goto (-86), 3) := by decide +kernel
theorem dX12_findFar_140 : decode cX12_findFar 140 = .ok (.iinc 4 1, 3) := by decide +kernel
theorem dX12_findFar_143 : decode cX12_findFar 143 = .ok (.goto (-101), 3) := by decide +kernel
theorem dX12_findFar_146 : decode cX12_findFar 146 = .ok (.iload_n 3, 1) := by decide +kernel
theorem dX12_findFar_147 : decode cX12_findFar 147 = .ok (.ireturn, 1) := by decide +kernel
theorem dX12_reach_0 : decode cX12_reach 0 = .ok (.iload_n 1, 1) := by decide +kernel
theorem dX12_reach_1 : decode cX12_reach 1 = .ok (.invokestatic 245, 3) := by decide +kernel
theorem dX12_reach_4 : decode cX12_reach 4 = .ok (.ifCond .ne 9, 3) := by decide +kernel
theorem dX12_reach_7 : decode cX12_reach 7 = .ok (.aload_n 0, 1) := by decide +kernel
theorem dX12_reach_8 : decode cX12_reach 8 = .ok (.iconst 1, 1) := by decide +kernel
theorem dX12_reach_9 : decode cX12_reach 9 = .ok (.invokevirtual 152, 3) := by decide +kernel
theorem dX12_reach_12 : decode cX12_reach 12 = .ok (.ireturn, 1) := by decide +kernel
theorem dX12_reach_13 : decode cX12_reach 13 = .ok (.aload_n 0, 1) := by decide +kernel
theorem dX12_reach_14 : decode cX12_reach 14 = .ok (.invokevirtual 203, 3) := by decide +kernel
theorem dX12_reach_17 : decode cX12_reach 17 = .ok (.aload_n 0, 1) := by decide +kernel
theorem dX12_reach_18 : decode cX12_reach 18 = .ok (.aload_n 0, 1) := by decide +kernel
theorem dX12_reach_19 : decode cX12_reach 19 = .ok (.invokevirtual 173, 3) := by decide +kernel
theorem dX12_reach_22 : decode cX12_reach 22 = .ok (.aload_n 0, 1) := by decide +kernel
theorem dX12_reach_23 : decode cX12_reach 23 = .ok (.invokevirtual 206, 3) := by decide +kernel
theorem dX12_reach_26 : decode cX12_reach 26 = .ok (.invokevirtual 248, 3) := by decide +kernel
theorem dX12_reach_29 : decode cX12_reach 29 = .ok (.istore_n 2, 1) := by decide +kernel
theorem dX12_reach_30 : decode cX12_reach 30 = .ok (.aload_n 0, 1) := by decide +kernel
theorem dX12_reach_31 : decode cX12_reach 31 = .ok (.getfield 25, 3) := by decide +kernel
theorem dX12_reach_34 : decode cX12_reach 34 = .ok (.iload_n 1, 1) := by decide +kernel
theorem dX12_reach_35 : decode cX12_reach 35 = .ok (.iaload, 1) := by decide +kernel
theorem dX12_reach_36 : decode cX12_reach 36 = .ok (.ldc 244, 2) := by decide +kernel
theorem dX12_reach_38 : decode cX12_reach 38 = .ok (.if_icmp .ne 11, 3) := by decide +kernel
theorem dX12_reach_41 : decode cX12_reach 41 = .ok (.aload_n 0, 1) := by decide +kernel
theorem dX12_reach_42 : decode cX12_reach 42 = .ok (.iconst 2, 1) := by decide +kernel
theorem dX12_reach_43 : decode cX12_reach 43 = .ok (.invokevirtual 152, 3) := by decide +kernel
theorem dX12_reach_46 : decode cX12_reach 46 = .ok (.goto 9, 3) := by decide +kernel
theorem dX12_reach_49 : decode cX12_reach 49 = .ok (.aload_n 0, 1) := by decide +kernel
theorem dX12_reach_50 : decode cX12_reach 50 = .ok (.getfield 25, 3) := by decide +kernel
theorem dX12_reach_53 : decode cX12_reach 53 = .ok (.iload_n 1, 1) := by decide +kernel
theorem dX12_reach_54 : decode cX12_reach 54 = .ok (.iaload, 1) := by decide +kernel
theorem dX12_reach_55 : decode cX12_reach 55 = .ok (.ireturn, 1) := by decide +kernel
theorem dX12_way_0 : decode cX12_way 0 = .ok (.iload_n 1, 1) := by decide +kernel
theorem dX12_way_1 : decode cX12_way 1 = .ok (.invokestatic 245, 3) := by decide +kernel
theorem dX12_way_4 : decode cX12_way 4 = .ok (.ifCond .eq 7, 3) := by decide +kernel
theorem dX12_way_7 : decode cX12_way 7 = .ok (.iload_n 2, 1) := by decide +kernel
theorem dX12_way_8 : decode cX12_way 8 = .ok (.ifCond .ge 9, 3) := by decide +kernel
theorem dX12_way_11 : decode cX12_way 11 = .ok (.aload_n 0, 1) := by decide +kernel
theorem dX12_way_12 : decode cX12_way 12 = .ok (.iconst 1, 1) := by decide +kernel
theorem dX12_way_13 : decode cX12_way 13 = .ok (.invokevirtual 152, 3) := by decide +kernel
theorem dX12_way_16 : decode cX12_way 16 = .ok (.ireturn, 1) := by decide +kernel
theorem dX12_way_17 : decode cX12_way 17 = .ok (.aload_n 0, 1) := by decide +kernel
theorem dX12_way_18 : decode cX12_way 18 = .ok (.invokevirtual 203, 3) := by decide +kernel
theorem dX12_way_21 : decode cX12_way 21 = .ok (.aload_n 0, 1) := by decide +kernel
theorem dX12_way_22 : decode cX12_way 22 = .ok (.invokevirtual 206, 3) := by decide +kernel
theorem dX12_way_25 : decode cX12_way 25 = .ok (.istore_n 3, 1) := by decide +kernel
theorem dX12_way_26 : decode cX12_way 26 = .ok (.aload_n 0, 1) := by decide +kernel
theorem dX12_way_27 : decode cX12_way 27 = .ok (.aload_n 0, 1) := by decide +kernel
theorem dX12_way_28 : decode cX12_way 28 = .ok (.invokevirtual 173, 3) := by decide +kernel
theorem dX12_way_31 : decode cX12_way 31 = .ok (.iload_n 3, 1) := by decide +kernel
theorem dX12_way_32 : decode cX12_way 32 = .ok (.invokevirtual 248, 3) := by decide +kernel
theorem dX12_way_35 : decode cX12_way 35 = .ok (.istore 4, 2) := by decide +kernel
theorem dX12_way_37 : decode cX12_way 37 = .ok (.aload_n 0, 1) := by decide +kernel
theorem dX12_way_38 : decode cX12_way 38 = .ok (.getfield 25, 3) := by decide +kernel
theorem dX12_way_41 : decode cX12_way 41 = .ok (.iload_n 1, 1) := by decide +kernel
theorem dX12_way_42 : decode cX12_way 42 = .ok (.iaload, 1) := by decide +kernel
theorem dX12_way_43 : decode cX12_way 43 = .ok (.ldc 244, 2) := by decide +kernel
theorem dX12_way_45 : decode cX12_way 45 = .ok (.if_icmp .eq 13, 3) := by decide +kernel
theorem dX12_way_48 : decode cX12_way 48 = .ok (.iload_n 2, 1) := by decide +kernel
theorem dX12_way_49 : decode cX12_way 49 = .ok (.aload_n 0, 1) := by decide +kernel
theorem dX12_way_50 : decode cX12_way 50 = .ok (.getfield 25, 3) := by decide +kernel
theorem dX12_way_53 : decode cX12_way 53 = .ok (.iload_n 1, 1) := by decide +kernel
theorem dX12_way_54 : decode cX12_way 54 = .ok (.iaload, 1) := by decide +kernel
theorem dX12_way_55 : decode cX12_way 55 = .ok (.if_icmp .lt 9, 3) := by decide +kernel
theorem dX12_way_58 : decode cX12_way 58 = .ok (.aload_n 0, 1) := by decide +kernel
theorem dX12_way_59 : decode cX12_way 59 = .ok (.iconst 2, 1) := by decide +kernel
theorem dX12_way_60 : decode cX12_way 60 = .ok (.invokevirtual 152, 3) := by decide +kernel
theorem dX12_way_63 : decode cX12_way 63 = .ok (.ireturn, 1) := by decide +kernel
theorem dX12_way_64 : decode cX12_way 64 = .ok (.iconst 0, 1) := by decide +kernel
theorem dX12_way_65 : decode cX12_way 65 = .ok (.istore 5, 2) := by decide +kernel
theorem dX12_way_67 : decode cX12_way 67 = .ok (.iload 5, 2) := by decide +kernel
theorem dX12_way_69 : decode cX12_way 69 = .ok (.sipush 2197, 3) := by decide +kernel
theorem dX12_way_72 : decode cX12_way 72 = .ok (.if_icmp .ge 27, 3) := by decide +kernel
theorem dX12_way_75 : decode cX12_way 75 = .ok (.aload_n 0, 1) := by decide +kernel
theorem dX12_way_76 : decode cX12_way 76 = .ok (.getfield 31, 3) := by decide +kernel
theorem dX12_way_79 : decode cX12_way 79 = .ok (.iload 5, 2) := by decide +kernel
theorem dX12_way_81 : decode cX12_way 81 = .ok (.iload 5, 2) := by decide +kernel
theorem dX12_way_83 : decode cX12_way 83 = .ok (.iload_n 1, 1) := by decide +kernel
theorem dX12_way_84 : decode cX12_way 84 = .ok (.if_icmp .ne 7, 3) := by decide +kernel
theorem dX12_way_87 : decode cX12_way 87 = .ok (.iconst 1, 1) := by decide +kernel
theorem dX12_way_88 : decode cX12_way 88 = .ok (.goto 4, 3) := by decide +kernel
theorem dX12_way_91 : decode cX12_way 91 = .ok (.iconst 0, 1) := by decide +kernel
theorem dX12_way_92 : decode cX12_way 92 = .ok (.bastore, 1) := by decide +kernel
theorem dX12_way_93 : decode cX12_way 93 = .ok (.iinc 5 1, 3) := by decide +kernel
theorem dX12_way_96 : decode cX12_way 96 = .ok (.goto (-29), 3) := by decide +kernel
theorem dX12_way_99 : decode cX12_way 99 = .ok (.iload 4, 2) := by decide +kernel
theorem dX12_way_101 : decode cX12_way 101 = .ok (.iconst 1, 1) := by decide +kernel
theorem dX12_way_102 : decode cX12_way 102 = .ok (.isub, 1) := by decide +kernel
theorem dX12_way_103 : decode cX12_way 103 = .ok (.istore 5, 2) := by decide +kernel
theorem dX12_way_105 : decode cX12_way 105 = .ok (.iload 5, 2) := by decide +kernel
theorem dX12_way_107 : decode cX12_way 107 = .ok (.ifCond .lt 111, 3) := by decide +kernel
theorem dX12_way_110 : decode cX12_way 110 = .ok (.iconst 0, 1) := by decide +kernel
theorem dX12_way_111 : decode cX12_way 111 = .ok (.istore 6, 2) := by decide +kernel
theorem dX12_way_113 : decode cX12_way 113 = .ok (.iload 6, 2) := by decide +kernel
theorem dX12_way_115 : decode cX12_way 115 = .ok (.bipush 6, 2) := by decide +kernel
theorem dX12_way_117 : decode cX12_way 117 = .ok (.if_icmp .ge 95, 3) := by decide +kernel
theorem dX12_way_120 : decode cX12_way 120 = .ok (.aload_n 0, 1) := by decide +kernel
theorem dX12_way_121 : decode cX12_way 121 = .ok (.aload_n 0, 1) := by decide +kernel
theorem dX12_way_122 : decode cX12_way 122 = .ok (.getfield 28, 3) := by decide +kernel
theorem dX12_way_125 : decode cX12_way 125 = .ok (.iload 5, 2) := by decide +kernel
theorem dX12_way_127 : decode cX12_way 127 = .ok (.iaload, 1) := by decide +kernel
theorem dX12_way_128 : decode cX12_way 128 = .ok (.iload 6, 2) := by decide +kernel
theorem dX12_way_130 : decode cX12_way 130 = .ok (.iload_n 3, 1) := by decide +kernel
theorem dX12_way_131 : decode cX12_way 131 = .ok (.invokevirtual 209, 3) := by decide +kernel
theorem dX12_way_134 : decode cX12_way 134 = .ok (.ifCond .eq 72, 3) := by decide +kernel
theorem dX12_way_137 : decode cX12_way 137 = .ok (.aload_n 0, 1) := by decide +kernel
theorem dX12_way_138 : decode cX12_way 138 = .ok (.aload_n 0, 1) := by decide +kernel
theorem dX12_way_139 : decode cX12_way 139 = .ok (.getfield 28, 3) := by decide +kernel
theorem dX12_way_142 : decode cX12_way 142 = .ok (.iload 5, 2) := by decide +kernel
theorem dX12_way_144 : decode cX12_way 144 = .ok (.iaload, 1) := by decide +kernel
theorem dX12_way_145 : decode cX12_way 145 = .ok (.iload 6, 2) := by decide +kernel
theorem dX12_way_147 : decode cX12_way 147 = .ok (.invokevirtual 220, 3) := by decide +kernel
theorem dX12_way_150 : decode cX12_way 150 = .ok (.istore 7, 2) := by decide +kernel
theorem dX12_way_152 : decode cX12_way 152 = .ok (.aload_n 0, 1) := by decide +kernel
theorem dX12_way_153 : decode cX12_way 153 = .ok (.getfield 31, 3) := by decide +kernel
theorem dX12_way_156 : decode cX12_way 156 = .ok (.aload_n 0, 1) := by decide +kernel
theorem dX12_way_157 : decode cX12_way 157 = .ok (.getfield 28, 3) := by decide +kernel
theorem dX12_way_160 : decode cX12_way 160 = .ok (.iload 5, 2) := by decide +kernel
theorem dX12_way_162 : decode cX12_way 162 = .ok (.iaload, 1) := by decide +kernel
theorem dX12_way_163 : decode cX12_way 163 = .ok (.dup2, 1) := by decide +kernel
theorem dX12_way_164 : decode cX12_way 164 = .ok (.baload, 1) := by decide +kernel
theorem dX12_way_165 : decode cX12_way 165 = .ok (.aload_n 0, 1) := by decide +kernel
theorem dX12_way_166 : decode cX12_way 166 = .ok (.getfield 31, 3) := by decide +kernel
theorem dX12_way_169 : decode cX12_way 169 = .ok (.iload 7, 2) := by decide +kernel
theorem dX12_way_171 : decode cX12_way 171 = .ok (.baload, 1) := by decide +kernel
theorem dX12_way_172 : decode cX12_way 172 = .ok (.ifCond .eq 31, 3) := by decide +kernel
theorem dX12_way_175 : decode cX12_way 175 = .ok (.aload_n 0, 1) := by decide +kernel
theorem dX12_way_176 : decode cX12_way 176 = .ok (.getfield 25, 3) := by decide +kernel
theorem dX12_way_179 : decode cX12_way 179 = .ok (.iload 7, 2) := by decide +kernel
theorem dX12_way_181 : decode cX12_way 181 = .ok (.iaload, 1) := by decide +kernel
theorem dX12_way_182 : decode cX12_way 182 = .ok (.aload_n 0, 1) := by decide +kernel
theorem dX12_way_183 : decode cX12_way 183 = .ok (.getfield 25, 3) := by decide +kernel
theorem dX12_way_186 : decode cX12_way 186 = .ok (.aload_n 0, 1) := by decide +kernel
theorem dX12_way_187 : decode cX12_way 187 = .ok (.getfield 28, 3) := by decide +kernel
theorem dX12_way_190 : decode cX12_way 190 = .ok (.iload 5, 2) := by decide +kernel
theorem dX12_way_192 : decode cX12_way 192 = .ok (.iaload, 1) := by decide +kernel
theorem dX12_way_193 : decode cX12_way 193 = .ok (.iaload, 1) := by decide +kernel
theorem dX12_way_194 : decode cX12_way 194 = .ok (.iconst 1, 1) := by decide +kernel
theorem dX12_way_195 : decode cX12_way 195 = .ok (.iadd, 1) := by decide +kernel
theorem dX12_way_196 : decode cX12_way 196 = .ok (.if_icmp .ne 7, 3) := by decide +kernel
theorem dX12_way_199 : decode cX12_way 199 = .ok (.iconst 1, 1) := by decide +kernel
theorem dX12_way_200 : decode cX12_way 200 = .ok (.goto 4, 3) := by decide +kernel
theorem dX12_way_203 : decode cX12_way 203 = .ok (.iconst 0, 1) := by decide +kernel
theorem dX12_way_204 : decode cX12_way 204 = .ok (.ior, 1) := by decide +kernel
theorem dX12_way_205 : decode cX12_way 205 = .ok (.bastore, 1) := by decide +kernel
theorem dX12_way_206 : decode cX12_way 206 = .ok (.iinc 6 1, 3) := by decide +kernel
theorem dX12_way_209 : decode cX12_way 209 = .ok (.goto (-96), 3) := by decide +kernel
theorem dX12_way_212 : decode cX12_way 212 = .ok (.iinc 5 (-1), 3) := by decide +kernel
theorem dX12_way_215 : decode cX12_way 215 = .ok (.goto (-110), 3) := by decide +kernel
theorem dX12_way_218 : decode cX12_way 218 = .ok (.aload_n 0, 1) := by decide +kernel
theorem dX12_way_219 : decode cX12_way 219 = .ok (.invokevirtual 173, 3) := by decide +kernel
theorem dX12_way_222 : decode cX12_way 222 = .ok (.istore 5, 2) := by decide +kernel
theorem dX12_way_224 : decode cX12_way 224 = .ok (.iconst (-1), 1) := by decide +kernel
theorem dX12_way_225 : decode cX12_way 225 = .ok (.istore 6, 2) := by decide +kernel
theorem dX12_way_227 : decode cX12_way 227 = .ok (.iconst 0, 1) := by decide +kernel
theorem dX12_way_228 : decode cX12_way 228 = .ok (.istore 7, 2) := by decide +kernel
theorem dX12_way_230 : decode cX12_way 230 = .ok (.iload 7, 2) := by decide +kernel
theorem dX12_way_232 : decode cX12_way 232 = .ok (.iload_n 2, 1) := by decide +kernel
theorem dX12_way_233 : decode cX12_way 233 = .ok (.if_icmp .gt 81, 3) := by decide +kernel
theorem dX12_way_236 : decode cX12_way 236 = .ok (.iconst 0, 1) := by decide +kernel
theorem dX12_way_237 : decode cX12_way 237 = .ok (.istore 6, 2) := by decide +kernel
theorem dX12_way_239 : decode cX12_way 239 = .ok (.aload_n 0, 1) := by decide +kernel
theorem dX12_way_240 : decode cX12_way 240 = .ok (.iload 5, 2) := by decide +kernel
theorem dX12_way_242 : decode cX12_way 242 = .ok (.iload 6, 2) := by decide +kernel
theorem dX12_way_244 : decode cX12_way 244 = .ok (.iload_n 3, 1) := by decide +kernel
theorem dX12_way_245 : decode cX12_way 245 = .ok (.invokevirtual 209, 3) := by decide +kernel
theorem dX12_way_248 : decode cX12_way 248 = .ok (.ifCond .eq 44, 3) := by decide +kernel
theorem dX12_way_251 : decode cX12_way 251 = .ok (.aload_n 0, 1) := by decide +kernel
theorem dX12_way_252 : decode cX12_way 252 = .ok (.getfield 31, 3) := by decide +kernel
theorem dX12_way_255 : decode cX12_way 255 = .ok (.aload_n 0, 1) := by decide +kernel
theorem dX12_way_256 : decode cX12_way 256 = .ok (.iload 5, 2) := by decide +kernel
theorem dX12_way_258 : decode cX12_way 258 = .ok (.iload 6, 2) := by decide +kernel
theorem dX12_way_260 : decode cX12_way 260 = .ok (.invokevirtual 220, 3) := by decide +kernel
theorem dX12_way_263 : decode cX12_way 263 = .ok (.baload, 1) := by decide +kernel
theorem dX12_way_264 : decode cX12_way 264 = .ok (.ifCond .eq 28, 3) := by decide +kernel
theorem dX12_way_267 : decode cX12_way 267 = .ok (.aload_n 0, 1) := by decide +kernel
theorem dX12_way_268 : decode cX12_way 268 = .ok (.getfield 25, 3) := by decide +kernel
theorem dX12_way_271 : decode cX12_way 271 = .ok (.aload_n 0, 1) := by decide +kernel
theorem dX12_way_272 : decode cX12_way 272 = .ok (.iload 5, 2) := by decide +kernel
theorem dX12_way_274 : decode cX12_way 274 = .ok (.iload 6, 2) := by decide +kernel
theorem dX12_way_276 : decode cX12_way 276 = .ok (.invokevirtual 220, 3) := by decide +kernel
theorem dX12_way_279 : decode cX12_way 279 = .ok (.iaload, 1) := by decide +kernel
theorem dX12_way_280 : decode cX12_way 280 = .ok (.aload_n 0, 1) := by decide +kernel
theorem dX12_way_281 : decode cX12_way 281 = .ok (.getfield 25, 3) := by decide +kernel
theorem dX12_way_284 : decode cX12_way 284 = .ok (.iload 5, 2) := by decide +kernel
theorem dX12_way_286 : decode cX12_way 286 = .ok (.iaload, 1) := by decide +kernel
theorem dX12_way_287 : decode cX12_way 287 = .ok (.iconst 1, 1) := by decide +kernel
theorem dX12_way_288 : decode cX12_way 288 = .ok (.iadd, 1) := by decide +kernel
theorem dX12_way_289 : decode cX12_way 289 = .ok (.if_icmp .eq 9, 3) := by decide +kernel
theorem dX12_way_292 : decode cX12_way 292 = .ok (.iinc 6 1, 3) := by decide +kernel
theorem dX12_way_295 : decode cX12_way 295 = .ok (.goto (-56), 3) := by decide +kernel
theorem dX12_way_298 : decode cX12_way 298 = .ok (.aload_n 0, 1) := by decide +kernel
theorem dX12_way_299 : decode cX12_way 299 = .ok (.iload 5, 2) := by decide +kernel
theorem dX12_way_301 : decode cX12_way 301 = .ok (.iload 6, 2) := by decide +kernel
theorem dX12_way_303 : decode cX12_way 303 = .ok (.invokevirtual 220, 3) := by decide +kernel
theorem dX12_way_306 : decode cX12_way 306 = .ok (.istore 5, 2) := by decide +kernel
theorem dX12_way_308 : decode cX12_way 308 = .ok (.iinc 7 1, 3) := by decide +kernel
theorem dX12_way_311 : decode cX12_way 311 = .ok (.goto (-81), 3) := by decide +kernel
theorem dX12_way_314 : decode cX12_way 314 = .ok (.iload 6, 2) := by decide +kernel
theorem dX12_way_316 : decode cX12_way 316 = .ok (.ireturn, 1) := by decide +kernel
theorem dX12_nearestEnd_0 : decode cX12_nearestEnd 0 = .ok (.iconst (-1), 1) := by decide +kernel
theorem dX12_nearestEnd_1 : decode cX12_nearestEnd 1 = .ok (.istore_n 2, 1) := by decide +kernel
theorem dX12_nearestEnd_2 : decode cX12_nearestEnd 2 = .ok (.iconst 1, 1) := by decide +kernel
theorem dX12_nearestEnd_3 : decode cX12_nearestEnd 3 = .ok (.istore_n 3, 1) := by decide +kernel
theorem dX12_nearestEnd_4 : decode cX12_nearestEnd 4 = .ok (.iload_n 3, 1) := by decide +kernel
theorem dX12_nearestEnd_5 : decode cX12_nearestEnd 5 = .ok (.bipush 12, 2) := by decide +kernel
theorem dX12_nearestEnd_7 : decode cX12_nearestEnd 7 = .ok (.if_icmp .gt 56, 3) := by decide +kernel
theorem dX12_nearestEnd_10 : decode cX12_nearestEnd 10 = .ok (.iload_n 3, 1) := by decide +kernel
theorem dX12_nearestEnd_11 : decode cX12_nearestEnd 11 = .ok (.iload_n 1, 1) := by decide +kernel
theorem dX12_nearestEnd_12 : decode cX12_nearestEnd 12 = .ok (.invokestatic 198, 3) := by decide +kernel
theorem dX12_nearestEnd_15 : decode cX12_nearestEnd 15 = .ok (.imul, 1) := by decide +kernel
theorem dX12_nearestEnd_16 : decode cX12_nearestEnd 16 = .ok (.istore 4, 2) := by decide +kernel
theorem dX12_nearestEnd_18 : decode cX12_nearestEnd 18 = .ok (.aload_n 0, 1) := by decide +kernel
theorem dX12_nearestEnd_19 : decode cX12_nearestEnd 19 = .ok (.getfield 25, 3) := by decide +kernel
theorem dX12_nearestEnd_22 : decode cX12_nearestEnd 22 = .ok (.iload 4, 2) := by decide +kernel
theorem dX12_nearestEnd_24 : decode cX12_nearestEnd 24 = .ok (.iaload, 1) := by decide +kernel
theorem dX12_nearestEnd_25 : decode cX12_nearestEnd 25 = .ok (.ldc 244, 2) := by decide +kernel
theorem dX12_nearestEnd_27 : decode cX12_nearestEnd 27 = .ok (.if_icmp .ge 28, 3) := by decide +kernel
theorem dX12_nearestEnd_30 : decode cX12_nearestEnd 30 = .ok (.iload_n 2, 1) := by decide +kernel
theorem dX12_nearestEnd_31 : decode cX12_nearestEnd 31 = .ok (.ifCond .lt 19, 3) := by decide +kernel
theorem dX12_nearestEnd_34 : decode cX12_nearestEnd 34 = .ok (.aload_n 0, 1) := by decide +kernel
theorem dX12_nearestEnd_35 : decode cX12_nearestEnd 35 = .ok (.getfield 25, 3) := by decide +kernel
theorem dX12_nearestEnd_38 : decode cX12_nearestEnd 38 = .ok (.iload 4, 2) := by decide +kernel
theorem dX12_nearestEnd_40 : decode cX12_nearestEnd 40 = .ok (.iaload, 1) := by decide +kernel
theorem dX12_nearestEnd_41 : decode cX12_nearestEnd 41 = .ok (.aload_n 0, 1) := by decide +kernel
theorem dX12_nearestEnd_42 : decode cX12_nearestEnd 42 = .ok (.getfield 25, 3) := by decide +kernel
theorem dX12_nearestEnd_45 : decode cX12_nearestEnd 45 = .ok (.iload_n 2, 1) := by decide +kernel
theorem dX12_nearestEnd_46 : decode cX12_nearestEnd 46 = .ok (.iaload, 1) := by decide +kernel
theorem dX12_nearestEnd_47 : decode cX12_nearestEnd 47 = .ok (.if_icmp .ge 8, 3) := by decide +kernel
theorem dX12_nearestEnd_50 : decode cX12_nearestEnd 50 = .ok (.iload 4, 2) := by decide +kernel
theorem dX12_nearestEnd_52 : decode cX12_nearestEnd 52 = .ok (.goto 4, 3) := by decide +kernel
theorem dX12_nearestEnd_55 : decode cX12_nearestEnd 55 = .ok (.iload_n 2, 1) := by decide +kernel
theorem dX12_nearestEnd_56 : decode cX12_nearestEnd 56 = .ok (.istore_n 2, 1) := by decide +kernel
theorem dX12_nearestEnd_57 : decode cX12_nearestEnd 57 = .ok (.iinc 3 1, 3) := by decide +kernel
theorem dX12_nearestEnd_60 : decode cX12_nearestEnd 60 = .ok (.goto (-56), 3) := by decide +kernel
theorem dX12_nearestEnd_63 : decode cX12_nearestEnd 63 = .ok (.iload_n 2, 1) := by decide +kernel
theorem dX12_nearestEnd_64 : decode cX12_nearestEnd 64 = .ok (.ireturn, 1) := by decide +kernel
theorem dX12_can_0 : decode cX12_can 0 = .ok (.iload_n 1, 1) := by decide +kernel
theorem dX12_can_1 : decode cX12_can 1 = .ok (.invokestatic 168, 3) := by decide +kernel
theorem dX12_can_4 : decode cX12_can 4 = .ok (.ifCond .eq 13, 3) := by decide +kernel
theorem dX12_can_7 : decode cX12_can 7 = .ok (.iload_n 2, 1) := by decide +kernel
theorem dX12_can_8 : decode cX12_can 8 = .ok (.i2l, 1) := by decide +kernel
theorem dX12_can_9 : decode cX12_can 9 = .ok (.lconst 0, 1) := by decide +kernel
theorem dX12_can_10 : decode cX12_can 10 = .ok (.lconst 1, 1) := by decide +kernel
theorem dX12_can_11 : decode cX12_can 11 = .ok (.invokestatic 78, 3) := by decide +kernel
theorem dX12_can_14 : decode cX12_can 14 = .ok (.ifCond .ne 9, 3) := by decide +kernel
theorem dX12_can_17 : decode cX12_can 17 = .ok (.aload_n 0, 1) := by decide +kernel
theorem dX12_can_18 : decode cX12_can 18 = .ok (.iconst 1, 1) := by decide +kernel
theorem dX12_can_19 : decode cX12_can 19 = .ok (.invokevirtual 152, 3) := by decide +kernel
theorem dX12_can_22 : decode cX12_can 22 = .ok (.ireturn, 1) := by decide +kernel
theorem dX12_can_23 : decode cX12_can 23 = .ok (.aload_n 0, 1) := by decide +kernel
theorem dX12_can_24 : decode cX12_can 24 = .ok (.invokevirtual 203, 3) := by decide +kernel
theorem dX12_can_27 : decode cX12_can 27 = .ok (.aload_n 0, 1) := by decide +kernel
theorem dX12_can_28 : decode cX12_can 28 = .ok (.aload_n 0, 1) := by decide +kernel
theorem dX12_can_29 : decode cX12_can 29 = .ok (.invokevirtual 173, 3) := by decide +kernel
theorem dX12_can_32 : decode cX12_can 32 = .ok (.aload_n 0, 1) := by decide +kernel
theorem dX12_can_33 : decode cX12_can 33 = .ok (.invokevirtual 206, 3) := by decide +kernel
theorem dX12_can_36 : decode cX12_can 36 = .ok (.invokevirtual 248, 3) := by decide +kernel
theorem dX12_can_39 : decode cX12_can 39 = .ok (.istore_n 3, 1) := by decide +kernel
theorem dX12_can_40 : decode cX12_can 40 = .ok (.aload_n 0, 1) := by decide +kernel
theorem dX12_can_41 : decode cX12_can 41 = .ok (.iload_n 1, 1) := by decide +kernel
theorem dX12_can_42 : decode cX12_can 42 = .ok (.invokevirtual 251, 3) := by decide +kernel
theorem dX12_can_45 : decode cX12_can 45 = .ok (.istore 4, 2) := by decide +kernel
theorem dX12_can_47 : decode cX12_can 47 = .ok (.iload 4, 2) := by decide +kernel
theorem dX12_can_49 : decode cX12_can 49 = .ok (.ifCond .ge 11, 3) := by decide +kernel
theorem dX12_can_52 : decode cX12_can 52 = .ok (.aload_n 0, 1) := by decide +kernel
theorem dX12_can_53 : decode cX12_can 53 = .ok (.iconst 2, 1) := by decide +kernel
theorem dX12_can_54 : decode cX12_can 54 = .ok (.invokevirtual 152, 3) := by decide +kernel
theorem dX12_can_57 : decode cX12_can 57 = .ok (.goto 19, 3) := by decide +kernel
theorem dX12_can_60 : decode cX12_can 60 = .ok (.iload_n 2, 1) := by decide +kernel
theorem dX12_can_61 : decode cX12_can 61 = .ok (.ifCond .ne 13, 3) := by decide +kernel
theorem dX12_can_64 : decode cX12_can 64 = .ok (.aload_n 0, 1) := by decide +kernel
theorem dX12_can_65 : decode cX12_can 65 = .ok (.getfield 25, 3) := by decide +kernel
theorem dX12_can_68 : decode cX12_can 68 = .ok (.iload 4, 2) := by decide +kernel
theorem dX12_can_70 : decode cX12_can 70 = .ok (.iaload, 1) := by decide +kernel
theorem dX12_can_71 : decode cX12_can 71 = .ok (.goto 5, 3) := by decide +kernel
theorem dX12_can_74 : decode cX12_can 74 = .ok (.iload 4, 2) := by decide +kernel
theorem dX12_can_76 : decode cX12_can 76 = .ok (.ireturn, 1) := by decide +kernel
theorem dX12_reached_0 : decode cX12_reached 0 = .ok (.aload_n 0, 1) := by decide +kernel
theorem dX12_reached_1 : decode cX12_reached 1 = .ok (.invokevirtual 203, 3) := by decide +kernel
theorem dX12_reached_4 : decode cX12_reached 4 = .ok (.aload_n 0, 1) := by decide +kernel
theorem dX12_reached_5 : decode cX12_reached 5 = .ok (.aload_n 0, 1) := by decide +kernel
theorem dX12_reached_6 : decode cX12_reached 6 = .ok (.invokevirtual 173, 3) := by decide +kernel
theorem dX12_reached_9 : decode cX12_reached 9 = .ok (.aload_n 0, 1) := by decide +kernel
theorem dX12_reached_10 : decode cX12_reached 10 = .ok (.invokevirtual 206, 3) := by decide +kernel
theorem dX12_reached_13 : decode cX12_reached 13 = .ok (.invokevirtual 248, 3) := by decide +kernel
theorem dX12_reached_16 : decode cX12_reached 16 = .ok (.ireturn, 1) := by decide +kernel
theorem dX12_weightOf_0 : decode cX12_weightOf 0 = .ok (.iload_n 2, 1) := by decide +kernel
theorem dX12_weightOf_1 : decode cX12_weightOf 1 = .ok (.ifCond .ge 7, 3) := by decide +kernel
theorem dX12_weightOf_4 : decode cX12_weightOf 4 = .ok (.iconst 0, 1) := by decide +kernel
theorem dX12_weightOf_5 : decode cX12_weightOf 5 = .ok (.goto 31, 3) := by decide +kernel
theorem dX12_weightOf_8 : decode cX12_weightOf 8 = .ok (.iload_n 2, 1) := by decide +kernel
theorem dX12_weightOf_9 : decode cX12_weightOf 9 = .ok (.ifCond .ne 11, 3) := by decide +kernel
theorem dX12_weightOf_12 : decode cX12_weightOf 12 = .ok (.iload_n 0, 1) := by decide +kernel
theorem dX12_weightOf_13 : decode cX12_weightOf 13 = .ok (.iload_n 1, 1) := by decide +kernel
theorem dX12_weightOf_14 : decode cX12_weightOf 14 = .ok (.iload_n 1, 1) := by decide +kernel
theorem dX12_weightOf_15 : decode cX12_weightOf 15 = .ok (.imul, 1) := by decide +kernel
theorem dX12_weightOf_16 : decode cX12_weightOf 16 = .ok (.idiv, 1) := by decide +kernel
theorem dX12_weightOf_17 : decode cX12_weightOf 17 = .ok (.goto 19, 3) := by decide +kernel
theorem dX12_weightOf_20 : decode cX12_weightOf 20 = .ok (.iload_n 2, 1) := by decide +kernel
theorem dX12_weightOf_21 : decode cX12_weightOf 21 = .ok (.iconst 1, 1) := by decide +kernel
theorem dX12_weightOf_22 : decode cX12_weightOf 22 = .ok (.if_icmp .ne 11, 3) := by decide +kernel
theorem dX12_weightOf_25 : decode cX12_weightOf 25 = .ok (.iload_n 0, 1) := by decide +kernel
theorem dX12_weightOf_26 : decode cX12_weightOf 26 = .ok (.iload_n 1, 1) := by decide +kernel
theorem dX12_weightOf_27 : decode cX12_weightOf 27 = .ok (.idiv, 1) := by decide +kernel
theorem dX12_weightOf_28 : decode cX12_weightOf 28 = .ok (.iload_n 1, 1) := by decide +kernel
theorem dX12_weightOf_29 : decode cX12_weightOf 29 = .ok (.irem, 1) := by decide +kernel
theorem dX12_weightOf_30 : decode cX12_weightOf 30 = .ok (.goto 6, 3) := by decide +kernel
theorem dX12_weightOf_33 : decode cX12_weightOf 33 = .ok (.iload_n 0, 1) := by decide +kernel
theorem dX12_weightOf_34 : decode cX12_weightOf 34 = .ok (.iload_n 1, 1) := by decide +kernel
theorem dX12_weightOf_35 : decode cX12_weightOf 35 = .ok (.irem, 1) := by decide +kernel
theorem dX12_weightOf_36 : decode cX12_weightOf 36 = .ok (.ireturn, 1) := by decide +kernel
theorem dX12_isKeptBy_0 : decode cX12_isKeptBy 0 = .ok (.iconst 0, 1) := by decide +kernel
theorem dX12_isKeptBy_1 : decode cX12_isKeptBy 1 = .ok (.istore_n 3, 1) := by decide +kernel
theorem dX12_isKeptBy_2 : decode cX12_isKeptBy 2 = .ok (.iload_n 3, 1) := by decide +kernel
theorem dX12_isKeptBy_3 : decode cX12_isKeptBy 3 = .ok (.bipush 6, 2) := by decide +kernel
theorem dX12_isKeptBy_5 : decode cX12_isKeptBy 5 = .ok (.if_icmp .ge 102, 3) := by decide +kernel
theorem dX12_isKeptBy_8 : decode cX12_isKeptBy 8 = .ok (.iload_n 1, 1) := by decide +kernel
theorem dX12_isKeptBy_9 : decode cX12_isKeptBy 9 = .ok (.iload_n 2, 1) := by decide +kernel
theorem dX12_isKeptBy_10 : decode cX12_isKeptBy 10 = .ok (.iload_n 3, 1) := by decide +kernel
theorem dX12_isKeptBy_11 : decode cX12_isKeptBy 11 = .ok (.invokestatic 181, 3) := by decide +kernel
theorem dX12_isKeptBy_14 : decode cX12_isKeptBy 14 = .ok (.invokestatic 254, 3) := by decide +kernel
theorem dX12_isKeptBy_17 : decode cX12_isKeptBy 17 = .ok (.iload_n 1, 1) := by decide +kernel
theorem dX12_isKeptBy_18 : decode cX12_isKeptBy 18 = .ok (.iload_n 2, 1) := by decide +kernel
theorem dX12_isKeptBy_19 : decode cX12_isKeptBy 19 = .ok (.iload_n 3, 1) := by decide +kernel
theorem dX12_isKeptBy_20 : decode cX12_isKeptBy 20 = .ok (.invokestatic 184, 3) := by decide +kernel
theorem dX12_isKeptBy_23 : decode cX12_isKeptBy 23 = .ok (.invokestatic 254, 3) := by decide +kernel
theorem dX12_isKeptBy_26 : decode cX12_isKeptBy 26 = .ok (.iadd, 1) := by decide +kernel
theorem dX12_isKeptBy_27 : decode cX12_isKeptBy 27 = .ok (.istore 4, 2) := by decide +kernel
theorem dX12_isKeptBy_29 : decode cX12_isKeptBy 29 = .ok (.iload_n 1, 1) := by decide +kernel
theorem dX12_isKeptBy_30 : decode cX12_isKeptBy 30 = .ok (.iload_n 2, 1) := by decide +kernel
theorem dX12_isKeptBy_31 : decode cX12_isKeptBy 31 = .ok (.aload_n 0, 1) := by decide +kernel
theorem dX12_isKeptBy_32 : decode cX12_isKeptBy 32 = .ok (.getfield 22, 3) := by decide +kernel
theorem dX12_isKeptBy_35 : decode cX12_isKeptBy 35 = .ok (.iconst 3, 1) := by decide +kernel
theorem dX12_isKeptBy_36 : decode cX12_isKeptBy 36 = .ok (.iload_n 3, 1) := by decide +kernel
theorem dX12_isKeptBy_37 : decode cX12_isKeptBy 37 = .ok (.imul, 1) := by decide +kernel
theorem dX12_isKeptBy_38 : decode cX12_isKeptBy 38 = .ok (.iaload, 1) := by decide +kernel
theorem dX12_isKeptBy_39 : decode cX12_isKeptBy 39 = .ok (.invokestatic 254, 3) := by decide +kernel
theorem dX12_isKeptBy_42 : decode cX12_isKeptBy 42 = .ok (.iload_n 1, 1) := by decide +kernel
theorem dX12_isKeptBy_43 : decode cX12_isKeptBy 43 = .ok (.iload_n 2, 1) := by decide +kernel
theorem dX12_isKeptBy_44 : decode cX12_isKeptBy 44 = .ok (.aload_n 0, 1) := by decide +kernel
theorem dX12_isKeptBy_45 : decode cX12_isKeptBy 45 = .ok (.getfield 22, 3) := by decide +kernel
theorem dX12_isKeptBy_48 : decode cX12_isKeptBy 48 = .ok (.iconst 3, 1) := by decide +kernel
theorem dX12_isKeptBy_49 : decode cX12_isKeptBy 49 = .ok (.iload_n 3, 1) := by decide +kernel
theorem dX12_isKeptBy_50 : decode cX12_isKeptBy 50 = .ok (.imul, 1) := by decide +kernel
theorem dX12_isKeptBy_51 : decode cX12_isKeptBy 51 = .ok (.iconst 1, 1) := by decide +kernel
theorem dX12_isKeptBy_52 : decode cX12_isKeptBy 52 = .ok (.iadd, 1) := by decide +kernel
theorem dX12_isKeptBy_53 : decode cX12_isKeptBy 53 = .ok (.iaload, 1) := by decide +kernel
theorem dX12_isKeptBy_54 : decode cX12_isKeptBy 54 = .ok (.invokestatic 254, 3) := by decide +kernel
theorem dX12_isKeptBy_57 : decode cX12_isKeptBy 57 = .ok (.iadd, 1) := by decide +kernel
theorem dX12_isKeptBy_58 : decode cX12_isKeptBy 58 = .ok (.iload_n 1, 1) := by decide +kernel
theorem dX12_isKeptBy_59 : decode cX12_isKeptBy 59 = .ok (.iload_n 2, 1) := by decide +kernel
theorem dX12_isKeptBy_60 : decode cX12_isKeptBy 60 = .ok (.aload_n 0, 1) := by decide +kernel
theorem dX12_isKeptBy_61 : decode cX12_isKeptBy 61 = .ok (.getfield 22, 3) := by decide +kernel
theorem dX12_isKeptBy_64 : decode cX12_isKeptBy 64 = .ok (.iconst 3, 1) := by decide +kernel
theorem dX12_isKeptBy_65 : decode cX12_isKeptBy 65 = .ok (.iload_n 3, 1) := by decide +kernel
theorem dX12_isKeptBy_66 : decode cX12_isKeptBy 66 = .ok (.imul, 1) := by decide +kernel
theorem dX12_isKeptBy_67 : decode cX12_isKeptBy 67 = .ok (.iconst 2, 1) := by decide +kernel
theorem dX12_isKeptBy_68 : decode cX12_isKeptBy 68 = .ok (.iadd, 1) := by decide +kernel
theorem dX12_isKeptBy_69 : decode cX12_isKeptBy 69 = .ok (.iaload, 1) := by decide +kernel
theorem dX12_isKeptBy_70 : decode cX12_isKeptBy 70 = .ok (.invokestatic 254, 3) := by decide +kernel
theorem dX12_isKeptBy_73 : decode cX12_isKeptBy 73 = .ok (.iadd, 1) := by decide +kernel
theorem dX12_isKeptBy_74 : decode cX12_isKeptBy 74 = .ok (.istore 5, 2) := by decide +kernel
theorem dX12_isKeptBy_76 : decode cX12_isKeptBy 76 = .ok (.aload_n 0, 1) := by decide +kernel
theorem dX12_isKeptBy_77 : decode cX12_isKeptBy 77 = .ok (.getfield 7, 3) := by decide +kernel
theorem dX12_isKeptBy_80 : decode cX12_isKeptBy 80 = .ok (.bipush 15, 2) := by decide +kernel
theorem dX12_isKeptBy_82 : decode cX12_isKeptBy 82 = .ok (.iload_n 3, 1) := by decide +kernel
theorem dX12_isKeptBy_83 : decode cX12_isKeptBy 83 = .ok (.iadd, 1) := by decide +kernel
theorem dX12_isKeptBy_84 : decode cX12_isKeptBy 84 = .ok (.iaload, 1) := by decide +kernel
theorem dX12_isKeptBy_85 : decode cX12_isKeptBy 85 = .ok (.ifCond .ne 16, 3) := by decide +kernel
theorem dX12_isKeptBy_88 : decode cX12_isKeptBy 88 = .ok (.iload 4, 2) := by decide +kernel
theorem dX12_isKeptBy_90 : decode cX12_isKeptBy 90 = .ok (.iload_n 2, 1) := by decide +kernel
theorem dX12_isKeptBy_91 : decode cX12_isKeptBy 91 = .ok (.irem, 1) := by decide +kernel
theorem dX12_isKeptBy_92 : decode cX12_isKeptBy 92 = .ok (.iload 5, 2) := by decide +kernel
theorem dX12_isKeptBy_94 : decode cX12_isKeptBy 94 = .ok (.iload_n 2, 1) := by decide +kernel
theorem dX12_isKeptBy_95 : decode cX12_isKeptBy 95 = .ok (.irem, 1) := by decide +kernel
theorem dX12_isKeptBy_96 : decode cX12_isKeptBy 96 = .ok (.if_icmp .eq 5, 3) := by decide +kernel
theorem dX12_isKeptBy_99 : decode cX12_isKeptBy 99 = .ok (.iconst 0, 1) := by decide +kernel
theorem dX12_isKeptBy_100 : decode cX12_isKeptBy 100 = .ok (.ireturn, 1) := by decide +kernel
theorem dX12_isKeptBy_101 : decode cX12_isKeptBy 101 = .ok (.iinc 3 1, 3) := by decide +kernel
theorem dX12_isKeptBy_104 : decode cX12_isKeptBy 104 = .ok (.goto (-102), 3) := by decide +kernel
theorem dX12_isKeptBy_107 : decode cX12_isKeptBy 107 = .ok (.iconst 1, 1) := by decide +kernel
theorem dX12_isKeptBy_108 : decode cX12_isKeptBy 108 = .ok (.ireturn, 1) := by decide +kernel
theorem dX12_stays_0 : decode cX12_stays 0 = .ok (.iload_n 1, 1) := by decide +kernel
theorem dX12_stays_1 : decode cX12_stays 1 = .ok (.i2l, 1) := by decide +kernel
theorem dX12_stays_2 : decode cX12_stays 2 = .ok (.ldc2_w 76, 3) := by decide +kernel
theorem dX12_stays_5 : decode cX12_stays 5 = .ok (.ldc2_w 82, 3) := by decide +kernel
theorem dX12_stays_8 : decode cX12_stays 8 = .ok (.invokestatic 78, 3) := by decide +kernel
theorem dX12_stays_11 : decode cX12_stays 11 = .ok (.ifCond .eq 8, 3) := by decide +kernel
theorem dX12_stays_14 : decode cX12_stays 14 = .ok (.iload_n 2, 1) := by decide +kernel
theorem dX12_stays_15 : decode cX12_stays 15 = .ok (.iconst (-1), 1) := by decide +kernel
theorem dX12_stays_16 : decode cX12_stays 16 = .ok (.if_icmp .ge 9, 3) := by decide +kernel
theorem dX12_stays_19 : decode cX12_stays 19 = .ok (.aload_n 0, 1) := by decide +kernel
theorem dX12_stays_20 : decode cX12_stays 20 = .ok (.iconst 1, 1) := by decide +kernel
theorem dX12_stays_21 : decode cX12_stays 21 = .ok (.invokevirtual 152, 3) := by decide +kernel
theorem dX12_stays_24 : decode cX12_stays 24 = .ok (.ireturn, 1) := by decide +kernel
theorem dX12_stays_25 : decode cX12_stays 25 = .ok (.aload_n 0, 1) := by decide +kernel
theorem dX12_stays_26 : decode cX12_stays 26 = .ok (.invokevirtual 203, 3) := by decide +kernel
theorem dX12_stays_29 : decode cX12_stays 29 = .ok (.iconst 0, 1) := by decide +kernel
theorem dX12_stays_30 : decode cX12_stays 30 = .ok (.istore_n 3, 1) := by decide +kernel
theorem dX12_stays_31 : decode cX12_stays 31 = .ok (.iconst 0, 1) := by decide +kernel
theorem dX12_stays_32 : decode cX12_stays 32 = .ok (.istore 4, 2) := by decide +kernel
theorem dX12_stays_34 : decode cX12_stays 34 = .ok (.iload 4, 2) := by decide +kernel
theorem dX12_stays_36 : decode cX12_stays 36 = .ok (.iload_n 1, 1) := by decide +kernel
theorem dX12_stays_37 : decode cX12_stays 37 = .ok (.iload_n 1, 1) := by decide +kernel
theorem dX12_stays_38 : decode cX12_stays 38 = .ok (.imul, 1) := by decide +kernel
theorem dX12_stays_39 : decode cX12_stays 39 = .ok (.iload_n 1, 1) := by decide +kernel
theorem dX12_stays_40 : decode cX12_stays 40 = .ok (.imul, 1) := by decide +kernel
theorem dX12_stays_41 : decode cX12_stays 41 = .ok (.if_icmp .ge 51, 3) := by decide +kernel
theorem dX12_stays_44 : decode cX12_stays 44 = .ok (.aload_n 0, 1) := by decide +kernel
theorem dX12_stays_45 : decode cX12_stays 45 = .ok (.iload 4, 2) := by decide +kernel
theorem dX12_stays_47 : decode cX12_stays 47 = .ok (.iload_n 1, 1) := by decide +kernel
theorem dX12_stays_48 : decode cX12_stays 48 = .ok (.invokevirtual 257, 3) := by decide +kernel
theorem dX12_stays_51 : decode cX12_stays 51 = .ok (.istore 5, 2) := by decide +kernel
theorem dX12_stays_53 : decode cX12_stays 53 = .ok (.iload 5, 2) := by decide +kernel
theorem dX12_stays_55 : decode cX12_stays 55 = .ok (.ifCond .eq 18, 3) := by decide +kernel
theorem dX12_stays_58 : decode cX12_stays 58 = .ok (.iload 4, 2) := by decide +kernel
theorem dX12_stays_60 : decode cX12_stays 60 = .ok (.ifCond .le 13, 3) := by decide +kernel
theorem dX12_stays_63 : decode cX12_stays 63 = .ok (.iload_n 3, 1) := by decide +kernel
theorem dX12_stays_64 : decode cX12_stays 64 = .ok (.iconst 1, 1) := by decide +kernel
theorem dX12_stays_65 : decode cX12_stays 65 = .ok (.isub, 1) := by decide +kernel
theorem dX12_stays_66 : decode cX12_stays 66 = .ok (.iload_n 2, 1) := by decide +kernel
theorem dX12_stays_67 : decode cX12_stays 67 = .ok (.if_icmp .ne 6, 3) := by decide +kernel
theorem dX12_stays_70 : decode cX12_stays 70 = .ok (.iload 4, 2) := by decide +kernel
theorem dX12_stays_72 : decode cX12_stays 72 = .ok (.ireturn, 1) := by decide +kernel
theorem dX12_stays_73 : decode cX12_stays 73 = .ok (.iload_n 3, 1) := by decide +kernel
theorem dX12_stays_74 : decode cX12_stays 74 = .ok (.iload 5, 2) := by decide +kernel
theorem dX12_stays_76 : decode cX12_stays 76 = .ok (.ifCond .eq 7, 3) := by decide +kernel
theorem dX12_stays_79 : decode cX12_stays 79 = .ok (.iconst 1, 1) := by decide +kernel
theorem dX12_stays_80 : decode cX12_stays 80 = .ok (.goto 4, 3) := by decide +kernel
theorem dX12_stays_83 : decode cX12_stays 83 = .ok (.iconst 0, 1) := by decide +kernel
theorem dX12_stays_84 : decode cX12_stays 84 = .ok (.iadd, 1) := by decide +kernel
theorem dX12_stays_85 : decode cX12_stays 85 = .ok (.istore_n 3, 1) := by decide +kernel
theorem dX12_stays_86 : decode cX12_stays 86 = .ok (.iinc 4 1, 3) := by decide +kernel
theorem dX12_stays_89 : decode cX12_stays 89 = .ok (.goto (-55), 3) := by decide +kernel
theorem dX12_stays_92 : decode cX12_stays 92 = .ok (.iload_n 2, 1) := by decide +kernel
theorem dX12_stays_93 : decode cX12_stays 93 = .ok (.ifCond .ge 7, 3) := by decide +kernel
theorem dX12_stays_96 : decode cX12_stays 96 = .ok (.iload_n 3, 1) := by decide +kernel
theorem dX12_stays_97 : decode cX12_stays 97 = .ok (.goto 8, 3) := by decide +kernel
theorem dX12_stays_100 : decode cX12_stays 100 = .ok (.aload_n 0, 1) := by decide +kernel
theorem dX12_stays_101 : decode cX12_stays 101 = .ok (.iconst 2, 1) := by decide +kernel
theorem dX12_stays_102 : decode cX12_stays 102 = .ok (.invokevirtual 152, 3) := by decide +kernel
theorem dX12_stays_105 : decode cX12_stays 105 = .ok (.ireturn, 1) := by decide +kernel
theorem dX12_bars_0 : decode cX12_bars 0 = .ok (.iload_n 1, 1) := by decide +kernel
theorem dX12_bars_1 : decode cX12_bars 1 = .ok (.invokestatic 168, 3) := by decide +kernel
theorem dX12_bars_4 : decode cX12_bars 4 = .ok (.ifCond .eq 17, 3) := by decide +kernel
theorem dX12_bars_7 : decode cX12_bars 7 = .ok (.iload_n 2, 1) := by decide +kernel
theorem dX12_bars_8 : decode cX12_bars 8 = .ok (.i2l, 1) := by decide +kernel
theorem dX12_bars_9 : decode cX12_bars 9 = .ok (.ldc2_w 76, 3) := by decide +kernel
theorem dX12_bars_12 : decode cX12_bars 12 = .ok (.ldc2_w 82, 3) := by decide +kernel
theorem dX12_bars_15 : decode cX12_bars 15 = .ok (.invokestatic 78, 3) := by decide +kernel
theorem dX12_bars_18 : decode cX12_bars 18 = .ok (.ifCond .ne 9, 3) := by decide +kernel
theorem dX12_bars_21 : decode cX12_bars 21 = .ok (.aload_n 0, 1) := by decide +kernel
theorem dX12_bars_22 : decode cX12_bars 22 = .ok (.iconst 1, 1) := by decide +kernel
