theorem dX6_leadsToMark_20 : decode cX6_leadsToMark 20 = .ok (.aload_n 0, 1) := by decide +kernel
theorem dX6_leadsToMark_21 : decode cX6_leadsToMark 21 = .ok (.getfield 34, 3) := by decide +kernel
theorem dX6_leadsToMark_24 : decode cX6_leadsToMark 24 = .ok (.iload_n 3, 1) := by decide +kernel
theorem dX6_leadsToMark_25 : decode cX6_leadsToMark 25 = .ok (.iaload, 1) := by decide +kernel
theorem dX6_leadsToMark_26 : decode cX6_leadsToMark 26 = .ok (.iconst 1, 1) := by decide +kernel
theorem dX6_leadsToMark_27 : decode cX6_leadsToMark 27 = .ok (.if_icmp .ne 5, 3) := by decide +kernel
theorem dX6_leadsToMark_30 : decode cX6_leadsToMark 30 = .ok (.iconst 1, 1) := by decide +kernel
theorem dX6_leadsToMark_31 : decode cX6_leadsToMark 31 = .ok (.ireturn, 1) := by decide +kernel
theorem dX6_leadsToMark_32 : decode cX6_leadsToMark 32 = .ok (.iinc 2 1, 3) := by decide +kernel
theorem dX6_leadsToMark_35 : decode cX6_leadsToMark 35 = .ok (.goto (-33), 3) := by decide +kernel
theorem dX6_leadsToMark_38 : decode cX6_leadsToMark 38 = .ok (.iconst 0, 1) := by decide +kernel
theorem dX6_leadsToMark_39 : decode cX6_leadsToMark 39 = .ok (.ireturn, 1) := by decide +kernel
theorem dX6_originsInAll_0 : decode cX6_originsInAll 0 = .ok (.iconst 0, 1) := by decide +kernel
theorem dX6_originsInAll_1 : decode cX6_originsInAll 1 = .ok (.istore_n 1, 1) := by decide +kernel
theorem dX6_originsInAll_2 : decode cX6_originsInAll 2 = .ok (.iconst 0, 1) := by decide +kernel
theorem dX6_originsInAll_3 : decode cX6_originsInAll 3 = .ok (.istore_n 2, 1) := by decide +kernel
theorem dX6_originsInAll_4 : decode cX6_originsInAll 4 = .ok (.iload_n 2, 1) := by decide +kernel
theorem dX6_originsInAll_5 : decode cX6_originsInAll 5 = .ok (.sipush 455, 3) := by decide +kernel
theorem dX6_originsInAll_8 : decode cX6_originsInAll 8 = .ok (.if_icmp .ge 18, 3) := by decide +kernel
theorem dX6_originsInAll_11 : decode cX6_originsInAll 11 = .ok (.iload_n 1, 1) := by decide +kernel
theorem dX6_originsInAll_12 : decode cX6_originsInAll 12 = .ok (.aload_n 0, 1) := by decide +kernel
theorem dX6_originsInAll_13 : decode cX6_originsInAll 13 = .ok (.getfield 34, 3) := by decide +kernel
theorem dX6_originsInAll_16 : decode cX6_originsInAll 16 = .ok (.iload_n 2, 1) := by decide +kernel
theorem dX6_originsInAll_17 : decode cX6_originsInAll 17 = .ok (.iaload, 1) := by decide +kernel
theorem dX6_originsInAll_18 : decode cX6_originsInAll 18 = .ok (.iadd, 1) := by decide +kernel
theorem dX6_originsInAll_19 : decode cX6_originsInAll 19 = .ok (.istore_n 1, 1) := by decide +kernel
theorem dX6_originsInAll_20 : decode cX6_originsInAll 20 = .ok (.iinc 2 1, 3) := by decide +kernel
theorem dX6_originsInAll_23 : decode cX6_originsInAll 23 = .ok (.goto (-19), 3) := by decide +kernel
theorem dX6_originsInAll_26 : decode cX6_originsInAll 26 = .ok (.iload_n 1, 1) := by decide +kernel
theorem dX6_originsInAll_27 : decode cX6_originsInAll 27 = .ok (.ireturn, 1) := by decide +kernel
theorem dX6_leastOrigin_0 : decode cX6_leastOrigin 0 = .ok (.iconst 0, 1) := by decide +kernel
theorem dX6_leastOrigin_1 : decode cX6_leastOrigin 1 = .ok (.istore_n 1, 1) := by decide +kernel
theorem dX6_leastOrigin_2 : decode cX6_leastOrigin 2 = .ok (.iload_n 1, 1) := by decide +kernel
theorem dX6_leastOrigin_3 : decode cX6_leastOrigin 3 = .ok (.sipush 455, 3) := by decide +kernel
theorem dX6_leastOrigin_6 : decode cX6_leastOrigin 6 = .ok (.if_icmp .ge 26, 3) := by decide +kernel
theorem dX6_leastOrigin_9 : decode cX6_leastOrigin 9 = .ok (.aload_n 0, 1) := by decide +kernel
theorem dX6_leastOrigin_10 : decode cX6_leastOrigin 10 = .ok (.getfield 34, 3) := by decide +kernel
theorem dX6_leastOrigin_13 : decode cX6_leastOrigin 13 = .ok (.iload_n 1, 1) := by decide +kernel
theorem dX6_leastOrigin_14 : decode cX6_leastOrigin 14 = .ok (.iaload, 1) := by decide +kernel
theorem dX6_leastOrigin_15 : decode cX6_leastOrigin 15 = .ok (.iconst 1, 1) := by decide +kernel
theorem dX6_leastOrigin_16 : decode cX6_leastOrigin 16 = .ok (.if_icmp .ne 10, 3) := by decide +kernel
theorem dX6_leastOrigin_19 : decode cX6_leastOrigin 19 = .ok (.aload_n 0, 1) := by decide +kernel
theorem dX6_leastOrigin_20 : decode cX6_leastOrigin 20 = .ok (.getfield 18, 3) := by decide +kernel
theorem dX6_leastOrigin_23 : decode cX6_leastOrigin 23 = .ok (.iload_n 1, 1) := by decide +kernel
theorem dX6_leastOrigin_24 : decode cX6_leastOrigin 24 = .ok (.iaload, 1) := by decide +kernel
theorem dX6_leastOrigin_25 : decode cX6_leastOrigin 25 = .ok (.ireturn, 1) := by decide +kernel
theorem dX6_leastOrigin_26 : decode cX6_leastOrigin 26 = .ok (.iinc 1 1, 3) := by decide +kernel
theorem dX6_leastOrigin_29 : decode cX6_leastOrigin 29 = .ok (.goto (-27), 3) := by decide +kernel
theorem dX6_leastOrigin_32 : decode cX6_leastOrigin 32 = .ok (.iconst (-1), 1) := by decide +kernel
theorem dX6_leastOrigin_33 : decode cX6_leastOrigin 33 = .ok (.ireturn, 1) := by decide +kernel
theorem dX6_turnsToForce_0 : decode cX6_turnsToForce 0 = .ok (.aload_n 0, 1) := by decide +kernel
theorem dX6_turnsToForce_1 : decode cX6_turnsToForce 1 = .ok (.invokevirtual 119, 3) := by decide +kernel
theorem dX6_turnsToForce_4 : decode cX6_turnsToForce 4 = .ok (.iconst 0, 1) := by decide +kernel
theorem dX6_turnsToForce_5 : decode cX6_turnsToForce 5 = .ok (.istore_n 2, 1) := by decide +kernel
theorem dX6_turnsToForce_6 : decode cX6_turnsToForce 6 = .ok (.iload_n 2, 1) := by decide +kernel
theorem dX6_turnsToForce_7 : decode cX6_turnsToForce 7 = .ok (.aload_n 0, 1) := by decide +kernel
theorem dX6_turnsToForce_8 : decode cX6_turnsToForce 8 = .ok (.getfield 74, 3) := by decide +kernel
theorem dX6_turnsToForce_11 : decode cX6_turnsToForce 11 = .ok (.if_icmp .ge 53, 3) := by decide +kernel
theorem dX6_turnsToForce_14 : decode cX6_turnsToForce 14 = .ok (.aload_n 0, 1) := by decide +kernel
theorem dX6_turnsToForce_15 : decode cX6_turnsToForce 15 = .ok (.getfield 25, 3) := by decide +kernel
theorem dX6_turnsToForce_18 : decode cX6_turnsToForce 18 = .ok (.iload_n 2, 1) := by decide +kernel
theorem dX6_turnsToForce_19 : decode cX6_turnsToForce 19 = .ok (.iaload, 1) := by decide +kernel
theorem dX6_turnsToForce_20 : decode cX6_turnsToForce 20 = .ok (.istore_n 3, 1) := by decide +kernel
theorem dX6_turnsToForce_21 : decode cX6_turnsToForce 21 = .ok (.aload_n 0, 1) := by decide +kernel
theorem dX6_turnsToForce_22 : decode cX6_turnsToForce 22 = .ok (.getfield 34, 3) := by decide +kernel
theorem dX6_turnsToForce_25 : decode cX6_turnsToForce 25 = .ok (.iload_n 3, 1) := by decide +kernel
theorem dX6_turnsToForce_26 : decode cX6_turnsToForce 26 = .ok (.aload_n 0, 1) := by decide +kernel
theorem dX6_turnsToForce_27 : decode cX6_turnsToForce 27 = .ok (.getfield 18, 3) := by decide +kernel
theorem dX6_turnsToForce_30 : decode cX6_turnsToForce 30 = .ok (.iload_n 3, 1) := by decide +kernel
theorem dX6_turnsToForce_31 : decode cX6_turnsToForce 31 = .ok (.iaload, 1) := by decide +kernel
theorem dX6_turnsToForce_32 : decode cX6_turnsToForce 32 = .ok (.iload_n 1, 1) := by decide +kernel
theorem dX6_turnsToForce_33 : decode cX6_turnsToForce 33 = .ok (.invokestatic 136, 3) := by decide +kernel
theorem dX6_turnsToForce_36 : decode cX6_turnsToForce 36 = .ok (.ifCond .eq 7, 3) := by decide +kernel
theorem dX6_turnsToForce_39 : decode cX6_turnsToForce 39 = .ok (.iconst 0, 1) := by decide +kernel
theorem dX6_turnsToForce_40 : decode cX6_turnsToForce 40 = .ok (.goto 5, 3) := by decide +kernel
theorem dX6_turnsToForce_43 : decode cX6_turnsToForce 43 = .ok (.bipush 99, 2) := by decide +kernel
theorem dX6_turnsToForce_45 : decode cX6_turnsToForce 45 = .ok (.iastore, 1) := by decide +kernel
theorem dX6_turnsToForce_46 : decode cX6_turnsToForce 46 = .ok (.aload_n 0, 1) := by decide +kernel
theorem dX6_turnsToForce_47 : decode cX6_turnsToForce 47 = .ok (.getfield 37, 3) := by decide +kernel
theorem dX6_turnsToForce_50 : decode cX6_turnsToForce 50 = .ok (.iload_n 3, 1) := by decide +kernel
theorem dX6_turnsToForce_51 : decode cX6_turnsToForce 51 = .ok (.aload_n 0, 1) := by decide +kernel
theorem dX6_turnsToForce_52 : decode cX6_turnsToForce 52 = .ok (.getfield 34, 3) := by decide +kernel
theorem dX6_turnsToForce_55 : decode cX6_turnsToForce 55 = .ok (.iload_n 3, 1) := by decide +kernel
theorem dX6_turnsToForce_56 : decode cX6_turnsToForce 56 = .ok (.iaload, 1) := by decide +kernel
theorem dX6_turnsToForce_57 : decode cX6_turnsToForce 57 = .ok (.iastore, 1) := by decide +kernel
theorem dX6_turnsToForce_58 : decode cX6_turnsToForce 58 = .ok (.iinc 2 1, 3) := by decide +kernel
theorem dX6_turnsToForce_61 : decode cX6_turnsToForce 61 = .ok (.goto (-55), 3) := by decide +kernel
theorem dX6_turnsToForce_64 : decode cX6_turnsToForce 64 = .ok (.aload_n 0, 1) := by decide +kernel
theorem dX6_turnsToForce_65 : decode cX6_turnsToForce 65 = .ok (.getfield 25, 3) := by decide +kernel
theorem dX6_turnsToForce_68 : decode cX6_turnsToForce 68 = .ok (.iconst 0, 1) := by decide +kernel
theorem dX6_turnsToForce_69 : decode cX6_turnsToForce 69 = .ok (.iaload, 1) := by decide +kernel
theorem dX6_turnsToForce_70 : decode cX6_turnsToForce 70 = .ok (.istore_n 2, 1) := by decide +kernel
theorem dX6_turnsToForce_71 : decode cX6_turnsToForce 71 = .ok (.iconst 1, 1) := by decide +kernel
theorem dX6_turnsToForce_72 : decode cX6_turnsToForce 72 = .ok (.istore_n 3, 1) := by decide +kernel
theorem dX6_turnsToForce_73 : decode cX6_turnsToForce 73 = .ok (.iload_n 3, 1) := by decide +kernel
theorem dX6_turnsToForce_74 : decode cX6_turnsToForce 74 = .ok (.bipush 10, 2) := by decide +kernel
theorem dX6_turnsToForce_76 : decode cX6_turnsToForce 76 = .ok (.if_icmp .gt 50, 3) := by decide +kernel
theorem dX6_turnsToForce_79 : decode cX6_turnsToForce 79 = .ok (.aload_n 0, 1) := by decide +kernel
theorem dX6_turnsToForce_80 : decode cX6_turnsToForce 80 = .ok (.getfield 34, 3) := by decide +kernel
theorem dX6_turnsToForce_83 : decode cX6_turnsToForce 83 = .ok (.iload_n 2, 1) := by decide +kernel
theorem dX6_turnsToForce_84 : decode cX6_turnsToForce 84 = .ok (.iaload, 1) := by decide +kernel
theorem dX6_turnsToForce_85 : decode cX6_turnsToForce 85 = .ok (.bipush 99, 2) := by decide +kernel
theorem dX6_turnsToForce_87 : decode cX6_turnsToForce 87 = .ok (.if_icmp .ne 39, 3) := by decide +kernel
theorem dX6_turnsToForce_90 : decode cX6_turnsToForce 90 = .ok (.iconst 0, 1) := by decide +kernel
theorem dX6_turnsToForce_91 : decode cX6_turnsToForce 91 = .ok (.istore 4, 2) := by decide +kernel
theorem dX6_turnsToForce_93 : decode cX6_turnsToForce 93 = .ok (.iload 4, 2) := by decide +kernel
theorem dX6_turnsToForce_95 : decode cX6_turnsToForce 95 = .ok (.aload_n 0, 1) := by decide +kernel
theorem dX6_turnsToForce_96 : decode cX6_turnsToForce 96 = .ok (.getfield 74, 3) := by decide +kernel
theorem dX6_turnsToForce_99 : decode cX6_turnsToForce 99 = .ok (.if_icmp .ge 21, 3) := by decide +kernel
theorem dX6_turnsToForce_102 : decode cX6_turnsToForce 102 = .ok (.aload_n 0, 1) := by decide +kernel
theorem dX6_turnsToForce_103 : decode cX6_turnsToForce 103 = .ok (.iload_n 3, 1) := by decide +kernel
theorem dX6_turnsToForce_104 : decode cX6_turnsToForce 104 = .ok (.aload_n 0, 1) := by decide +kernel
theorem dX6_turnsToForce_105 : decode cX6_turnsToForce 105 = .ok (.getfield 25, 3) := by decide +kernel
theorem dX6_turnsToForce_108 : decode cX6_turnsToForce 108 = .ok (.iload 4, 2) := by decide +kernel
theorem dX6_turnsToForce_110 : decode cX6_turnsToForce 110 = .ok (.iaload, 1) := by decide +kernel
theorem dX6_turnsToForce_111 : decode cX6_turnsToForce 111 = .ok (.invokevirtual 140, 3) := by decide +kernel
theorem dX6_turnsToForce_114 : decode cX6_turnsToForce 114 = .ok (.iinc 4 1, 3) := by decide +kernel
theorem dX6_turnsToForce_117 : decode cX6_turnsToForce 117 = .ok (.goto (-24), 3) := by decide +kernel
theorem dX6_turnsToForce_120 : decode cX6_turnsToForce 120 = .ok (.iinc 3 1, 3) := by decide +kernel
theorem dX6_turnsToForce_123 : decode cX6_turnsToForce 123 = .ok (.goto (-50), 3) := by decide +kernel
theorem dX6_turnsToForce_126 : decode cX6_turnsToForce 126 = .ok (.aload_n 0, 1) := by decide +kernel
theorem dX6_turnsToForce_127 : decode cX6_turnsToForce 127 = .ok (.getfield 34, 3) := by decide +kernel
theorem dX6_turnsToForce_130 : decode cX6_turnsToForce 130 = .ok (.iload_n 2, 1) := by decide +kernel
theorem dX6_turnsToForce_131 : decode cX6_turnsToForce 131 = .ok (.iaload, 1) := by decide +kernel
theorem dX6_turnsToForce_132 : decode cX6_turnsToForce 132 = .ok (.bipush 99, 2) := by decide +kernel
theorem dX6_turnsToForce_134 : decode cX6_turnsToForce 134 = .ok (.if_icmp .ne 7, 3) := by decide +kernel
theorem dX6_turnsToForce_137 : decode cX6_turnsToForce 137 = .ok (.iconst (-1), 1) := by decide +kernel
theorem dX6_turnsToForce_138 : decode cX6_turnsToForce 138 = .ok (.goto 9, 3) := by decide +kernel
theorem dX6_turnsToForce_141 : decode cX6_turnsToForce 141 = .ok (.aload_n 0, 1) := by decide +kernel
theorem dX6_turnsToForce_142 : decode cX6_turnsToForce 142 = .ok (.getfield 34, 3) := by decide +kernel
theorem dX6_turnsToForce_145 : decode cX6_turnsToForce 145 = .ok (.iload_n 2, 1) := by decide +kernel
theorem dX6_turnsToForce_146 : decode cX6_turnsToForce 146 = .ok (.iaload, 1) := by decide +kernel
theorem dX6_turnsToForce_147 : decode cX6_turnsToForce 147 = .ok (.ireturn, 1) := by decide +kernel
theorem dX6_forceWithin_0 : decode cX6_forceWithin 0 = .ok (.iconst 0, 1) := by decide +kernel
theorem dX6_forceWithin_1 : decode cX6_forceWithin 1 = .ok (.istore_n 3, 1) := by decide +kernel
theorem dX6_forceWithin_2 : decode cX6_forceWithin 2 = .ok (.iconst 0, 1) := by decide +kernel
theorem dX6_forceWithin_3 : decode cX6_forceWithin 3 = .ok (.istore 4, 2) := by decide +kernel
theorem dX6_forceWithin_5 : decode cX6_forceWithin 5 = .ok (.iconst 1, 1) := by decide +kernel
theorem dX6_forceWithin_6 : decode cX6_forceWithin 6 = .ok (.istore 5, 2) := by decide +kernel
theorem dX6_forceWithin_8 : decode cX6_forceWithin 8 = .ok (.iconst 0, 1) := by decide +kernel
theorem dX6_forceWithin_9 : decode cX6_forceWithin 9 = .ok (.istore 6, 2) := by decide +kernel
theorem dX6_forceWithin_11 : decode cX6_forceWithin 11 = .ok (.iload 6, 2) := by decide +kernel
theorem dX6_forceWithin_13 : decode cX6_forceWithin 13 = .ok (.bipush 6, 2) := by decide +kernel
theorem dX6_forceWithin_15 : decode cX6_forceWithin 15 = .ok (.if_icmp .ge 67, 3) := by decide +kernel
theorem dX6_forceWithin_18 : decode cX6_forceWithin 18 = .ok (.aload_n 0, 1) := by decide +kernel
theorem dX6_forceWithin_19 : decode cX6_forceWithin 19 = .ok (.iload_n 2, 1) := by decide +kernel
theorem dX6_forceWithin_20 : decode cX6_forceWithin 20 = .ok (.iload 6, 2) := by decide +kernel
theorem dX6_forceWithin_22 : decode cX6_forceWithin 22 = .ok (.invokevirtual 85, 3) := by decide +kernel
theorem dX6_forceWithin_25 : decode cX6_forceWithin 25 = .ok (.istore 7, 2) := by decide +kernel
theorem dX6_forceWithin_27 : decode cX6_forceWithin 27 = .ok (.iload 7, 2) := by decide +kernel
theorem dX6_forceWithin_29 : decode cX6_forceWithin 29 = .ok (.iconst (-1), 1) := by decide +kernel
theorem dX6_forceWithin_30 : decode cX6_forceWithin 30 = .ok (.if_icmp .eq 46, 3) := by decide +kernel
theorem dX6_forceWithin_33 : decode cX6_forceWithin 33 = .ok (.iconst 1, 1) := by decide +kernel
theorem dX6_forceWithin_34 : decode cX6_forceWithin 34 = .ok (.istore 4, 2) := by decide +kernel
theorem dX6_forceWithin_36 : decode cX6_forceWithin 36 = .ok (.iload_n 3, 1) := by decide +kernel
theorem dX6_forceWithin_37 : decode cX6_forceWithin 37 = .ok (.aload_n 0, 1) := by decide +kernel
theorem dX6_forceWithin_38 : decode cX6_forceWithin 38 = .ok (.getfield 37, 3) := by decide +kernel
theorem dX6_forceWithin_41 : decode cX6_forceWithin 41 = .ok (.iload 7, 2) := by decide +kernel
theorem dX6_forceWithin_43 : decode cX6_forceWithin 43 = .ok (.iaload, 1) := by decide +kernel
theorem dX6_forceWithin_44 : decode cX6_forceWithin 44 = .ok (.iload_n 1, 1) := by decide +kernel
theorem dX6_forceWithin_45 : decode cX6_forceWithin 45 = .ok (.if_icmp .ge 7, 3) := by decide +kernel
theorem dX6_forceWithin_48 : decode cX6_forceWithin 48 = .ok (.iconst 1, 1) := by decide +kernel
theorem dX6_forceWithin_49 : decode cX6_forceWithin 49 = .ok (.goto 4, 3) := by decide +kernel
theorem dX6_forceWithin_52 : decode cX6_forceWithin 52 = .ok (.iconst 0, 1) := by decide +kernel
theorem dX6_forceWithin_53 : decode cX6_forceWithin 53 = .ok (.ior, 1) := by decide +kernel
theorem dX6_forceWithin_54 : decode cX6_forceWithin 54 = .ok (.istore_n 3, 1) := by decide +kernel
theorem dX6_forceWithin_55 : decode cX6_forceWithin 55 = .ok (.iload 5, 2) := by decide +kernel
theorem dX6_forceWithin_57 : decode cX6_forceWithin 57 = .ok (.aload_n 0, 1) := by decide +kernel
theorem dX6_forceWithin_58 : decode cX6_forceWithin 58 = .ok (.getfield 34, 3) := by decide +kernel
theorem dX6_forceWithin_61 : decode cX6_forceWithin 61 = .ok (.iload 7, 2) := by decide +kernel
theorem dX6_forceWithin_63 : decode cX6_forceWithin 63 = .ok (.iaload, 1) := by decide +kernel
theorem dX6_forceWithin_64 : decode cX6_forceWithin 64 = .ok (.iload_n 1, 1) := by decide +kernel
theorem dX6_forceWithin_65 : decode cX6_forceWithin 65 = .ok (.if_icmp .ge 7, 3) := by decide +kernel
theorem dX6_forceWithin_68 : decode cX6_forceWithin 68 = .ok (.iconst 1, 1) := by decide +kernel
theorem dX6_forceWithin_69 : decode cX6_forceWithin 69 = .ok (.goto 4, 3) := by decide +kernel
theorem dX6_forceWithin_72 : decode cX6_forceWithin 72 = .ok (.iconst 0, 1) := by decide +kernel
theorem dX6_forceWithin_73 : decode cX6_forceWithin 73 = .ok (.iand, 1) := by decide +kernel
theorem dX6_forceWithin_74 : decode cX6_forceWithin 74 = .ok (.istore 5, 2) := by decide +kernel
theorem dX6_forceWithin_76 : decode cX6_forceWithin 76 = .ok (.iinc 6 1, 3) := by decide +kernel
theorem dX6_forceWithin_79 : decode cX6_forceWithin 79 = .ok (.goto (-68), 3) := by decide +kernel
theorem dX6_forceWithin_82 : decode cX6_forceWithin 82 = .ok (.iload_n 3, 1) := by decide +kernel
theorem dX6_forceWithin_83 : decode cX6_forceWithin 83 = .ok (.ifCond .eq 21, 3) := by decide +kernel
theorem dX6_forceWithin_86 : decode cX6_forceWithin 86 = .ok (.aload_n 0, 1) := by decide +kernel
theorem dX6_forceWithin_87 : decode cX6_forceWithin 87 = .ok (.getfield 34, 3) := by decide +kernel
theorem dX6_forceWithin_90 : decode cX6_forceWithin 90 = .ok (.iload_n 2, 1) := by decide +kernel
theorem dX6_forceWithin_91 : decode cX6_forceWithin 91 = .ok (.iaload, 1) := by decide +kernel
theorem dX6_forceWithin_92 : decode cX6_forceWithin 92 = .ok (.bipush 99, 2) := by decide +kernel
theorem dX6_forceWithin_94 : decode cX6_forceWithin 94 = .ok (.if_icmp .ne 10, 3) := by decide +kernel
theorem dX6_forceWithin_97 : decode cX6_forceWithin 97 = .ok (.aload_n 0, 1) := by decide +kernel
theorem dX6_forceWithin_98 : decode cX6_forceWithin 98 = .ok (.getfield 34, 3) := by decide +kernel
theorem dX6_forceWithin_101 : decode cX6_forceWithin 101 = .ok (.iload_n 2, 1) := by decide +kernel
theorem dX6_forceWithin_102 : decode cX6_forceWithin 102 = .ok (.iload_n 1, 1) := by decide +kernel
theorem dX6_forceWithin_103 : decode cX6_forceWithin 103 = .ok (.iastore, 1) := by decide +kernel
theorem dX6_forceWithin_104 : decode cX6_forceWithin 104 = .ok (.iload 4, 2) := by decide +kernel
theorem dX6_forceWithin_106 : decode cX6_forceWithin 106 = .ok (.ifCond .eq 26, 3) := by decide +kernel
theorem dX6_forceWithin_109 : decode cX6_forceWithin 109 = .ok (.iload 5, 2) := by decide +kernel
theorem dX6_forceWithin_111 : decode cX6_forceWithin 111 = .ok (.ifCond .eq 21, 3) := by decide +kernel
theorem dX6_forceWithin_114 : decode cX6_forceWithin 114 = .ok (.aload_n 0, 1) := by decide +kernel
theorem dX6_forceWithin_115 : decode cX6_forceWithin 115 = .ok (.getfield 37, 3) := by decide +kernel
theorem dX6_forceWithin_118 : decode cX6_forceWithin 118 = .ok (.iload_n 2, 1) := by decide +kernel
theorem dX6_forceWithin_119 : decode cX6_forceWithin 119 = .ok (.iaload, 1) := by decide +kernel
theorem dX6_forceWithin_120 : decode cX6_forceWithin 120 = .ok (.bipush 99, 2) := by decide +kernel
theorem dX6_forceWithin_122 : decode cX6_forceWithin 122 = .ok (.if_icmp .ne 10, 3) := by decide +kernel
theorem dX6_forceWithin_125 : decode cX6_forceWithin 125 = .ok (.aload_n 0, 1) := by decide +kernel
theorem dX6_forceWithin_126 : decode cX6_forceWithin 126 = .ok (.getfield 37, 3) := by decide +kernel
theorem dX6_forceWithin_129 : decode cX6_forceWithin 129 = .ok (.iload_n 2, 1) := by decide +kernel
theorem dX6_forceWithin_130 : decode cX6_forceWithin 130 = .ok (.iload_n 1, 1) := by decide +kernel
theorem dX6_forceWithin_131 : decode cX6_forceWithin 131 = .ok (.iastore, 1) := by decide +kernel
theorem dX6_forceWithin_132 : decode cX6_forceWithin 132 = .ok (.return_, 1) := by decide +kernel
theorem dX7_init_0 : decode cX7_init 0 = .ok (.aload_n 0, 1) := by decide +kernel
theorem dX7_init_1 : decode cX7_init 1 = .ok (.iload_n 1, 1) := by decide +kernel
theorem dX7_init_2 : decode cX7_init 2 = .ok (.iload_n 2, 1) := by decide +kernel
theorem dX7_init_3 : decode cX7_init 3 = .ok (.iload_n 3, 1) := by decide +kernel
theorem dX7_init_4 : decode cX7_init 4 = .ok (.invokespecial 1, 3) := by decide +kernel
theorem dX7_init_7 : decode cX7_init 7 = .ok (.return_, 1) := by decide +kernel
theorem dX7_comes_0 : decode cX7_comes 0 = .ok (.iload_n 1, 1) := by decide +kernel
theorem dX7_comes_1 : decode cX7_comes 1 = .ok (.iconst 2, 1) := by decide +kernel
theorem dX7_comes_2 : decode cX7_comes 2 = .ok (.if_icmp .ne 12, 3) := by decide +kernel
theorem dX7_comes_5 : decode cX7_comes 5 = .ok (.aload_n 0, 1) := by decide +kernel
theorem dX7_comes_6 : decode cX7_comes 6 = .ok (.getfield 7, 3) := by decide +kernel
theorem dX7_comes_9 : decode cX7_comes 9 = .ok (.iconst 3, 1) := by decide +kernel
theorem dX7_comes_10 : decode cX7_comes 10 = .ok (.irem, 1) := by decide +kernel
theorem dX7_comes_11 : decode cX7_comes 11 = .ok (.goto 9, 3) := by decide +kernel
theorem dX7_comes_14 : decode cX7_comes 14 = .ok (.aload_n 0, 1) := by decide +kernel
theorem dX7_comes_15 : decode cX7_comes 15 = .ok (.iload_n 1, 1) := by decide +kernel
theorem dX7_comes_16 : decode cX7_comes 16 = .ok (.aload_n 2, 1) := by decide +kernel
theorem dX7_comes_17 : decode cX7_comes 17 = .ok (.invokespecial 13, 3) := by decide +kernel
theorem dX7_comes_20 : decode cX7_comes 20 = .ok (.ireturn, 1) := by decide +kernel
theorem dX7_voiceStays_0 : decode cX7_voiceStays 0 = .ok (.aload_n 2, 1) := by decide +kernel
theorem dX7_voiceStays_1 : decode cX7_voiceStays 1 = .ok (.bipush 40, 2) := by decide +kernel
theorem dX7_voiceStays_3 : decode cX7_voiceStays 3 = .ok (.invokevirtual 17, 3) := by decide +kernel
theorem dX7_voiceStays_6 : decode cX7_voiceStays 6 = .ok (.pop, 1) := by decide +kernel
theorem dX7_voiceStays_7 : decode cX7_voiceStays 7 = .ok (.aload_n 0, 1) := by decide +kernel
theorem dX7_voiceStays_8 : decode cX7_voiceStays 8 = .ok (.iload_n 1, 1) := by decide +kernel
theorem dX7_voiceStays_9 : decode cX7_voiceStays 9 = .ok (.aload_n 2, 1) := by decide +kernel
theorem dX7_voiceStays_10 : decode cX7_voiceStays 10 = .ok (.invokespecial 23, 3) := by decide +kernel
theorem dX7_voiceStays_13 : decode cX7_voiceStays 13 = .ok (.ineg, 1) := by decide +kernel
theorem dX7_voiceStays_14 : decode cX7_voiceStays 14 = .ok (.ireturn, 1) := by decide +kernel
theorem dX8_init_0 : decode cX8_init 0 = .ok (.aload_n 0, 1) := by decide +kernel
theorem dX8_init_1 : decode cX8_init 1 = .ok (.invokespecial 3, 3) := by decide +kernel
theorem dX8_init_4 : decode cX8_init 4 = .ok (.aload_n 0, 1) := by decide +kernel
theorem dX8_init_5 : decode cX8_init 5 = .ok (.aload_n 1, 1) := by decide +kernel
theorem dX8_init_6 : decode cX8_init 6 = .ok (.putfield 9, 3) := by decide +kernel
theorem dX8_init_9 : decode cX8_init 9 = .ok (.aload_n 0, 1) := by decide +kernel
theorem dX8_init_10 : decode cX8_init 10 = .ok (.aload_n 2, 1) := by decide +kernel
theorem dX8_init_11 : decode cX8_init 11 = .ok (.putfield 15, 3) := by decide +kernel
theorem dX8_init_14 : decode cX8_init 14 = .ok (.aload_n 0, 1) := by decide +kernel
theorem dX8_init_15 : decode cX8_init 15 = .ok (.new 19, 3) := by decide +kernel
theorem dX8_init_18 : decode cX8_init 18 = .ok (.dup, 1) := by decide +kernel
theorem dX8_init_19 : decode cX8_init 19 = .ok (.aload_n 1, 1) := by decide +kernel
theorem dX8_init_20 : decode cX8_init 20 = .ok (.getfield 21, 3) := by decide +kernel
theorem dX8_init_23 : decode cX8_init 23 = .ok (.invokespecial 25, 3) := by decide +kernel
theorem dX8_init_26 : decode cX8_init 26 = .ok (.putfield 28, 3) := by decide +kernel
theorem dX8_init_29 : decode cX8_init 29 = .ok (.aload_n 0, 1) := by decide +kernel
theorem dX8_init_30 : decode cX8_init 30 = .ok (.aload_n 1, 1) := by decide +kernel
theorem dX8_init_31 : decode cX8_init 31 = .ok (.getfield 21, 3) := by decide +kernel
theorem dX8_init_34 : decode cX8_init 34 = .ok (.newarray .int, 2) := by decide +kernel
theorem dX8_init_36 : decode cX8_init 36 = .ok (.putfield 31, 3) := by decide +kernel
theorem dX8_init_39 : decode cX8_init 39 = .ok (.return_, 1) := by decide +kernel
theorem dX8_faultOfReading_0 : decode cX8_faultOfReading 0 = .ok (.aload_n 0, 1) := by decide +kernel
theorem dX8_faultOfReading_1 : decode cX8_faultOfReading 1 = .ok (.iconst 0, 1) := by decide +kernel
theorem dX8_faultOfReading_2 : decode cX8_faultOfReading 2 = .ok (.invokevirtual 35, 3) := by decide +kernel
theorem dX8_faultOfReading_5 : decode cX8_faultOfReading 5 = .ok (.ifCond .eq 21, 3) := by decide +kernel
theorem dX8_faultOfReading_8 : decode cX8_faultOfReading 8 = .ok (.aload_n 0, 1) := by decide +kernel
theorem dX8_faultOfReading_9 : decode cX8_faultOfReading 9 = .ok (.getfield 39, 3) := by decide +kernel
theorem dX8_faultOfReading_12 : decode cX8_faultOfReading 12 = .ok (.aload_n 0, 1) := by decide +kernel
theorem dX8_faultOfReading_13 : decode cX8_faultOfReading 13 = .ok (.getfield 9, 3) := by decide +kernel
theorem dX8_faultOfReading_16 : decode cX8_faultOfReading 16 = .ok (.getfield 21, 3) := by decide +kernel
theorem dX8_faultOfReading_19 : decode cX8_faultOfReading 19 = .ok (.if_icmp .ne 7, 3) := by decide +kernel
theorem dX8_faultOfReading_22 : decode cX8_faultOfReading 22 = .ok (.iconst (-1), 1) := by decide +kernel
theorem dX8_faultOfReading_23 : decode cX8_faultOfReading 23 = .ok (.goto 7, 3) := by decide +kernel
theorem dX8_faultOfReading_26 : decode cX8_faultOfReading 26 = .ok (.aload_n 0, 1) := by decide +kernel
theorem dX8_faultOfReading_27 : decode cX8_faultOfReading 27 = .ok (.getfield 39, 3) := by decide +kernel
theorem dX8_faultOfReading_30 : decode cX8_faultOfReading 30 = .ok (.ireturn, 1) := by decide +kernel
theorem dX8_sign_0 : decode cX8_sign 0 = .ok (.aload_n 0, 1) := by decide +kernel
theorem dX8_sign_1 : decode cX8_sign 1 = .ok (.getfield 39, 3) := by decide +kernel
theorem dX8_sign_4 : decode cX8_sign 4 = .ok (.aload_n 0, 1) := by decide +kernel
theorem dX8_sign_5 : decode cX8_sign 5 = .ok (.getfield 9, 3) := by decide +kernel
theorem dX8_sign_8 : decode cX8_sign 8 = .ok (.getfield 21, 3) := by decide +kernel
theorem dX8_sign_11 : decode cX8_sign 11 = .ok (.if_icmp .ge 18, 3) := by decide +kernel
theorem dX8_sign_14 : decode cX8_sign 14 = .ok (.aload_n 0, 1) := by decide +kernel
theorem dX8_sign_15 : decode cX8_sign 15 = .ok (.getfield 9, 3) := by decide +kernel
theorem dX8_sign_18 : decode cX8_sign 18 = .ok (.getfield 42, 3) := by decide +kernel
theorem dX8_sign_21 : decode cX8_sign 21 = .ok (.aload_n 0, 1) := by decide +kernel
theorem dX8_sign_22 : decode cX8_sign 22 = .ok (.getfield 39, 3) := by decide +kernel
theorem dX8_sign_25 : decode cX8_sign 25 = .ok (.iaload, 1) := by decide +kernel
theorem dX8_sign_26 : decode cX8_sign 26 = .ok (.goto 4, 3) := by decide +kernel
theorem dX8_sign_29 : decode cX8_sign 29 = .ok (.iconst (-1), 1) := by decide +kernel
theorem dX8_sign_30 : decode cX8_sign 30 = .ok (.ireturn, 1) := by decide +kernel
theorem dX8_isAmong_0 : decode cX8_isAmong 0 = .ok (.iload_n 0, 1) := by decide +kernel
theorem dX8_isAmong_1 : decode cX8_isAmong 1 = .ok (.ifCond .le 16, 3) := by decide +kernel
theorem dX8_isAmong_4 : decode cX8_isAmong 4 = .ok (.aload_n 1, 1) := by decide +kernel
theorem dX8_isAmong_5 : decode cX8_isAmong 5 = .ok (.iload_n 0, 1) := by decide +kernel
theorem dX8_isAmong_6 : decode cX8_isAmong 6 = .ok (.i2c, 1) := by decide +kernel
theorem dX8_isAmong_7 : decode cX8_isAmong 7 = .ok (.invokevirtual 45, 3) := by decide +kernel
theorem dX8_isAmong_10 : decode cX8_isAmong 10 = .ok (.ifCond .lt 7, 3) := by decide +kernel
theorem dX8_isAmong_13 : decode cX8_isAmong 13 = .ok (.iconst 1, 1) := by decide +kernel
theorem dX8_isAmong_14 : decode cX8_isAmong 14 = .ok (.goto 4, 3) := by decide +kernel
theorem dX8_isAmong_17 : decode cX8_isAmong 17 = .ok (.iconst 0, 1) := by decide +kernel
theorem dX8_isAmong_18 : decode cX8_isAmong 18 = .ok (.ireturn, 1) := by decide +kernel
theorem dX8_signsOf_0 : decode cX8_signsOf 0 = .ok (.iload_n 0, 1) := by decide +kernel
theorem dX8_signsOf_1 : decode cX8_signsOf 1 = .ok (.tableswitch 43 0 3 #[31, 34, 37, 40], 31) := by decide +kernel
theorem dX8_signsOf_32 : decode cX8_signsOf 32 = .ok (.ldc 51, 2) := by decide +kernel
theorem dX8_signsOf_34 : decode cX8_signsOf 34 = .ok (.areturn, 1) := by decide +kernel
theorem dX8_signsOf_35 : decode cX8_signsOf 35 = .ok (.ldc 53, 2) := by decide +kernel
theorem dX8_signsOf_37 : decode cX8_signsOf 37 = .ok (.areturn, 1) := by decide +kernel
theorem dX8_signsOf_38 : decode cX8_signsOf 38 = .ok (.ldc 55, 2) := by decide +kernel
theorem dX8_signsOf_40 : decode cX8_signsOf 40 = .ok (.areturn, 1) := by decide +kernel
theorem dX8_signsOf_41 : decode cX8_signsOf 41 = .ok (.ldc 57, 2) := by decide +kernel
theorem dX8_signsOf_43 : decode cX8_signsOf 43 = .ok (.areturn, 1) := by decide +kernel
theorem dX8_signsOf_44 : decode cX8_signsOf 44 = .ok (.ldc 59, 2) := by decide +kernel
theorem dX8_signsOf_46 : decode cX8_signsOf 46 = .ok (.areturn, 1) := by decide +kernel
theorem dX8_readLevel_0 : decode cX8_readLevel 0 = .ok (.iload_n 1, 1) := by decide +kernel
theorem dX8_readLevel_1 : decode cX8_readLevel 1 = .ok (.iconst 4, 1) := by decide +kernel
theorem dX8_readLevel_2 : decode cX8_readLevel 2 = .ok (.if_icmp .le 8, 3) := by decide +kernel
theorem dX8_readLevel_5 : decode cX8_readLevel 5 = .ok (.aload_n 0, 1) := by decide +kernel
theorem dX8_readLevel_6 : decode cX8_readLevel 6 = .ok (.invokevirtual 61, 3) := by decide +kernel
theorem dX8_readLevel_9 : decode cX8_readLevel 9 = .ok (.ireturn, 1) := by decide +kernel
theorem dX8_readLevel_10 : decode cX8_readLevel 10 = .ok (.aload_n 0, 1) := by decide +kernel
theorem dX8_readLevel_11 : decode cX8_readLevel 11 = .ok (.iload_n 1, 1) := by decide +kernel
theorem dX8_readLevel_12 : decode cX8_readLevel 12 = .ok (.iconst 1, 1) := by decide +kernel
theorem dX8_readLevel_13 : decode cX8_readLevel 13 = .ok (.iadd, 1) := by decide +kernel
theorem dX8_readLevel_14 : decode cX8_readLevel 14 = .ok (.invokevirtual 35, 3) := by decide +kernel
theorem dX8_readLevel_17 : decode cX8_readLevel 17 = .ok (.ifCond .ne 5, 3) := by decide +kernel
theorem dX8_readLevel_20 : decode cX8_readLevel 20 = .ok (.iconst 0, 1) := by decide +kernel
theorem dX8_readLevel_21 : decode cX8_readLevel 21 = .ok (.ireturn, 1) := by decide +kernel
theorem dX8_readLevel_22 : decode cX8_readLevel 22 = .ok (.iload_n 1, 1) := by decide +kernel
theorem dX8_readLevel_23 : decode cX8_readLevel 23 = .ok (.iconst 2, 1) := by decide +kernel
theorem dX8_readLevel_24 : decode cX8_readLevel 24 = .ok (.if_icmp .ne 7, 3) := by decide +kernel
theorem dX8_readLevel_27 : decode cX8_readLevel 27 = .ok (.iconst 1, 1) := by decide +kernel
theorem dX8_readLevel_28 : decode cX8_readLevel 28 = .ok (.goto 5, 3) := by decide +kernel
theorem dX8_readLevel_31 : decode cX8_readLevel 31 = .ok (.bipush 50, 2) := by decide +kernel
theorem dX8_readLevel_33 : decode cX8_readLevel 33 = .ok (.istore_n 2, 1) := by decide +kernel
theorem dX8_readLevel_34 : decode cX8_readLevel 34 = .ok (.iconst 0, 1) := by decide +kernel
theorem dX8_readLevel_35 : decode cX8_readLevel 35 = .ok (.istore_n 3, 1) := by decide +kernel
theorem dX8_readLevel_36 : decode cX8_readLevel 36 = .ok (.iload_n 3, 1) := by decide +kernel
theorem dX8_readLevel_37 : decode cX8_readLevel 37 = .ok (.iload_n 2, 1) := by decide +kernel
theorem dX8_readLevel_38 : decode cX8_readLevel 38 = .ok (.if_icmp .ge 62, 3) := by decide +kernel
theorem dX8_readLevel_41 : decode cX8_readLevel 41 = .ok (.aload_n 0, 1) := by decide +kernel
theorem dX8_readLevel_42 : decode cX8_readLevel 42 = .ok (.invokevirtual 65, 3) := by decide +kernel
theorem dX8_readLevel_45 : decode cX8_readLevel 45 = .ok (.iload_n 1, 1) := by decide +kernel
theorem dX8_readLevel_46 : decode cX8_readLevel 46 = .ok (.invokestatic 69, 3) := by decide +kernel
theorem dX8_readLevel_49 : decode cX8_readLevel 49 = .ok (.invokestatic 73, 3) := by decide +kernel
theorem dX8_readLevel_52 : decode cX8_readLevel 52 = .ok (.ifCond .eq 48, 3) := by decide +kernel
theorem dX8_readLevel_55 : decode cX8_readLevel 55 = .ok (.aload_n 0, 1) := by decide +kernel
theorem dX8_readLevel_56 : decode cX8_readLevel 56 = .ok (.invokevirtual 65, 3) := by decide +kernel
theorem dX8_readLevel_59 : decode cX8_readLevel 59 = .ok (.istore 4, 2) := by decide +kernel
theorem dX8_readLevel_61 : decode cX8_readLevel 61 = .ok (.aload_n 0, 1) := by decide +kernel
theorem dX8_readLevel_62 : decode cX8_readLevel 62 = .ok (.dup, 1) := by decide +kernel
theorem dX8_readLevel_63 : decode cX8_readLevel 63 = .ok (.getfield 39, 3) := by decide +kernel
theorem dX8_readLevel_66 : decode cX8_readLevel 66 = .ok (.iconst 1, 1) := by decide +kernel
theorem dX8_readLevel_67 : decode cX8_readLevel 67 = .ok (.iadd, 1) := by decide +kernel
theorem dX8_readLevel_68 : decode cX8_readLevel 68 = .ok (.putfield 39, 3) := by decide +kernel
theorem dX8_readLevel_71 : decode cX8_readLevel 71 = .ok (.aload_n 0, 1) := by decide +kernel
theorem dX8_readLevel_72 : decode cX8_readLevel 72 = .ok (.iload_n 1, 1) := by decide +kernel
theorem dX8_readLevel_73 : decode cX8_readLevel 73 = .ok (.iconst 1, 1) := by decide +kernel
theorem dX8_readLevel_74 : decode cX8_readLevel 74 = .ok (.iadd, 1) := by decide +kernel
theorem dX8_readLevel_75 : decode cX8_readLevel 75 = .ok (.invokevirtual 35, 3) := by decide +kernel
theorem dX8_readLevel_78 : decode cX8_readLevel 78 = .ok (.ifCond .ne 5, 3) := by decide +kernel
theorem dX8_readLevel_81 : decode cX8_readLevel 81 = .ok (.iconst 0, 1) := by decide +kernel
theorem dX8_readLevel_82 : decode cX8_readLevel 82 = .ok (.ireturn, 1) := by decide +kernel
theorem dX8_readLevel_83 : decode cX8_readLevel 83 = .ok (.aload_n 0, 1) := by decide +kernel
theorem dX8_readLevel_84 : decode cX8_readLevel 84 = .ok (.getfield 28, 3) := by decide +kernel
theorem dX8_readLevel_87 : decode cX8_readLevel 87 = .ok (.iload 4, 2) := by decide +kernel
theorem dX8_readLevel_89 : decode cX8_readLevel 89 = .ok (.ineg, 1) := by decide +kernel
theorem dX8_readLevel_90 : decode cX8_readLevel 90 = .ok (.invokevirtual 77, 3) := by decide +kernel
theorem dX8_readLevel_93 : decode cX8_readLevel 93 = .ok (.pop, 1) := by decide +kernel
theorem dX8_readLevel_94 : decode cX8_readLevel 94 = .ok (.iinc 3 1, 3) := by decide +kernel
theorem dX8_readLevel_97 : decode cX8_readLevel 97 = .ok (.goto (-61), 3) := by decide +kernel
theorem dX8_readLevel_100 : decode cX8_readLevel 100 = .ok (.iconst 1, 1) := by decide +kernel
theorem dX8_readLevel_101 : decode cX8_readLevel 101 = .ok (.ireturn, 1) := by decide +kernel
theorem dX8_readSingle_0 : decode cX8_readSingle 0 = .ok (.aload_n 0, 1) := by decide +kernel
theorem dX8_readSingle_1 : decode cX8_readSingle 1 = .ok (.invokevirtual 65, 3) := by decide +kernel
theorem dX8_readSingle_4 : decode cX8_readSingle 4 = .ok (.istore_n 1, 1) := by decide +kernel
theorem dX8_readSingle_5 : decode cX8_readSingle 5 = .ok (.iload_n 1, 1) := by decide +kernel
theorem dX8_readSingle_6 : decode cX8_readSingle 6 = .ok (.bipush 48, 2) := by decide +kernel
theorem dX8_readSingle_8 : decode cX8_readSingle 8 = .ok (.if_icmp .lt 14, 3) := by decide +kernel
theorem dX8_readSingle_11 : decode cX8_readSingle 11 = .ok (.iload_n 1, 1) := by decide +kernel
theorem dX8_readSingle_12 : decode cX8_readSingle 12 = .ok (.bipush 57, 2) := by decide +kernel
theorem dX8_readSingle_14 : decode cX8_readSingle 14 = .ok (.if_icmp .gt 8, 3) := by decide +kernel
theorem dX8_readSingle_17 : decode cX8_readSingle 17 = .ok (.aload_n 0, 1) := by decide +kernel
theorem dX8_readSingle_18 : decode cX8_readSingle 18 = .ok (.invokevirtual 80, 3) := by decide +kernel
theorem dX8_readSingle_21 : decode cX8_readSingle 21 = .ok (.ireturn, 1) := by decide +kernel
theorem dX8_readSingle_22 : decode cX8_readSingle 22 = .ok (.iload_n 1, 1) := by decide +kernel
theorem dX8_readSingle_23 : decode cX8_readSingle 23 = .ok (.aload_n 0, 1) := by decide +kernel
theorem dX8_readSingle_24 : decode cX8_readSingle 24 = .ok (.getfield 15, 3) := by decide +kernel
theorem dX8_readSingle_27 : decode cX8_readSingle 27 = .ok (.invokestatic 73, 3) := by decide +kernel
theorem dX8_readSingle_30 : decode cX8_readSingle 30 = .ok (.ifCond .eq 32, 3) := by decide +kernel
theorem dX8_readSingle_33 : decode cX8_readSingle 33 = .ok (.aload_n 0, 1) := by decide +kernel
theorem dX8_readSingle_34 : decode cX8_readSingle 34 = .ok (.dup, 1) := by decide +kernel
theorem dX8_readSingle_35 : decode cX8_readSingle 35 = .ok (.getfield 39, 3) := by decide +kernel
theorem dX8_readSingle_38 : decode cX8_readSingle 38 = .ok (.iconst 1, 1) := by decide +kernel
theorem dX8_readSingle_39 : decode cX8_readSingle 39 = .ok (.iadd, 1) := by decide +kernel
theorem dX8_readSingle_40 : decode cX8_readSingle 40 = .ok (.putfield 39, 3) := by decide +kernel
theorem dX8_readSingle_43 : decode cX8_readSingle 43 = .ok (.aload_n 0, 1) := by decide +kernel
theorem dX8_readSingle_44 : decode cX8_readSingle 44 = .ok (.getfield 28, 3) := by decide +kernel
theorem dX8_readSingle_47 : decode cX8_readSingle 47 = .ok (.iconst (-1), 1) := by decide +kernel
theorem dX8_readSingle_48 : decode cX8_readSingle 48 = .ok (.aload_n 0, 1) := by decide +kernel
theorem dX8_readSingle_49 : decode cX8_readSingle 49 = .ok (.getfield 15, 3) := by decide +kernel
theorem dX8_readSingle_52 : decode cX8_readSingle 52 = .ok (.iload_n 1, 1) := by decide +kernel
theorem dX8_readSingle_53 : decode cX8_readSingle 53 = .ok (.i2c, 1) := by decide +kernel
theorem dX8_readSingle_54 : decode cX8_readSingle 54 = .ok (.invokevirtual 45, 3) := by decide +kernel
theorem dX8_readSingle_57 : decode cX8_readSingle 57 = .ok (.isub, 1) := by decide +kernel
theorem dX8_readSingle_58 : decode cX8_readSingle 58 = .ok (.invokevirtual 77, 3) := by decide +kernel
theorem dX8_readSingle_61 : decode cX8_readSingle 61 = .ok (.ireturn, 1) := by decide +kernel
theorem dX8_readSingle_62 : decode cX8_readSingle 62 = .ok (.iload_n 1, 1) := by decide +kernel
theorem dX8_readSingle_63 : decode cX8_readSingle 63 = .ok (.bipush 33, 2) := by decide +kernel
theorem dX8_readSingle_65 : decode cX8_readSingle 65 = .ok (.if_icmp .eq 9, 3) := by decide +kernel
theorem dX8_readSingle_68 : decode cX8_readSingle 68 = .ok (.iload_n 1, 1) := by decide +kernel
theorem dX8_readSingle_69 : decode cX8_readSingle 69 = .ok (.bipush 40, 2) := by decide +kernel
theorem dX8_readSingle_71 : decode cX8_readSingle 71 = .ok (.if_icmp .ne 11, 3) := by decide +kernel
theorem dX8_readSingle_74 : decode cX8_readSingle 74 = .ok (.aload_n 0, 1) := by decide +kernel
theorem dX8_readSingle_75 : decode cX8_readSingle 75 = .ok (.getfield 83, 3) := by decide +kernel
theorem dX8_readSingle_78 : decode cX8_readSingle 78 = .ok (.iconst 5, 1) := by decide +kernel
theorem dX8_readSingle_79 : decode cX8_readSingle 79 = .ok (.if_icmp .lt 5, 3) := by decide +kernel
theorem dX8_readSingle_82 : decode cX8_readSingle 82 = .ok (.iconst 0, 1) := by decide +kernel
theorem dX8_readSingle_83 : decode cX8_readSingle 83 = .ok (.ireturn, 1) := by decide +kernel
theorem dX8_readSingle_84 : decode cX8_readSingle 84 = .ok (.aload_n 0, 1) := by decide +kernel
theorem dX8_readSingle_85 : decode cX8_readSingle 85 = .ok (.dup, 1) := by decide +kernel
theorem dX8_readSingle_86 : decode cX8_readSingle 86 = .ok (.getfield 83, 3) := by decide +kernel
theorem dX8_readSingle_89 : decode cX8_readSingle 89 = .ok (.iconst 1, 1) := by decide +kernel
theorem dX8_readSingle_90 : decode cX8_readSingle 90 = .ok (.iadd, 1) := by decide +kernel
theorem dX8_readSingle_91 : decode cX8_readSingle 91 = .ok (.putfield 83, 3) := by decide +kernel
theorem dX8_readSingle_94 : decode cX8_readSingle 94 = .ok (.aload_n 0, 1) := by decide +kernel
theorem dX8_readSingle_95 : decode cX8_readSingle 95 = .ok (.dup, 1) := by decide +kernel
theorem dX8_readSingle_96 : decode cX8_readSingle 96 = .ok (.getfield 39, 3) := by decide +kernel
theorem dX8_readSingle_99 : decode cX8_readSingle 99 = .ok (.iconst 1, 1) := by decide +kernel
theorem dX8_readSingle_100 : decode cX8_readSingle 100 = .ok (.iadd, 1) := by decide +kernel
theorem dX8_readSingle_101 : decode cX8_readSingle 101 = .ok (.putfield 39, 3) := by decide +kernel
theorem dX8_readSingle_104 : decode cX8_readSingle 104 = .ok (.iload_n 1, 1) := by decide +kernel
theorem dX8_readSingle_105 : decode cX8_readSingle 105 = .ok (.bipush 33, 2) := by decide +kernel
theorem dX8_readSingle_107 : decode cX8_readSingle 107 = .ok (.if_icmp .ne 30, 3) := by decide +kernel
theorem dX8_readSingle_110 : decode cX8_readSingle 110 = .ok (.aload_n 0, 1) := by decide +kernel
theorem dX8_readSingle_111 : decode cX8_readSingle 111 = .ok (.invokevirtual 61, 3) := by decide +kernel
theorem dX8_readSingle_114 : decode cX8_readSingle 114 = .ok (.ifCond .eq 19, 3) := by decide +kernel
theorem dX8_readSingle_117 : decode cX8_readSingle 117 = .ok (.aload_n 0, 1) := by decide +kernel
theorem dX8_readSingle_118 : decode cX8_readSingle 118 = .ok (.getfield 28, 3) := by decide +kernel
theorem dX8_readSingle_121 : decode cX8_readSingle 121 = .ok (.bipush (-33), 2) := by decide +kernel
theorem dX8_readSingle_123 : decode cX8_readSingle 123 = .ok (.invokevirtual 77, 3) := by decide +kernel
theorem dX8_readSingle_126 : decode cX8_readSingle 126 = .ok (.ifCond .eq 7, 3) := by decide +kernel
theorem dX8_readSingle_129 : decode cX8_readSingle 129 = .ok (.iconst 1, 1) := by decide +kernel
theorem dX8_readSingle_130 : decode cX8_readSingle 130 = .ok (.goto 27, 3) := by decide +kernel
theorem dX8_readSingle_133 : decode cX8_readSingle 133 = .ok (.iconst 0, 1) := by decide +kernel
theorem dX8_readSingle_134 : decode cX8_readSingle 134 = .ok (.goto 23, 3) := by decide +kernel
theorem dX8_readSingle_137 : decode cX8_readSingle 137 = .ok (.aload_n 0, 1) := by decide +kernel
theorem dX8_readSingle_138 : decode cX8_readSingle 138 = .ok (.iconst 0, 1) := by decide +kernel
theorem dX8_readSingle_139 : decode cX8_readSingle 139 = .ok (.invokevirtual 35, 3) := by decide +kernel
theorem dX8_readSingle_142 : decode cX8_readSingle 142 = .ok (.ifCond .eq 14, 3) := by decide +kernel
theorem dX8_readSingle_145 : decode cX8_readSingle 145 = .ok (.aload_n 0, 1) := by decide +kernel
theorem dX8_readSingle_146 : decode cX8_readSingle 146 = .ok (.invokevirtual 86, 3) := by decide +kernel
theorem dX8_readSingle_149 : decode cX8_readSingle 149 = .ok (.ifCond .eq 7, 3) := by decide +kernel
theorem dX8_readSingle_152 : decode cX8_readSingle 152 = .ok (.iconst 1, 1) := by decide +kernel
theorem dX8_readSingle_153 : decode cX8_readSingle 153 = .ok (.goto 4, 3) := by decide +kernel
theorem dX8_readSingle_156 : decode cX8_readSingle 156 = .ok (.iconst 0, 1) := by decide +kernel
theorem dX8_readSingle_157 : decode cX8_readSingle 157 = .ok (.istore_n 2, 1) := by decide +kernel
theorem dX8_readSingle_158 : decode cX8_readSingle 158 = .ok (.aload_n 0, 1) := by decide +kernel
theorem dX8_readSingle_159 : decode cX8_readSingle 159 = .ok (.dup, 1) := by decide +kernel
theorem dX8_readSingle_160 : decode cX8_readSingle 160 = .ok (.getfield 83, 3) := by decide +kernel
theorem dX8_readSingle_163 : decode cX8_readSingle 163 = .ok (.iconst 1, 1) := by decide +kernel
theorem dX8_readSingle_164 : decode cX8_readSingle 164 = .ok (.isub, 1) := by decide +kernel
theorem dX8_readSingle_165 : decode cX8_readSingle 165 = .ok (.putfield 83, 3) := by decide +kernel
theorem dX8_readSingle_168 : decode cX8_readSingle 168 = .ok (.iload_n 2, 1) := by decide +kernel
theorem dX8_readSingle_169 : decode cX8_readSingle 169 = .ok (.ireturn, 1) := by decide +kernel
theorem dX8_readNumber_0 : decode cX8_readNumber 0 = .ok (.iconst 0, 1) := by decide +kernel
theorem dX8_readNumber_1 : decode cX8_readNumber 1 = .ok (.istore_n 1, 1) := by decide +kernel
theorem dX8_readNumber_2 : decode cX8_readNumber 2 = .ok (.iconst 0, 1) := by decide +kernel
theorem dX8_readNumber_3 : decode cX8_readNumber 3 = .ok (.istore_n 2, 1) := by decide +kernel
theorem dX8_readNumber_4 : decode cX8_readNumber 4 = .ok (.iload_n 2, 1) := by decide +kernel
theorem dX8_readNumber_5 : decode cX8_readNumber 5 = .ok (.iconst 4, 1) := by decide +kernel
theorem dX8_readNumber_6 : decode cX8_readNumber 6 = .ok (.if_icmp .ge 50, 3) := by decide +kernel
theorem dX8_readNumber_9 : decode cX8_readNumber 9 = .ok (.aload_n 0, 1) := by decide +kernel
theorem dX8_readNumber_10 : decode cX8_readNumber 10 = .ok (.invokevirtual 65, 3) := by decide +kernel
theorem dX8_readNumber_13 : decode cX8_readNumber 13 = .ok (.bipush 48, 2) := by decide +kernel
theorem dX8_readNumber_15 : decode cX8_readNumber 15 = .ok (.if_icmp .lt 41, 3) := by decide +kernel
theorem dX8_readNumber_18 : decode cX8_readNumber 18 = .ok (.aload_n 0, 1) := by decide +kernel
theorem dX8_readNumber_19 : decode cX8_readNumber 19 = .ok (.invokevirtual 65, 3) := by decide +kernel
theorem dX8_readNumber_22 : decode cX8_readNumber 22 = .ok (.bipush 57, 2) := by decide +kernel
theorem dX8_readNumber_24 : decode cX8_readNumber 24 = .ok (.if_icmp .gt 32, 3) := by decide +kernel
theorem dX8_readNumber_27 : decode cX8_readNumber 27 = .ok (.iload_n 1, 1) := by decide +kernel
theorem dX8_readNumber_28 : decode cX8_readNumber 28 = .ok (.bipush 10, 2) := by decide +kernel
theorem dX8_readNumber_30 : decode cX8_readNumber 30 = .ok (.imul, 1) := by decide +kernel
theorem dX8_readNumber_31 : decode cX8_readNumber 31 = .ok (.aload_n 0, 1) := by decide +kernel
theorem dX8_readNumber_32 : decode cX8_readNumber 32 = .ok (.invokevirtual 65, 3) := by decide +kernel
theorem dX8_readNumber_35 : decode cX8_readNumber 35 = .ok (.iadd, 1) := by decide +kernel
theorem dX8_readNumber_36 : decode cX8_readNumber 36 = .ok (.bipush 48, 2) := by decide +kernel
theorem dX8_readNumber_38 : decode cX8_readNumber 38 = .ok (.isub, 1) := by decide +kernel
theorem dX8_readNumber_39 : decode cX8_readNumber 39 = .ok (.istore_n 1, 1) := by decide +kernel
theorem dX8_readNumber_40 : decode cX8_readNumber 40 = .ok (.aload_n 0, 1) := by decide +kernel
theorem dX8_readNumber_41 : decode cX8_readNumber 41 = .ok (.dup, 1) := by decide +kernel
theorem dX8_readNumber_42 : decode cX8_readNumber 42 = .ok (.getfield 39, 3) := by decide +kernel
theorem dX8_readNumber_45 : decode cX8_readNumber 45 = .ok (.iconst 1, 1) := by decide +kernel
theorem dX8_readNumber_46 : decode cX8_readNumber 46 = .ok (.iadd, 1) := by decide +kernel
theorem dX8_readNumber_47 : decode cX8_readNumber 47 = .ok (.putfield 39, 3) := by decide +kernel
theorem dX8_readNumber_50 : decode cX8_readNumber 50 = .ok (.iinc 2 1, 3) := by decide +kernel
theorem dX8_readNumber_53 : decode cX8_readNumber 53 = .ok (.goto (-49), 3) := by decide +kernel
theorem dX8_readNumber_56 : decode cX8_readNumber 56 = .ok (.aload_n 0, 1) := by decide +kernel
theorem dX8_readNumber_57 : decode cX8_readNumber 57 = .ok (.getfield 28, 3) := by decide +kernel
theorem dX8_readNumber_60 : decode cX8_readNumber 60 = .ok (.iload_n 1, 1) := by decide +kernel
theorem dX8_readNumber_61 : decode cX8_readNumber 61 = .ok (.invokevirtual 77, 3) := by decide +kernel
theorem dX8_readNumber_64 : decode cX8_readNumber 64 = .ok (.ireturn, 1) := by decide +kernel
theorem dX8_readClosing_0 : decode cX8_readClosing 0 = .ok (.aload_n 0, 1) := by decide +kernel
theorem dX8_readClosing_1 : decode cX8_readClosing 1 = .ok (.invokevirtual 65, 3) := by decide +kernel
theorem dX8_readClosing_4 : decode cX8_readClosing 4 = .ok (.bipush 41, 2) := by decide +kernel
theorem dX8_readClosing_6 : decode cX8_readClosing 6 = .ok (.if_icmp .eq 5, 3) := by decide +kernel
theorem dX8_readClosing_9 : decode cX8_readClosing 9 = .ok (.iconst 0, 1) := by decide +kernel
theorem dX8_readClosing_10 : decode cX8_readClosing 10 = .ok (.ireturn, 1) := by decide +kernel
theorem dX8_readClosing_11 : decode cX8_readClosing 11 = .ok (.aload_n 0, 1) := by decide +kernel
theorem dX8_readClosing_12 : decode cX8_readClosing 12 = .ok (.dup, 1) := by decide +kernel
theorem dX8_readClosing_13 : decode cX8_readClosing 13 = .ok (.getfield 39, 3) := by decide +kernel
theorem dX8_readClosing_16 : decode cX8_readClosing 16 = .ok (.iconst 1, 1) := by decide +kernel
theorem dX8_readClosing_17 : decode cX8_readClosing 17 = .ok (.iadd, 1) := by decide +kernel
theorem dX8_readClosing_18 : decode cX8_readClosing 18 = .ok (.putfield 39, 3) := by decide +kernel
theorem dX8_readClosing_21 : decode cX8_readClosing 21 = .ok (.iconst 1, 1) := by decide +kernel
theorem dX8_readClosing_22 : decode cX8_readClosing 22 = .ok (.ireturn, 1) := by decide +kernel
theorem dX8_worth_0 : decode cX8_worth 0 = .ok (.iconst 0, 1) := by decide +kernel
theorem dX8_worth_1 : decode cX8_worth 1 = .ok (.istore 5, 2) := by decide +kernel
theorem dX8_worth_3 : decode cX8_worth 3 = .ok (.iconst 0, 1) := by decide +kernel
theorem dX8_worth_4 : decode cX8_worth 4 = .ok (.istore 6, 2) := by decide +kernel
theorem dX8_worth_6 : decode cX8_worth 6 = .ok (.iload 6, 2) := by decide +kernel
theorem dX8_worth_8 : decode cX8_worth 8 = .ok (.aload_n 0, 1) := by decide +kernel
theorem dX8_worth_9 : decode cX8_worth 9 = .ok (.getfield 28, 3) := by decide +kernel
theorem dX8_worth_12 : decode cX8_worth 12 = .ok (.getfield 21, 3) := by decide +kernel
theorem dX8_worth_15 : decode cX8_worth 15 = .ok (.if_icmp .ge 177, 3) := by decide +kernel
theorem dX8_worth_18 : decode cX8_worth 18 = .ok (.aload_n 0, 1) := by decide +kernel
theorem dX8_worth_19 : decode cX8_worth 19 = .ok (.getfield 28, 3) := by decide +kernel
theorem dX8_worth_22 : decode cX8_worth 22 = .ok (.getfield 42, 3) := by decide +kernel
theorem dX8_worth_25 : decode cX8_worth 25 = .ok (.iload 6, 2) := by decide +kernel
theorem dX8_worth_27 : decode cX8_worth 27 = .ok (.iaload, 1) := by decide +kernel
theorem dX8_worth_28 : decode cX8_worth 28 = .ok (.istore 7, 2) := by decide +kernel
theorem dX8_worth_30 : decode cX8_worth 30 = .ok (.iload 7, 2) := by decide +kernel
theorem dX8_worth_32 : decode cX8_worth 32 = .ok (.bipush (-4), 2) := by decide +kernel
theorem dX8_worth_34 : decode cX8_worth 34 = .ok (.if_icmp .lt 70, 3) := by decide +kernel
theorem dX8_worth_37 : decode cX8_worth 37 = .ok (.iload 5, 2) := by decide +kernel
theorem dX8_worth_39 : decode cX8_worth 39 = .ok (.aload_n 0, 1) := by decide +kernel
theorem dX8_worth_40 : decode cX8_worth 40 = .ok (.getfield 31, 3) := by decide +kernel
theorem dX8_worth_43 : decode cX8_worth 43 = .ok (.arraylength, 1) := by decide +kernel
theorem dX8_worth_44 : decode cX8_worth 44 = .ok (.if_icmp .ge 60, 3) := by decide +kernel
theorem dX8_worth_47 : decode cX8_worth 47 = .ok (.aload_n 0, 1) := by decide +kernel
theorem dX8_worth_48 : decode cX8_worth 48 = .ok (.getfield 31, 3) := by decide +kernel
theorem dX8_worth_51 : decode cX8_worth 51 = .ok (.iload 5, 2) := by decide +kernel
theorem dX8_worth_53 : decode cX8_worth 53 = .ok (.iload 7, 2) := by decide +kernel
theorem dX8_worth_55 : decode cX8_worth 55 = .ok (.ifCond .lt 8, 3) := by decide +kernel
theorem dX8_worth_58 : decode cX8_worth 58 = .ok (.iload 7, 2) := by decide +kernel
theorem dX8_worth_60 : decode cX8_worth 60 = .ok (.goto 37, 3) := by decide +kernel
theorem dX8_worth_63 : decode cX8_worth 63 = .ok (.iload 7, 2) := by decide +kernel
theorem dX8_worth_65 : decode cX8_worth 65 = .ok (.iconst (-1), 1) := by decide +kernel
theorem dX8_worth_66 : decode cX8_worth 66 = .ok (.if_icmp .ne 7, 3) := by decide +kernel
theorem dX8_worth_69 : decode cX8_worth 69 = .ok (.iload_n 1, 1) := by decide +kernel
theorem dX8_worth_70 : decode cX8_worth 70 = .ok (.goto 27, 3) := by decide +kernel
theorem dX8_worth_73 : decode cX8_worth 73 = .ok (.iload 7, 2) := by decide +kernel
theorem dX8_worth_75 : decode cX8_worth 75 = .ok (.bipush (-2), 2) := by decide +kernel
theorem dX8_worth_77 : decode cX8_worth 77 = .ok (.if_icmp .ne 7, 3) := by decide +kernel
theorem dX8_worth_80 : decode cX8_worth 80 = .ok (.iload_n 2, 1) := by decide +kernel
theorem dX8_worth_81 : decode cX8_worth 81 = .ok (.goto 16, 3) := by decide +kernel
theorem dX8_worth_84 : decode cX8_worth 84 = .ok (.iload 7, 2) := by decide +kernel
theorem dX8_worth_86 : decode cX8_worth 86 = .ok (.bipush (-3), 2) := by decide +kernel
theorem dX8_worth_88 : decode cX8_worth 88 = .ok (.if_icmp .ne 7, 3) := by decide +kernel
theorem dX8_worth_91 : decode cX8_worth 91 = .ok (.iload_n 3, 1) := by decide +kernel
theorem dX8_worth_92 : decode cX8_worth 92 = .ok (.goto 5, 3) := by decide +kernel
theorem dX8_worth_95 : decode cX8_worth 95 = .ok (.iload 4, 2) := by decide +kernel
theorem dX8_worth_97 : decode cX8_worth 97 = .ok (.iastore, 1) := by decide +kernel
theorem dX8_worth_98 : decode cX8_worth 98 = .ok (.iinc 5 1, 3) := by decide +kernel
theorem dX8_worth_101 : decode cX8_worth 101 = .ok (.goto 85, 3) := by decide +kernel
theorem dX8_worth_104 : decode cX8_worth 104 = .ok (.iload 7, 2) := by decide +kernel
theorem dX8_worth_106 : decode cX8_worth 106 = .ok (.bipush (-33), 2) := by decide +kernel
theorem dX8_worth_108 : decode cX8_worth 108 = .ok (.if_icmp .ne 38, 3) := by decide +kernel
theorem dX8_worth_111 : decode cX8_worth 111 = .ok (.iload 5, 2) := by decide +kernel
theorem dX8_worth_113 : decode cX8_worth 113 = .ok (.iconst 1, 1) := by decide +kernel
theorem dX8_worth_114 : decode cX8_worth 114 = .ok (.if_icmp .lt 32, 3) := by decide +kernel
theorem dX8_worth_117 : decode cX8_worth 117 = .ok (.aload_n 0, 1) := by decide +kernel
theorem dX8_worth_118 : decode cX8_worth 118 = .ok (.getfield 31, 3) := by decide +kernel
theorem dX8_worth_121 : decode cX8_worth 121 = .ok (.iload 5, 2) := by decide +kernel
theorem dX8_worth_123 : decode cX8_worth 123 = .ok (.iconst 1, 1) := by decide +kernel
theorem dX8_worth_124 : decode cX8_worth 124 = .ok (.isub, 1) := by decide +kernel
theorem dX8_worth_125 : decode cX8_worth 125 = .ok (.aload_n 0, 1) := by decide +kernel
theorem dX8_worth_126 : decode cX8_worth 126 = .ok (.getfield 31, 3) := by decide +kernel
theorem dX8_worth_129 : decode cX8_worth 129 = .ok (.iload 5, 2) := by decide +kernel
theorem dX8_worth_131 : decode cX8_worth 131 = .ok (.iconst 1, 1) := by decide +kernel
theorem dX8_worth_132 : decode cX8_worth 132 = .ok (.isub, 1) := by decide +kernel
theorem dX8_worth_133 : decode cX8_worth 133 = .ok (.iaload, 1) := by decide +kernel
theorem dX8_worth_134 : decode cX8_worth 134 = .ok (.ifCond .ne 7, 3) := by decide +kernel
theorem dX8_worth_137 : decode cX8_worth 137 = .ok (.iconst 1, 1) := by decide +kernel
theorem dX8_worth_138 : decode cX8_worth 138 = .ok (.goto 4, 3) := by decide +kernel
theorem dX8_worth_141 : decode cX8_worth 141 = .ok (.iconst 0, 1) := by decide +kernel
theorem dX8_worth_142 : decode cX8_worth 142 = .ok (.iastore, 1) := by decide +kernel
theorem dX8_worth_143 : decode cX8_worth 143 = .ok (.goto 43, 3) := by decide +kernel
theorem dX8_worth_146 : decode cX8_worth 146 = .ok (.iload 5, 2) := by decide +kernel
theorem dX8_worth_148 : decode cX8_worth 148 = .ok (.iconst 2, 1) := by decide +kernel
theorem dX8_worth_149 : decode cX8_worth 149 = .ok (.if_icmp .lt 37, 3) := by decide +kernel
theorem dX8_worth_152 : decode cX8_worth 152 = .ok (.iinc 5 (-1), 3) := by decide +kernel
theorem dX8_worth_155 : decode cX8_worth 155 = .ok (.aload_n 0, 1) := by decide +kernel
theorem dX8_worth_156 : decode cX8_worth 156 = .ok (.getfield 31, 3) := by decide +kernel
theorem dX8_worth_159 : decode cX8_worth 159 = .ok (.iload 5, 2) := by decide +kernel
theorem dX8_worth_161 : decode cX8_worth 161 = .ok (.iconst 1, 1) := by decide +kernel
theorem dX8_worth_162 : decode cX8_worth 162 = .ok (.isub, 1) := by decide +kernel
theorem dX8_worth_163 : decode cX8_worth 163 = .ok (.iload 7, 2) := by decide +kernel
theorem dX8_worth_165 : decode cX8_worth 165 = .ok (.ineg, 1) := by decide +kernel
theorem dX8_worth_166 : decode cX8_worth 166 = .ok (.aload_n 0, 1) := by decide +kernel
theorem dX8_worth_167 : decode cX8_worth 167 = .ok (.getfield 31, 3) := by decide +kernel
theorem dX8_worth_170 : decode cX8_worth 170 = .ok (.iload 5, 2) := by decide +kernel
theorem dX8_worth_172 : decode cX8_worth 172 = .ok (.iconst 1, 1) := by decide +kernel
theorem dX8_worth_173 : decode cX8_worth 173 = .ok (.isub, 1) := by decide +kernel
theorem dX8_worth_174 : decode cX8_worth 174 = .ok (.iaload, 1) := by decide +kernel
theorem dX8_worth_175 : decode cX8_worth 175 = .ok (.aload_n 0, 1) := by decide +kernel
theorem dX8_worth_176 : decode cX8_worth 176 = .ok (.getfield 31, 3) := by decide +kernel
theorem dX8_worth_179 : decode cX8_worth 179 = .ok (.iload 5, 2) := by decide +kernel
theorem dX8_worth_181 : decode cX8_worth 181 = .ok (.iaload, 1) := by decide +kernel
theorem dX8_worth_182 : decode cX8_worth 182 = .ok (.invokestatic 89, 3) := by decide +kernel
theorem dX8_worth_185 : decode cX8_worth 185 = .ok (.iastore, 1) := by decide +kernel
theorem dX8_worth_186 : decode cX8_worth 186 = .ok (.iinc 6 1, 3) := by decide +kernel
theorem dX8_worth_189 : decode cX8_worth 189 = .ok (.goto (-183), 3) := by decide +kernel
theorem dX8_worth_192 : decode cX8_worth 192 = .ok (.iload 5, 2) := by decide +kernel
theorem dX8_worth_194 : decode cX8_worth 194 = .ok (.ifCond .le 12, 3) := by decide +kernel
theorem dX8_worth_197 : decode cX8_worth 197 = .ok (.aload_n 0, 1) := by decide +kernel
theorem dX8_worth_198 : decode cX8_worth 198 = .ok (.getfield 31, 3) := by decide +kernel
theorem dX8_worth_201 : decode cX8_worth 201 = .ok (.iconst 0, 1) := by decide +kernel
theorem dX8_worth_202 : decode cX8_worth 202 = .ok (.iaload, 1) := by decide +kernel
theorem dX8_worth_203 : decode cX8_worth 203 = .ok (.goto 4, 3) := by decide +kernel
theorem dX8_worth_206 : decode cX8_worth 206 = .ok (.iconst 0, 1) := by decide +kernel
theorem dX8_worth_207 : decode cX8_worth 207 = .ok (.ireturn, 1) := by decide +kernel
theorem dX8_joined_0 : decode cX8_joined 0 = .ok (.iload_n 0, 1) := by decide +kernel
theorem dX8_joined_1 : decode cX8_joined 1 = .ok (.lookupswitch 168 #[(38, 97), (42, 152), (43, 144), (45, 148), (47, 156), (60, 111), (61, 122), (62, 133), (124, 83)], 83) := by decide +kernel
theorem dX8_joined_84 : decode cX8_joined 84 = .ok (.iload_n 1, 1) := by decide +kernel
theorem dX8_joined_85 : decode cX8_joined 85 = .ok (.ifCond .ne 7, 3) := by decide +kernel
theorem dX8_joined_88 : decode cX8_joined 88 = .ok (.iload_n 2, 1) := by decide +kernel
theorem dX8_joined_89 : decode cX8_joined 89 = .ok (.ifCond .eq 7, 3) := by decide +kernel
theorem dX8_joined_92 : decode cX8_joined 92 = .ok (.iconst 1, 1) := by decide +kernel
theorem dX8_joined_93 : decode cX8_joined 93 = .ok (.goto 4, 3) := by decide +kernel
theorem dX8_joined_96 : decode cX8_joined 96 = .ok (.iconst 0, 1) := by decide +kernel
theorem dX8_joined_97 : decode cX8_joined 97 = .ok (.ireturn, 1) := by decide +kernel
theorem dX8_joined_98 : decode cX8_joined 98 = .ok (.iload_n 1, 1) := by decide +kernel
theorem dX8_joined_99 : decode cX8_joined 99 = .ok (.ifCond .eq 11, 3) := by decide +kernel
theorem dX8_joined_102 : decode cX8_joined 102 = .ok (.iload_n 2, 1) := by decide +kernel
theorem dX8_joined_103 : decode cX8_joined 103 = .ok (.ifCond .eq 7, 3) := by decide +kernel
theorem dX8_joined_106 : decode cX8_joined 106 = .ok (.iconst 1, 1) := by decide +kernel
theorem dX8_joined_107 : decode cX8_joined 107 = .ok (.goto 4, 3) := by decide +kernel
theorem dX8_joined_110 : decode cX8_joined 110 = .ok (.iconst 0, 1) := by decide +kernel
theorem dX8_joined_111 : decode cX8_joined 111 = .ok (.ireturn, 1) := by decide +kernel
theorem dX8_joined_112 : decode cX8_joined 112 = .ok (.iload_n 1, 1) := by decide +kernel
theorem dX8_joined_113 : decode cX8_joined 113 = .ok (.iload_n 2, 1) := by decide +kernel
theorem dX8_joined_114 : decode cX8_joined 114 = .ok (.if_icmp .ge 7, 3) := by decide +kernel
theorem dX8_joined_117 : decode cX8_joined 117 = .ok (.iconst 1, 1) := by decide +kernel
theorem dX8_joined_118 : decode cX8_joined 118 = .ok (.goto 4, 3) := by decide +kernel
theorem dX8_joined_121 : decode cX8_joined 121 = .ok (.iconst 0, 1) := by decide +kernel
theorem dX8_joined_122 : decode cX8_joined 122 = .ok (.ireturn, 1) := by decide +kernel
theorem dX8_joined_123 : decode cX8_joined 123 = .ok (.iload_n 1, 1) := by decide +kernel
theorem dX8_joined_124 : decode cX8_joined 124 = .ok (.iload_n 2, 1) := by decide +kernel
theorem dX8_joined_125 : decode cX8_joined 125 = .ok (.if_icmp .ne 7, 3) := by decide +kernel
theorem dX8_joined_128 : decode cX8_joined 128 = .ok (.iconst 1, 1) := by decide +kernel
theorem dX8_joined_129 : decode cX8_joined 129 = .ok (.goto 4, 3) := by decide +kernel
theorem dX8_joined_132 : decode cX8_joined 132 = .ok (.iconst 0, 1) := by decide +kernel
theorem dX8_joined_133 : decode cX8_joined 133 = .ok (.ireturn, 1) := by decide +kernel
theorem dX8_joined_134 : decode cX8_joined 134 = .ok (.iload_n 1, 1) := by decide +kernel
theorem dX8_joined_135 : decode cX8_joined 135 = .ok (.iload_n 2, 1) := by decide +kernel
theorem dX8_joined_136 : decode cX8_joined 136 = .ok (.if_icmp .le 7, 3) := by decide +kernel
theorem dX8_joined_139 : decode cX8_joined 139 = .ok (.iconst 1, 1) := by decide +kernel
theorem dX8_joined_140 : decode cX8_joined 140 = .ok (.goto 4, 3) := by decide +kernel
theorem dX8_joined_143 : decode cX8_joined 143 = .ok (.iconst 0, 1) := by decide +kernel
theorem dX8_joined_144 : decode cX8_joined 144 = .ok (.ireturn, 1) := by decide +kernel
theorem dX8_joined_145 : decode cX8_joined 145 = .ok (.iload_n 1, 1) := by decide +kernel
theorem dX8_joined_146 : decode cX8_joined 146 = .ok (.iload_n 2, 1) := by decide +kernel
theorem dX8_joined_147 : decode cX8_joined 147 = .ok (.iadd, 1) := by decide +kernel
theorem dX8_joined_148 : decode cX8_joined 148 = .ok (.ireturn, 1) := by decide +kernel
theorem dX8_joined_149 : decode cX8_joined 149 = .ok (.iload_n 1, 1) := by decide +kernel
theorem dX8_joined_150 : decode cX8_joined 150 = .ok (.iload_n 2, 1) := by decide +kernel
theorem dX8_joined_151 : decode cX8_joined 151 = .ok (.isub, 1) := by decide +kernel
theorem dX8_joined_152 : decode cX8_joined 152 = .ok (.ireturn, 1) := by decide +kernel
theorem dX8_joined_153 : decode cX8_joined 153 = .ok (.iload_n 1, 1) := by decide +kernel
theorem dX8_joined_154 : decode cX8_joined 154 = .ok (.iload_n 2, 1) := by decide +kernel
theorem dX8_joined_155 : decode cX8_joined 155 = .ok (.imul, 1) := by decide +kernel
theorem dX8_joined_156 : decode cX8_joined 156 = .ok (.ireturn, 1) := by decide +kernel
theorem dX8_joined_157 : decode cX8_joined 157 = .ok (.iload_n 2, 1) := by decide +kernel
theorem dX8_joined_158 : decode cX8_joined 158 = .ok (.ifCond .ne 7, 3) := by decide +kernel
theorem dX8_joined_161 : decode cX8_joined 161 = .ok (.iconst 0, 1) := by decide +kernel
theorem dX8_joined_162 : decode cX8_joined 162 = .ok (.goto 6, 3) := by decide +kernel
theorem dX8_joined_165 : decode cX8_joined 165 = .ok (.iload_n 1, 1) := by decide +kernel
theorem dX8_joined_166 : decode cX8_joined 166 = .ok (.iload_n 2, 1) := by decide +kernel
theorem dX8_joined_167 : decode cX8_joined 167 = .ok (.idiv, 1) := by decide +kernel
theorem dX8_joined_168 : decode cX8_joined 168 = .ok (.ireturn, 1) := by decide +kernel
theorem dX8_joined_169 : decode cX8_joined 169 = .ok (.iload_n 2, 1) := by decide +kernel
theorem dX8_joined_170 : decode cX8_joined 170 = .ok (.ifCond .ne 7, 3) := by decide +kernel
theorem dX8_joined_173 : decode cX8_joined 173 = .ok (.iconst 0, 1) := by decide +kernel
theorem dX8_joined_174 : decode cX8_joined 174 = .ok (.goto 6, 3) := by decide +kernel
theorem dX8_joined_177 : decode cX8_joined 177 = .ok (.iload_n 1, 1) := by decide +kernel
theorem dX8_joined_178 : decode cX8_joined 178 = .ok (.iload_n 2, 1) := by decide +kernel
theorem dX8_joined_179 : decode cX8_joined 179 = .ok (.irem, 1) := by decide +kernel
theorem dX8_joined_180 : decode cX8_joined 180 = .ok (.ireturn, 1) := by decide +kernel
theorem dX9_init_0 : decode cX9_init 0 = .ok (.aload_n 0, 1) := by decide +kernel
theorem dX9_init_1 : decode cX9_init 1 = .ok (.iload_n 1, 1) := by decide +kernel
theorem dX9_init_2 : decode cX9_init 2 = .ok (.iload_n 2, 1) := by decide +kernel
theorem dX9_init_3 : decode cX9_init 3 = .ok (.iload_n 3, 1) := by decide +kernel
theorem dX9_init_4 : decode cX9_init 4 = .ok (.invokespecial 1, 3) := by decide +kernel
theorem dX9_init_7 : decode cX9_init 7 = .ok (.return_, 1) := by decide +kernel
theorem dX9_comes_0 : decode cX9_comes 0 = .ok (.aload_n 0, 1) := by decide +kernel
theorem dX9_comes_1 : decode cX9_comes 1 = .ok (.getfield 7, 3) := by decide +kernel
theorem dX9_comes_4 : decode cX9_comes 4 = .ok (.aload_n 0, 1) := by decide +kernel
theorem dX9_comes_5 : decode cX9_comes 5 = .ok (.getfield 13, 3) := by decide +kernel
theorem dX9_comes_8 : decode cX9_comes 8 = .ok (.if_icmp .eq 22, 3) := by decide +kernel
theorem dX9_comes_11 : decode cX9_comes 11 = .ok (.iload_n 1, 1) := by decide +kernel
theorem dX9_comes_12 : decode cX9_comes 12 = .ok (.iconst 2, 1) := by decide +kernel
theorem dX9_comes_13 : decode cX9_comes 13 = .ok (.if_icmp .ge 17, 3) := by decide +kernel
theorem dX9_comes_16 : decode cX9_comes 16 = .ok (.iconst 3, 1) := by decide +kernel
theorem dX9_comes_17 : decode cX9_comes 17 = .ok (.aload_n 0, 1) := by decide +kernel
theorem dX9_comes_18 : decode cX9_comes 18 = .ok (.getfield 7, 3) := by decide +kernel
theorem dX9_comes_21 : decode cX9_comes 21 = .ok (.isub, 1) := by decide +kernel
theorem dX9_comes_22 : decode cX9_comes 22 = .ok (.aload_n 0, 1) := by decide +kernel
theorem dX9_comes_23 : decode cX9_comes 23 = .ok (.getfield 13, 3) := by decide +kernel
theorem dX9_comes_26 : decode cX9_comes 26 = .ok (.isub, 1) := by decide +kernel
theorem dX9_comes_27 : decode cX9_comes 27 = .ok (.goto 9, 3) := by decide +kernel
theorem dX9_comes_30 : decode cX9_comes 30 = .ok (.aload_n 0, 1) := by decide +kernel
theorem dX9_comes_31 : decode cX9_comes 31 = .ok (.iload_n 1, 1) := by decide +kernel
theorem dX9_comes_32 : decode cX9_comes 32 = .ok (.aload_n 2, 1) := by decide +kernel
theorem dX9_comes_33 : decode cX9_comes 33 = .ok (.invokespecial 16, 3) := by decide +kernel
theorem dX9_comes_36 : decode cX9_comes 36 = .ok (.ireturn, 1) := by decide +kernel
theorem dX9_voiceTurns_0 : decode cX9_voiceTurns 0 = .ok (.aload_n 2, 1) := by decide +kernel
theorem dX9_voiceTurns_1 : decode cX9_voiceTurns 1 = .ok (.bipush 20, 2) := by decide +kernel
theorem dX9_voiceTurns_3 : decode cX9_voiceTurns 3 = .ok (.invokevirtual 20, 3) := by decide +kernel
theorem dX9_voiceTurns_6 : decode cX9_voiceTurns 6 = .ok (.pop, 1) := by decide +kernel
theorem dX9_voiceTurns_7 : decode cX9_voiceTurns 7 = .ok (.aload_n 0, 1) := by decide +kernel
theorem dX9_voiceTurns_8 : decode cX9_voiceTurns 8 = .ok (.iload_n 1, 1) := by decide +kernel
theorem dX9_voiceTurns_9 : decode cX9_voiceTurns 9 = .ok (.aload_n 2, 1) := by decide +kernel
theorem dX9_voiceTurns_10 : decode cX9_voiceTurns 10 = .ok (.invokespecial 26, 3) := by decide +kernel
theorem dX9_voiceTurns_13 : decode cX9_voiceTurns 13 = .ok (.istore_n 3, 1) := by decide +kernel
theorem dX9_voiceTurns_14 : decode cX9_voiceTurns 14 = .ok (.iload_n 3, 1) := by decide +kernel
theorem dX9_voiceTurns_15 : decode cX9_voiceTurns 15 = .ok (.aload_n 0, 1) := by decide +kernel
theorem dX9_voiceTurns_16 : decode cX9_voiceTurns 16 = .ok (.iconst 1, 1) := by decide +kernel
theorem dX9_voiceTurns_17 : decode cX9_voiceTurns 17 = .ok (.aload_n 2, 1) := by decide +kernel
theorem dX9_voiceTurns_18 : decode cX9_voiceTurns 18 = .ok (.invokevirtual 30, 3) := by decide +kernel
theorem dX9_voiceTurns_21 : decode cX9_voiceTurns 21 = .ok (.isub, 1) := by decide +kernel
theorem dX9_voiceTurns_22 : decode cX9_voiceTurns 22 = .ok (.ireturn, 1) := by decide +kernel
theorem dX10_init_0 : decode cX10_init 0 = .ok (.aload_n 0, 1) := by decide +kernel
theorem dX10_init_1 : decode cX10_init 1 = .ok (.iload_n 1, 1) := by decide +kernel
theorem dX10_init_2 : decode cX10_init 2 = .ok (.iload_n 2, 1) := by decide +kernel
theorem dX10_init_3 : decode cX10_init 3 = .ok (.iload_n 3, 1) := by decide +kernel
theorem dX10_init_4 : decode cX10_init 4 = .ok (.invokespecial 3, 3) := by decide +kernel
theorem dX10_init_7 : decode cX10_init 7 = .ok (.return_, 1) := by decide +kernel
theorem dX10_comes_0 : decode cX10_comes 0 = .ok (.iload_n 1, 1) := by decide +kernel
theorem dX10_comes_1 : decode cX10_comes 1 = .ok (.iconst 2, 1) := by decide +kernel
theorem dX10_comes_2 : decode cX10_comes 2 = .ok (.if_icmp .ge 20, 3) := by decide +kernel
theorem dX10_comes_5 : decode cX10_comes 5 = .ok (.aload_n 2, 1) := by decide +kernel
theorem dX10_comes_6 : decode cX10_comes 6 = .ok (.aload_n 0, 1) := by decide +kernel
theorem dX10_comes_7 : decode cX10_comes 7 = .ok (.getfield 9, 3) := by decide +kernel
theorem dX10_comes_10 : decode cX10_comes 10 = .ok (.aload_n 0, 1) := by decide +kernel
theorem dX10_comes_11 : decode cX10_comes 11 = .ok (.getfield 15, 3) := by decide +kernel
theorem dX10_comes_14 : decode cX10_comes 14 = .ok (.aload_n 0, 1) := by decide +kernel
theorem dX10_comes_15 : decode cX10_comes 15 = .ok (.getfield 18, 3) := by decide +kernel
theorem dX10_comes_18 : decode cX10_comes 18 = .ok (.invokevirtual 21, 3) := by decide +kernel
theorem dX10_comes_21 : decode cX10_comes 21 = .ok (.ireturn, 1) := by decide +kernel
theorem dX10_comes_22 : decode cX10_comes 22 = .ok (.aload_n 0, 1) := by decide +kernel
theorem dX10_comes_23 : decode cX10_comes 23 = .ok (.getfield 18, 3) := by decide +kernel
theorem dX10_comes_26 : decode cX10_comes 26 = .ok (.iconst 4, 1) := by decide +kernel
theorem dX10_comes_27 : decode cX10_comes 27 = .ok (.if_icmp .le 12, 3) := by decide +kernel
theorem dX10_comes_30 : decode cX10_comes 30 = .ok (.aload_n 0, 1) := by decide +kernel
theorem dX10_comes_31 : decode cX10_comes 31 = .ok (.iload_n 1, 1) := by decide +kernel
theorem dX10_comes_32 : decode cX10_comes 32 = .ok (.aload_n 2, 1) := by decide +kernel
theorem dX10_comes_33 : decode cX10_comes 33 = .ok (.invokespecial 27, 3) := by decide +kernel
theorem dX10_comes_36 : decode cX10_comes 36 = .ok (.goto 4, 3) := by decide +kernel
theorem dX10_comes_39 : decode cX10_comes 39 = .ok (.iconst (-1), 1) := by decide +kernel
theorem dX10_comes_40 : decode cX10_comes 40 = .ok (.ireturn, 1) := by decide +kernel
theorem dX10_voiceStays_0 : decode cX10_voiceStays 0 = .ok (.aload_n 2, 1) := by decide +kernel
theorem dX10_voiceStays_1 : decode cX10_voiceStays 1 = .ok (.bipush 70, 2) := by decide +kernel
theorem dX10_voiceStays_3 : decode cX10_voiceStays 3 = .ok (.invokevirtual 31, 3) := by decide +kernel
theorem dX10_voiceStays_6 : decode cX10_voiceStays 6 = .ok (.pop, 1) := by decide +kernel
theorem dX10_voiceStays_7 : decode cX10_voiceStays 7 = .ok (.aload_n 0, 1) := by decide +kernel
theorem dX10_voiceStays_8 : decode cX10_voiceStays 8 = .ok (.iload_n 1, 1) := by decide +kernel
theorem dX10_voiceStays_9 : decode cX10_voiceStays 9 = .ok (.aload_n 2, 1) := by decide +kernel
theorem dX10_voiceStays_10 : decode cX10_voiceStays 10 = .ok (.invokespecial 37, 3) := by decide +kernel
theorem dX10_voiceStays_13 : decode cX10_voiceStays 13 = .ok (.aload_n 0, 1) := by decide +kernel
theorem dX10_voiceStays_14 : decode cX10_voiceStays 14 = .ok (.getfield 41, 3) := by decide +kernel
theorem dX10_voiceStays_17 : decode cX10_voiceStays 17 = .ok (.ixor, 1) := by decide +kernel
theorem dX10_voiceStays_18 : decode cX10_voiceStays 18 = .ok (.ireturn, 1) := by decide +kernel
theorem dX10_voiceTells_0 : decode cX10_voiceTells 0 = .ok (.aload_n 2, 1) := by decide +kernel
theorem dX10_voiceTells_1 : decode cX10_voiceTells 1 = .ok (.bipush 71, 2) := by decide +kernel
theorem dX10_voiceTells_3 : decode cX10_voiceTells 3 = .ok (.invokevirtual 31, 3) := by decide +kernel
theorem dX10_voiceTells_6 : decode cX10_voiceTells 6 = .ok (.pop, 1) := by decide +kernel
theorem dX10_voiceTells_7 : decode cX10_voiceTells 7 = .ok (.aload_n 0, 1) := by decide +kernel
theorem dX10_voiceTells_8 : decode cX10_voiceTells 8 = .ok (.iload_n 1, 1) := by decide +kernel
theorem dX10_voiceTells_9 : decode cX10_voiceTells 9 = .ok (.aload_n 2, 1) := by decide +kernel
theorem dX10_voiceTells_10 : decode cX10_voiceTells 10 = .ok (.invokevirtual 44, 3) := by decide +kernel
theorem dX10_voiceTells_13 : decode cX10_voiceTells 13 = .ok (.istore_n 3, 1) := by decide +kernel
theorem dX10_voiceTells_14 : decode cX10_voiceTells 14 = .ok (.iload_n 3, 1) := by decide +kernel
theorem dX10_voiceTells_15 : decode cX10_voiceTells 15 = .ok (.aload_n 0, 1) := by decide +kernel
theorem dX10_voiceTells_16 : decode cX10_voiceTells 16 = .ok (.iload_n 1, 1) := by decide +kernel
theorem dX10_voiceTells_17 : decode cX10_voiceTells 17 = .ok (.aload_n 2, 1) := by decide +kernel
theorem dX10_voiceTells_18 : decode cX10_voiceTells 18 = .ok (.invokespecial 47, 3) := by decide +kernel
theorem dX10_voiceTells_21 : decode cX10_voiceTells 21 = .ok (.isub, 1) := by decide +kernel
theorem dX10_voiceTells_22 : decode cX10_voiceTells 22 = .ok (.ireturn, 1) := by decide +kernel
theorem dX11_init_0 : decode cX11_init 0 = .ok (.aload_n 0, 1) := by decide +kernel
theorem dX11_init_1 : decode cX11_init 1 = .ok (.invokespecial 3, 3) := by decide +kernel
theorem dX11_init_4 : decode cX11_init 4 = .ok (.aload_n 0, 1) := by decide +kernel
theorem dX11_init_5 : decode cX11_init 5 = .ok (.new 9, 3) := by decide +kernel
theorem dX11_init_8 : decode cX11_init 8 = .ok (.dup, 1) := by decide +kernel
theorem dX11_init_9 : decode cX11_init 9 = .ok (.invokespecial 11, 3) := by decide +kernel
theorem dX11_init_12 : decode cX11_init 12 = .ok (.putfield 12, 3) := by decide +kernel
theorem dX11_init_15 : decode cX11_init 15 = .ok (.aload_n 0, 1) := by decide +kernel
theorem dX11_init_16 : decode cX11_init 16 = .ok (.aload_n 0, 1) := by decide +kernel
theorem dX11_init_17 : decode cX11_init 17 = .ok (.getfield 12, 3) := by decide +kernel
theorem dX11_init_20 : decode cX11_init 20 = .ok (.getfield 16, 3) := by decide +kernel
theorem dX11_init_23 : decode cX11_init 23 = .ok (.putfield 20, 3) := by decide +kernel
theorem dX11_init_26 : decode cX11_init 26 = .ok (.aload_n 0, 1) := by decide +kernel
theorem dX11_init_27 : decode cX11_init 27 = .ok (.getfield 20, 3) := by decide +kernel
theorem dX11_init_30 : decode cX11_init 30 = .ok (.invokevirtual 23, 3) := by decide +kernel
theorem dX11_init_33 : decode cX11_init 33 = .ok (.aload_n 0, 1) := by decide +kernel
theorem dX11_init_34 : decode cX11_init 34 = .ok (.new 24, 3) := by decide +kernel
theorem dX11_init_37 : decode cX11_init 37 = .ok (.dup, 1) := by decide +kernel
theorem dX11_init_38 : decode cX11_init 38 = .ok (.invokespecial 28, 3) := by decide +kernel
theorem dX11_init_41 : decode cX11_init 41 = .ok (.putfield 29, 3) := by decide +kernel
theorem dX11_init_44 : decode cX11_init 44 = .ok (.aload_n 0, 1) := by decide +kernel
theorem dX11_init_45 : decode cX11_init 45 = .ok (.new 32, 3) := by decide +kernel
theorem dX11_init_48 : decode cX11_init 48 = .ok (.dup, 1) := by decide +kernel
theorem dX11_init_49 : decode cX11_init 49 = .ok (.bipush 40, 2) := by decide +kernel
theorem dX11_init_51 : decode cX11_init 51 = .ok (.invokespecial 34, 3) := by decide +kernel
theorem dX11_init_54 : decode cX11_init 54 = .ok (.putfield 37, 3) := by decide +kernel
theorem dX11_init_57 : decode cX11_init 57 = .ok (.aload_n 0, 1) := by decide +kernel
theorem dX11_init_58 : decode cX11_init 58 = .ok (.iconst 4, 1) := by decide +kernel
theorem dX11_init_59 : decode cX11_init 59 = .ok (.anewarray 32, 3) := by decide +kernel
theorem dX11_init_62 : decode cX11_init 62 = .ok (.putfield 41, 3) := by decide +kernel
theorem dX11_init_65 : decode cX11_init 65 = .ok (.iconst 0, 1) := by decide +kernel
theorem dX11_init_66 : decode cX11_init 66 = .ok (.istore_n 1, 1) := by decide +kernel
theorem dX11_init_67 : decode cX11_init 67 = .ok (.iload_n 1, 1) := by decide +kernel
theorem dX11_init_68 : decode cX11_init 68 = .ok (.iconst 4, 1) := by decide +kernel
theorem dX11_init_69 : decode cX11_init 69 = .ok (.if_icmp .ge 24, 3) := by decide +kernel
theorem dX11_init_72 : decode cX11_init 72 = .ok (.aload_n 0, 1) := by decide +kernel
theorem dX11_init_73 : decode cX11_init 73 = .ok (.getfield 41, 3) := by decide +kernel
theorem dX11_init_76 : decode cX11_init 76 = .ok (.iload_n 1, 1) := by decide +kernel
theorem dX11_init_77 : decode cX11_init 77 = .ok (.new 32, 3) := by decide +kernel
theorem dX11_init_80 : decode cX11_init 80 = .ok (.dup, 1) := by decide +kernel
theorem dX11_init_81 : decode cX11_init 81 = .ok (.bipush 40, 2) := by decide +kernel
theorem dX11_init_83 : decode cX11_init 83 = .ok (.invokespecial 34, 3) := by decide +kernel
theorem dX11_init_86 : decode cX11_init 86 = .ok (.aastore, 1) := by decide +kernel
theorem dX11_init_87 : decode cX11_init 87 = .ok (.iinc 1 1, 3) := by decide +kernel
theorem dX11_init_90 : decode cX11_init 90 = .ok (.goto (-23), 3) := by decide +kernel
theorem dX11_init_93 : decode cX11_init 93 = .ok (.aload_n 0, 1) := by decide +kernel
theorem dX11_init_94 : decode cX11_init 94 = .ok (.iconst 4, 1) := by decide +kernel
theorem dX11_init_95 : decode cX11_init 95 = .ok (.newarray .int, 2) := by decide +kernel
theorem dX11_init_97 : decode cX11_init 97 = .ok (.putfield 45, 3) := by decide +kernel
theorem dX11_init_100 : decode cX11_init 100 = .ok (.aload_n 0, 1) := by decide +kernel
theorem dX11_init_101 : decode cX11_init 101 = .ok (.bipush 6, 2) := by decide +kernel
theorem dX11_init_103 : decode cX11_init 103 = .ok (.newarray .int, 2) := by decide +kernel
theorem dX11_init_105 : decode cX11_init 105 = .ok (.putfield 49, 3) := by decide +kernel
theorem dX11_init_108 : decode cX11_init 108 = .ok (.return_, 1) := by decide +kernel
theorem dX11_be_0 : decode cX11_be 0 = .ok (.iload_n 1, 1) := by decide +kernel
theorem dX11_be_1 : decode cX11_be 1 = .ok (.invokestatic 52, 3) := by decide +kernel
theorem dX11_be_4 : decode cX11_be 4 = .ok (.ifCond .eq 13, 3) := by decide +kernel
theorem dX11_be_7 : decode cX11_be 7 = .ok (.iload_n 2, 1) := by decide +kernel
theorem dX11_be_8 : decode cX11_be 8 = .ok (.ifCond .lt 9, 3) := by decide +kernel
theorem dX11_be_11 : decode cX11_be 11 = .ok (.iload_n 2, 1) := by decide +kernel
theorem dX11_be_12 : decode cX11_be 12 = .ok (.bipush 12, 2) := by decide +kernel
theorem dX11_be_14 : decode cX11_be 14 = .ok (.if_icmp .le 10, 3) := by decide +kernel
theorem dX11_be_17 : decode cX11_be 17 = .ok (.aload_n 0, 1) := by decide +kernel
theorem dX11_be_18 : decode cX11_be 18 = .ok (.ldc 56, 2) := by decide +kernel
theorem dX11_be_20 : decode cX11_be 20 = .ok (.invokevirtual 57, 3) := by decide +kernel
theorem dX11_be_23 : decode cX11_be 23 = .ok (.ireturn, 1) := by decide +kernel
theorem dX11_be_24 : decode cX11_be 24 = .ok (.aload_n 0, 1) := by decide +kernel
theorem dX11_be_25 : decode cX11_be 25 = .ok (.getfield 20, 3) := by decide +kernel
theorem dX11_be_28 : decode cX11_be 28 = .ok (.getfield 61, 3) := by decide +kernel
theorem dX11_be_31 : decode cX11_be 31 = .ok (.iload_n 1, 1) := by decide +kernel
theorem dX11_be_32 : decode cX11_be 32 = .ok (.invokestatic 65, 3) := by decide +kernel
theorem dX11_be_35 : decode cX11_be 35 = .ok (.istore_n 3, 1) := by decide +kernel
theorem dX11_be_36 : decode cX11_be 36 = .ok (.aload_n 0, 1) := by decide +kernel
theorem dX11_be_37 : decode cX11_be 37 = .ok (.getfield 20, 3) := by decide +kernel
theorem dX11_be_40 : decode cX11_be 40 = .ok (.getfield 61, 3) := by decide +kernel
theorem dX11_be_43 : decode cX11_be 43 = .ok (.invokestatic 69, 3) := by decide +kernel
theorem dX11_be_46 : decode cX11_be 46 = .ok (.iload_n 3, 1) := by decide +kernel
theorem dX11_be_47 : decode cX11_be 47 = .ok (.isub, 1) := by decide +kernel
theorem dX11_be_48 : decode cX11_be 48 = .ok (.iload_n 2, 1) := by decide +kernel
theorem dX11_be_49 : decode cX11_be 49 = .ok (.iadd, 1) := by decide +kernel
theorem dX11_be_50 : decode cX11_be 50 = .ok (.bipush 12, 2) := by decide +kernel
theorem dX11_be_52 : decode cX11_be 52 = .ok (.if_icmp .le 10, 3) := by decide +kernel
theorem dX11_be_55 : decode cX11_be 55 = .ok (.aload_n 0, 1) := by decide +kernel
theorem dX11_be_56 : decode cX11_be 56 = .ok (.ldc 72, 2) := by decide +kernel
theorem dX11_be_58 : decode cX11_be 58 = .ok (.invokevirtual 57, 3) := by decide +kernel
theorem dX11_be_61 : decode cX11_be 61 = .ok (.ireturn, 1) := by decide +kernel
theorem dX11_be_62 : decode cX11_be 62 = .ok (.aload_n 0, 1) := by decide +kernel
theorem dX11_be_63 : decode cX11_be 63 = .ok (.getfield 20, 3) := by decide +kernel
theorem dX11_be_66 : decode cX11_be 66 = .ok (.dup, 1) := by decide +kernel
theorem dX11_be_67 : decode cX11_be 67 = .ok (.getfield 61, 3) := by decide +kernel
theorem dX11_be_70 : decode cX11_be 70 = .ok (.iload_n 2, 1) := by decide +kernel
theorem dX11_be_71 : decode cX11_be 71 = .ok (.iload_n 3, 1) := by decide +kernel
theorem dX11_be_72 : decode cX11_be 72 = .ok (.isub, 1) := by decide +kernel
theorem dX11_be_73 : decode cX11_be 73 = .ok (.getstatic 73, 3) := by decide +kernel
theorem dX11_be_76 : decode cX11_be 76 = .ok (.iload_n 1, 1) := by decide +kernel
theorem dX11_be_77 : decode cX11_be 77 = .ok (.iaload, 1) := by decide +kernel
theorem dX11_be_78 : decode cX11_be 78 = .ok (.imul, 1) := by decide +kernel
theorem dX11_be_79 : decode cX11_be 79 = .ok (.iadd, 1) := by decide +kernel
theorem dX11_be_80 : decode cX11_be 80 = .ok (.putfield 61, 3) := by decide +kernel
theorem dX11_be_83 : decode cX11_be 83 = .ok (.iload_n 3, 1) := by decide +kernel
theorem dX11_be_84 : decode cX11_be 84 = .ok (.ireturn, 1) := by decide +kernel
theorem dX11_of_0 : decode cX11_of 0 = .ok (.iload_n 1, 1) := by decide +kernel
theorem dX11_of_1 : decode cX11_of 1 = .ok (.invokestatic 52, 3) := by decide +kernel
theorem dX11_of_4 : decode cX11_of 4 = .ok (.ifCond .eq 17, 3) := by decide +kernel
theorem dX11_of_7 : decode cX11_of 7 = .ok (.aload_n 0, 1) := by decide +kernel
theorem dX11_of_8 : decode cX11_of 8 = .ok (.getfield 20, 3) := by decide +kernel
theorem dX11_of_11 : decode cX11_of 11 = .ok (.getfield 61, 3) := by decide +kernel
theorem dX11_of_14 : decode cX11_of 14 = .ok (.iload_n 1, 1) := by decide +kernel
theorem dX11_of_15 : decode cX11_of 15 = .ok (.invokestatic 65, 3) := by decide +kernel
theorem dX11_of_18 : decode cX11_of 18 = .ok (.goto 9, 3) := by decide +kernel
theorem dX11_of_21 : decode cX11_of 21 = .ok (.aload_n 0, 1) := by decide +kernel
theorem dX11_of_22 : decode cX11_of 22 = .ok (.ldc 56, 2) := by decide +kernel
theorem dX11_of_24 : decode cX11_of 24 = .ok (.invokevirtual 57, 3) := by decide +kernel
theorem dX11_of_27 : decode cX11_of 27 = .ok (.ireturn, 1) := by decide +kernel
theorem dX11_law_0 : decode cX11_law 0 = .ok (.iload_n 1, 1) := by decide +kernel
theorem dX11_law_1 : decode cX11_law 1 = .ok (.invokestatic 76, 3) := by decide +kernel
theorem dX11_law_4 : decode cX11_law 4 = .ok (.ifCond .eq 13, 3) := by decide +kernel
theorem dX11_law_7 : decode cX11_law 7 = .ok (.iload_n 2, 1) := by decide +kernel
theorem dX11_law_8 : decode cX11_law 8 = .ok (.ifCond .lt 9, 3) := by decide +kernel
theorem dX11_law_11 : decode cX11_law 11 = .ok (.iload_n 2, 1) := by decide +kernel
theorem dX11_law_12 : decode cX11_law 12 = .ok (.bipush 70, 2) := by decide +kernel
theorem dX11_law_14 : decode cX11_law 14 = .ok (.if_icmp .lt 10, 3) := by decide +kernel
theorem dX11_law_17 : decode cX11_law 17 = .ok (.aload_n 0, 1) := by decide +kernel
theorem dX11_law_18 : decode cX11_law 18 = .ok (.ldc 56, 2) := by decide +kernel
theorem dX11_law_20 : decode cX11_law 20 = .ok (.invokevirtual 57, 3) := by decide +kernel
theorem dX11_law_23 : decode cX11_law 23 = .ok (.ireturn, 1) := by decide +kernel
theorem dX11_law_24 : decode cX11_law 24 = .ok (.aload_n 0, 1) := by decide +kernel
theorem dX11_law_25 : decode cX11_law 25 = .ok (.getfield 20, 3) := by decide +kernel
theorem dX11_law_28 : decode cX11_law 28 = .ok (.getfield 79, 3) := by decide +kernel
theorem dX11_law_31 : decode cX11_law 31 = .ok (.iload_n 1, 1) := by decide +kernel
theorem dX11_law_32 : decode cX11_law 32 = .ok (.aaload, 1) := by decide +kernel
theorem dX11_law_33 : decode cX11_law 33 = .ok (.astore_n 3, 1) := by decide +kernel
theorem dX11_law_34 : decode cX11_law 34 = .ok (.aload_n 0, 1) := by decide +kernel
theorem dX11_law_35 : decode cX11_law 35 = .ok (.getfield 20, 3) := by decide +kernel
theorem dX11_law_38 : decode cX11_law 38 = .ok (.getfield 79, 3) := by decide +kernel
theorem dX11_law_41 : decode cX11_law 41 = .ok (.iload_n 1, 1) := by decide +kernel
theorem dX11_law_42 : decode cX11_law 42 = .ok (.iload_n 2, 1) := by decide +kernel
theorem dX11_law_43 : decode cX11_law 43 = .ok (.bipush 10, 2) := by decide +kernel
theorem dX11_law_45 : decode cX11_law 45 = .ok (.idiv, 1) := by decide +kernel
theorem dX11_law_46 : decode cX11_law 46 = .ok (.iload_n 1, 1) := by decide +kernel
theorem dX11_law_47 : decode cX11_law 47 = .ok (.iload_n 2, 1) := by decide +kernel
theorem dX11_law_48 : decode cX11_law 48 = .ok (.bipush 10, 2) := by decide +kernel
theorem dX11_law_50 : decode cX11_law 50 = .ok (.irem, 1) := by decide +kernel
theorem dX11_law_51 : decode cX11_law 51 = .ok (.invokestatic 83, 3) := by decide +kernel
theorem dX11_law_54 : decode cX11_law 54 = .ok (.aastore, 1) := by decide +kernel
theorem dX11_law_55 : decode cX11_law 55 = .ok (.aload_n 0, 1) := by decide +kernel
theorem dX11_law_56 : decode cX11_law 56 = .ok (.invokevirtual 87, 3) := by decide +kernel
theorem dX11_law_59 : decode cX11_law 59 = .ok (.aload_n 3, 1) := by decide +kernel
theorem dX11_law_60 : decode cX11_law 60 = .ok (.getfield 90, 3) := by decide +kernel
theorem dX11_law_63 : decode cX11_law 63 = .ok (.bipush 10, 2) := by decide +kernel
theorem dX11_law_65 : decode cX11_law 65 = .ok (.imul, 1) := by decide +kernel
theorem dX11_law_66 : decode cX11_law 66 = .ok (.aload_n 3, 1) := by decide +kernel
theorem dX11_law_67 : decode cX11_law 67 = .ok (.getfield 95, 3) := by decide +kernel
theorem dX11_law_70 : decode cX11_law 70 = .ok (.iadd, 1) := by decide +kernel
theorem dX11_law_71 : decode cX11_law 71 = .ok (.ireturn, 1) := by decide +kernel
theorem dX11_fence_0 : decode cX11_fence 0 = .ok (.iload_n 1, 1) := by decide +kernel
theorem dX11_fence_1 : decode cX11_fence 1 = .ok (.invokestatic 76, 3) := by decide +kernel
theorem dX11_fence_4 : decode cX11_fence 4 = .ok (.ifCond .eq 12, 3) := by decide +kernel
theorem dX11_fence_7 : decode cX11_fence 7 = .ok (.iload_n 2, 1) := by decide +kernel
theorem dX11_fence_8 : decode cX11_fence 8 = .ok (.ifCond .lt 8, 3) := by decide +kernel
theorem dX11_fence_11 : decode cX11_fence 11 = .ok (.iload_n 2, 1) := by decide +kernel
theorem dX11_fence_12 : decode cX11_fence 12 = .ok (.iconst 1, 1) := by decide +kernel
theorem dX11_fence_13 : decode cX11_fence 13 = .ok (.if_icmp .le 10, 3) := by decide +kernel
theorem dX11_fence_16 : decode cX11_fence 16 = .ok (.aload_n 0, 1) := by decide +kernel
theorem dX11_fence_17 : decode cX11_fence 17 = .ok (.ldc 56, 2) := by decide +kernel
theorem dX11_fence_19 : decode cX11_fence 19 = .ok (.invokevirtual 57, 3) := by decide +kernel
theorem dX11_fence_22 : decode cX11_fence 22 = .ok (.ireturn, 1) := by decide +kernel
theorem dX11_fence_23 : decode cX11_fence 23 = .ok (.aload_n 0, 1) := by decide +kernel
theorem dX11_fence_24 : decode cX11_fence 24 = .ok (.getfield 20, 3) := by decide +kernel
theorem dX11_fence_27 : decode cX11_fence 27 = .ok (.iload_n 1, 1) := by decide +kernel
theorem dX11_fence_28 : decode cX11_fence 28 = .ok (.invokevirtual 98, 3) := by decide +kernel
theorem dX11_fence_31 : decode cX11_fence 31 = .ok (.istore_n 3, 1) := by decide +kernel
theorem dX11_fence_32 : decode cX11_fence 32 = .ok (.aload_n 0, 1) := by decide +kernel
theorem dX11_fence_33 : decode cX11_fence 33 = .ok (.getfield 20, 3) := by decide +kernel
theorem dX11_fence_36 : decode cX11_fence 36 = .ok (.dup, 1) := by decide +kernel
theorem dX11_fence_37 : decode cX11_fence 37 = .ok (.getfield 101, 3) := by decide +kernel
theorem dX11_fence_40 : decode cX11_fence 40 = .ok (.iload_n 2, 1) := by decide +kernel
theorem dX11_fence_41 : decode cX11_fence 41 = .ok (.iload_n 3, 1) := by decide +kernel
theorem dX11_fence_42 : decode cX11_fence 42 = .ok (.isub, 1) := by decide +kernel
theorem dX11_fence_43 : decode cX11_fence 43 = .ok (.iload_n 1, 1) := by decide +kernel
theorem dX11_fence_44 : decode cX11_fence 44 = .ok (.ishl, 1) := by decide +kernel
theorem dX11_fence_45 : decode cX11_fence 45 = .ok (.iadd, 1) := by decide +kernel
theorem dX11_fence_46 : decode cX11_fence 46 = .ok (.putfield 101, 3) := by decide +kernel
theorem dX11_fence_49 : decode cX11_fence 49 = .ok (.aload_n 0, 1) := by decide +kernel
theorem dX11_fence_50 : decode cX11_fence 50 = .ok (.invokevirtual 87, 3) := by decide +kernel
theorem dX11_fence_53 : decode cX11_fence 53 = .ok (.iload_n 3, 1) := by decide +kernel
theorem dX11_fence_54 : decode cX11_fence 54 = .ok (.ireturn, 1) := by decide +kernel
theorem dX11_ofPair_0 : decode cX11_ofPair 0 = .ok (.iload_n 1, 1) := by decide +kernel
theorem dX11_ofPair_1 : decode cX11_ofPair 1 = .ok (.invokestatic 76, 3) := by decide +kernel
theorem dX11_ofPair_4 : decode cX11_ofPair 4 = .ok (.ifCond .eq 13, 3) := by decide +kernel
theorem dX11_ofPair_7 : decode cX11_ofPair 7 = .ok (.iload_n 2, 1) := by decide +kernel
theorem dX11_ofPair_8 : decode cX11_ofPair 8 = .ok (.ifCond .lt 9, 3) := by decide +kernel
theorem dX11_ofPair_11 : decode cX11_ofPair 11 = .ok (.iload_n 2, 1) := by decide +kernel
theorem dX11_ofPair_12 : decode cX11_ofPair 12 = .ok (.bipush 7, 2) := by decide +kernel
theorem dX11_ofPair_14 : decode cX11_ofPair 14 = .ok (.if_icmp .le 10, 3) := by decide +kernel
theorem dX11_ofPair_17 : decode cX11_ofPair 17 = .ok (.aload_n 0, 1) := by decide +kernel
theorem dX11_ofPair_18 : decode cX11_ofPair 18 = .ok (.ldc 56, 2) := by decide +kernel
theorem dX11_ofPair_20 : decode cX11_ofPair 20 = .ok (.invokevirtual 57, 3) := by decide +kernel
theorem dX11_ofPair_23 : decode cX11_ofPair 23 = .ok (.ireturn, 1) := by decide +kernel
theorem dX11_ofPair_24 : decode cX11_ofPair 24 = .ok (.iload_n 2, 1) := by decide +kernel
theorem dX11_ofPair_25 : decode cX11_ofPair 25 = .ok (.tableswitch 107 0 4 #[35, 48, 61, 70, 95], 35) := by decide +kernel
theorem dX11_ofPair_60 : decode cX11_ofPair 60 = .ok (.aload_n 0, 1) := by decide +kernel
theorem dX11_ofPair_61 : decode cX11_ofPair 61 = .ok (.getfield 20, 3) := by decide +kernel
theorem dX11_ofPair_64 : decode cX11_ofPair 64 = .ok (.getfield 79, 3) := by decide +kernel
theorem dX11_ofPair_67 : decode cX11_ofPair 67 = .ok (.iload_n 1, 1) := by decide +kernel
theorem dX11_ofPair_68 : decode cX11_ofPair 68 = .ok (.aaload, 1) := by decide +kernel
theorem dX11_ofPair_69 : decode cX11_ofPair 69 = .ok (.getfield 90, 3) := by decide +kernel
theorem dX11_ofPair_72 : decode cX11_ofPair 72 = .ok (.ireturn, 1) := by decide +kernel
theorem dX11_ofPair_73 : decode cX11_ofPair 73 = .ok (.aload_n 0, 1) := by decide +kernel
theorem dX11_ofPair_74 : decode cX11_ofPair 74 = .ok (.getfield 20, 3) := by decide +kernel
theorem dX11_ofPair_77 : decode cX11_ofPair 77 = .ok (.getfield 79, 3) := by decide +kernel
theorem dX11_ofPair_80 : decode cX11_ofPair 80 = .ok (.iload_n 1, 1) := by decide +kernel
theorem dX11_ofPair_81 : decode cX11_ofPair 81 = .ok (.aaload, 1) := by decide +kernel
theorem dX11_ofPair_82 : decode cX11_ofPair 82 = .ok (.getfield 95, 3) := by decide +kernel
theorem dX11_ofPair_85 : decode cX11_ofPair 85 = .ok (.ireturn, 1) := by decide +kernel
theorem dX11_ofPair_86 : decode cX11_ofPair 86 = .ok (.aload_n 0, 1) := by decide +kernel
theorem dX11_ofPair_87 : decode cX11_ofPair 87 = .ok (.getfield 20, 3) := by decide +kernel
theorem dX11_ofPair_90 : decode cX11_ofPair 90 = .ok (.iload_n 1, 1) := by decide +kernel
theorem dX11_ofPair_91 : decode cX11_ofPair 91 = .ok (.invokevirtual 98, 3) := by decide +kernel
theorem dX11_ofPair_94 : decode cX11_ofPair 94 = .ok (.ireturn, 1) := by decide +kernel
theorem dX11_ofPair_95 : decode cX11_ofPair 95 = .ok (.aload_n 0, 1) := by decide +kernel
theorem dX11_ofPair_96 : decode cX11_ofPair 96 = .ok (.getfield 20, 3) := by decide +kernel
theorem dX11_ofPair_99 : decode cX11_ofPair 99 = .ok (.aload_n 0, 1) := by decide +kernel
theorem dX11_ofPair_100 : decode cX11_ofPair 100 = .ok (.getfield 20, 3) := by decide +kernel
theorem dX11_ofPair_103 : decode cX11_ofPair 103 = .ok (.getfield 61, 3) := by decide +kernel
theorem dX11_ofPair_106 : decode cX11_ofPair 106 = .ok (.iload_n 1, 1) := by decide +kernel
theorem dX11_ofPair_107 : decode cX11_ofPair 107 = .ok (.invokevirtual 104, 3) := by decide +kernel
theorem dX11_ofPair_110 : decode cX11_ofPair 110 = .ok (.iconst (-1), 1) := by decide +kernel
theorem dX11_ofPair_111 : decode cX11_ofPair 111 = .ok (.if_icmp .ne 7, 3) := by decide +kernel
theorem dX11_ofPair_114 : decode cX11_ofPair 114 = .ok (.iconst 0, 1) := by decide +kernel
theorem dX11_ofPair_115 : decode cX11_ofPair 115 = .ok (.goto 4, 3) := by decide +kernel
theorem dX11_ofPair_118 : decode cX11_ofPair 118 = .ok (.iconst 1, 1) := by decide +kernel
theorem dX11_ofPair_119 : decode cX11_ofPair 119 = .ok (.ireturn, 1) := by decide +kernel
theorem dX11_ofPair_120 : decode cX11_ofPair 120 = .ok (.aload_n 0, 1) := by decide +kernel
theorem dX11_ofPair_121 : decode cX11_ofPair 121 = .ok (.getfield 20, 3) := by decide +kernel
theorem dX11_ofPair_124 : decode cX11_ofPair 124 = .ok (.getfield 107, 3) := by decide +kernel
theorem dX11_ofPair_127 : decode cX11_ofPair 127 = .ok (.iload_n 1, 1) := by decide +kernel
theorem dX11_ofPair_128 : decode cX11_ofPair 128 = .ok (.iaload, 1) := by decide +kernel
theorem dX11_ofPair_129 : decode cX11_ofPair 129 = .ok (.iconst 2, 1) := by decide +kernel
theorem dX11_ofPair_130 : decode cX11_ofPair 130 = .ok (.iadd, 1) := by decide +kernel
theorem dX11_ofPair_131 : decode cX11_ofPair 131 = .ok (.ireturn, 1) := by decide +kernel
theorem dX11_ofPair_132 : decode cX11_ofPair 132 = .ok (.aload_n 0, 1) := by decide +kernel
theorem dX11_ofPair_133 : decode cX11_ofPair 133 = .ok (.getfield 20, 3) := by decide +kernel
theorem dX11_ofPair_136 : decode cX11_ofPair 136 = .ok (.getfield 79, 3) := by decide +kernel
theorem dX11_ofPair_139 : decode cX11_ofPair 139 = .ok (.iload_n 1, 1) := by decide +kernel
theorem dX11_ofPair_140 : decode cX11_ofPair 140 = .ok (.aaload, 1) := by decide +kernel
theorem dX11_ofPair_141 : decode cX11_ofPair 141 = .ok (.iload_n 2, 1) := by decide +kernel
theorem dX11_ofPair_142 : decode cX11_ofPair 142 = .ok (.iconst 5, 1) := by decide +kernel
theorem dX11_ofPair_143 : decode cX11_ofPair 143 = .ok (.isub, 1) := by decide +kernel
theorem dX11_ofPair_144 : decode cX11_ofPair 144 = .ok (.aload_n 0, 1) := by decide +kernel
theorem dX11_ofPair_145 : decode cX11_ofPair 145 = .ok (.getfield 20, 3) := by decide +kernel
theorem dX11_ofPair_148 : decode cX11_ofPair 148 = .ok (.invokevirtual 110, 3) := by decide +kernel
theorem dX11_ofPair_151 : decode cX11_ofPair 151 = .ok (.ireturn, 1) := by decide +kernel
theorem dX11_as_0 : decode cX11_as 0 = .ok (.iload_n 1, 1) := by decide +kernel
theorem dX11_as_1 : decode cX11_as 1 = .ok (.invokestatic 76, 3) := by decide +kernel
theorem dX11_as_4 : decode cX11_as 4 = .ok (.ifCond .eq 13, 3) := by decide +kernel
theorem dX11_as_7 : decode cX11_as 7 = .ok (.iload_n 2, 1) := by decide +kernel
theorem dX11_as_8 : decode cX11_as 8 = .ok (.ifCond .lt 9, 3) := by decide +kernel
theorem dX11_as_11 : decode cX11_as 11 = .ok (.iload_n 2, 1) := by decide +kernel
theorem dX11_as_12 : decode cX11_as 12 = .ok (.bipush 7, 2) := by decide +kernel
theorem dX11_as_14 : decode cX11_as 14 = .ok (.if_icmp .lt 10, 3) := by decide +kernel
theorem dX11_as_17 : decode cX11_as 17 = .ok (.aload_n 0, 1) := by decide +kernel
theorem dX11_as_18 : decode cX11_as 18 = .ok (.ldc 56, 2) := by decide +kernel
theorem dX11_as_20 : decode cX11_as 20 = .ok (.invokevirtual 57, 3) := by decide +kernel
theorem dX11_as_23 : decode cX11_as 23 = .ok (.ireturn, 1) := by decide +kernel
theorem dX11_as_24 : decode cX11_as 24 = .ok (.aload_n 0, 1) := by decide +kernel
theorem dX11_as_25 : decode cX11_as 25 = .ok (.getfield 20, 3) := by decide +kernel
theorem dX11_as_28 : decode cX11_as 28 = .ok (.getfield 79, 3) := by decide +kernel
theorem dX11_as_31 : decode cX11_as 31 = .ok (.iload_n 1, 1) := by decide +kernel
theorem dX11_as_32 : decode cX11_as 32 = .ok (.aaload, 1) := by decide +kernel
theorem dX11_as_33 : decode cX11_as 33 = .ok (.iload_n 2, 1) := by decide +kernel
theorem dX11_as_34 : decode cX11_as 34 = .ok (.invokestatic 114, 3) := by decide +kernel
theorem dX11_as_37 : decode cX11_as 37 = .ok (.ifCond .eq 18, 3) := by decide +kernel
theorem dX11_as_40 : decode cX11_as 40 = .ok (.aload_n 0, 1) := by decide +kernel
theorem dX11_as_41 : decode cX11_as 41 = .ok (.getfield 20, 3) := by decide +kernel
theorem dX11_as_44 : decode cX11_as 44 = .ok (.getfield 79, 3) := by decide +kernel
theorem dX11_as_47 : decode cX11_as 47 = .ok (.iload_n 1, 1) := by decide +kernel
theorem dX11_as_48 : decode cX11_as 48 = .ok (.aaload, 1) := by decide +kernel
theorem dX11_as_49 : decode cX11_as 49 = .ok (.getfield 95, 3) := by decide +kernel
theorem dX11_as_52 : decode cX11_as 52 = .ok (.goto 9, 3) := by decide +kernel
theorem dX11_as_55 : decode cX11_as 55 = .ok (.aload_n 0, 1) := by decide +kernel
theorem dX11_as_56 : decode cX11_as 56 = .ok (.ldc 118, 2) := by decide +kernel
theorem dX11_as_58 : decode cX11_as 58 = .ok (.invokevirtual 57, 3) := by decide +kernel
theorem dX11_as_61 : decode cX11_as 61 = .ok (.ireturn, 1) := by decide +kernel
theorem dX11_feed_0 : decode cX11_feed 0 = .ok (.iload_n 3, 1) := by decide +kernel
theorem dX11_feed_1 : decode cX11_feed 1 = .ok (.iconst 1, 1) := by decide +kernel
theorem dX11_feed_2 : decode cX11_feed 2 = .ok (.if_icmp .lt 9, 3) := by decide +kernel
theorem dX11_feed_5 : decode cX11_feed 5 = .ok (.iload_n 3, 1) := by decide +kernel
theorem dX11_feed_6 : decode cX11_feed 6 = .ok (.bipush 8, 2) := by decide +kernel
theorem dX11_feed_8 : decode cX11_feed 8 = .ok (.if_icmp .le 10, 3) := by decide +kernel
theorem dX11_feed_11 : decode cX11_feed 11 = .ok (.aload_n 0, 1) := by decide +kernel
theorem dX11_feed_12 : decode cX11_feed 12 = .ok (.ldc 56, 2) := by decide +kernel
theorem dX11_feed_14 : decode cX11_feed 14 = .ok (.invokevirtual 57, 3) := by decide +kernel
theorem dX11_feed_17 : decode cX11_feed 17 = .ok (.ireturn, 1) := by decide +kernel
theorem dX11_feed_18 : decode cX11_feed 18 = .ok (.aload_n 0, 1) := by decide +kernel
theorem dX11_feed_19 : decode cX11_feed 19 = .ok (.getfield 20, 3) := by decide +kernel
theorem dX11_feed_22 : decode cX11_feed 22 = .ok (.getfield 119, 3) := by decide +kernel
theorem dX11_feed_25 : decode cX11_feed 25 = .ok (.getfield 122, 3) := by decide +kernel
theorem dX11_feed_28 : decode cX11_feed 28 = .ok (.iload_n 3, 1) := by decide +kernel
theorem dX11_feed_29 : decode cX11_feed 29 = .ok (.iadd, 1) := by decide +kernel
theorem dX11_feed_30 : decode cX11_feed 30 = .ok (.bipush 50, 2) := by decide +kernel
theorem dX11_feed_32 : decode cX11_feed 32 = .ok (.if_icmp .le 10, 3) := by decide +kernel
theorem dX11_feed_35 : decode cX11_feed 35 = .ok (.aload_n 0, 1) := by decide +kernel
theorem dX11_feed_36 : decode cX11_feed 36 = .ok (.ldc 72, 2) := by decide +kernel
theorem dX11_feed_38 : decode cX11_feed 38 = .ok (.invokevirtual 57, 3) := by decide +kernel
theorem dX11_feed_41 : decode cX11_feed 41 = .ok (.ireturn, 1) := by decide +kernel
theorem dX11_feed_42 : decode cX11_feed 42 = .ok (.iconst 0, 1) := by decide +kernel
theorem dX11_feed_43 : decode cX11_feed 43 = .ok (.istore 4, 2) := by decide +kernel
theorem dX11_feed_45 : decode cX11_feed 45 = .ok (.iload 4, 2) := by decide +kernel
theorem dX11_feed_47 : decode cX11_feed 47 = .ok (.iload_n 3, 1) := by decide +kernel
theorem dX11_feed_48 : decode cX11_feed 48 = .ok (.if_icmp .ge 32, 3) := by decide +kernel
theorem dX11_feed_51 : decode cX11_feed 51 = .ok (.aload_n 0, 1) := by decide +kernel
theorem dX11_feed_52 : decode cX11_feed 52 = .ok (.getfield 20, 3) := by decide +kernel
theorem dX11_feed_55 : decode cX11_feed 55 = .ok (.getfield 119, 3) := by decide +kernel
theorem dX11_feed_58 : decode cX11_feed 58 = .ok (.lload_n 1, 1) := by decide +kernel
theorem dX11_feed_59 : decode cX11_feed 59 = .ok (.bipush 8, 2) := by decide +kernel
theorem dX11_feed_61 : decode cX11_feed 61 = .ok (.iload 4, 2) := by decide +kernel
theorem dX11_feed_63 : decode cX11_feed 63 = .ok (.imul, 1) := by decide +kernel
theorem dX11_feed_64 : decode cX11_feed 64 = .ok (.lushr, 1) := by decide +kernel
theorem dX11_feed_65 : decode cX11_feed 65 = .ok (.l2i, 1) := by decide +kernel
theorem dX11_feed_66 : decode cX11_feed 66 = .ok (.sipush 255, 3) := by decide +kernel
theorem dX11_feed_69 : decode cX11_feed 69 = .ok (.iand, 1) := by decide +kernel
theorem dX11_feed_70 : decode cX11_feed 70 = .ok (.invokevirtual 125, 3) := by decide +kernel
theorem dX11_feed_73 : decode cX11_feed 73 = .ok (.pop, 1) := by decide +kernel
theorem dX11_feed_74 : decode cX11_feed 74 = .ok (.iinc 4 1, 3) := by decide +kernel
theorem dX11_feed_77 : decode cX11_feed 77 = .ok (.goto (-32), 3) := by decide +kernel
theorem dX11_feed_80 : decode cX11_feed 80 = .ok (.aload_n 0, 1) := by decide +kernel
theorem dX11_feed_81 : decode cX11_feed 81 = .ok (.getfield 20, 3) := by decide +kernel
theorem dX11_feed_84 : decode cX11_feed 84 = .ok (.getfield 119, 3) := by decide +kernel
theorem dX11_feed_87 : decode cX11_feed 87 = .ok (.getfield 122, 3) := by decide +kernel
theorem dX11_feed_90 : decode cX11_feed 90 = .ok (.ireturn, 1) := by decide +kernel
theorem dX11_text_0 : decode cX11_text 0 = .ok (.iload_n 1, 1) := by decide +kernel
theorem dX11_text_1 : decode cX11_text 1 = .ok (.invokestatic 128, 3) := by decide +kernel
theorem dX11_text_4 : decode cX11_text 4 = .ok (.ifCond .ne 10, 3) := by decide +kernel
theorem dX11_text_7 : decode cX11_text 7 = .ok (.aload_n 0, 1) := by decide +kernel
theorem dX11_text_8 : decode cX11_text 8 = .ok (.ldc 56, 2) := by decide +kernel
theorem dX11_text_10 : decode cX11_text 10 = .ok (.invokevirtual 57, 3) := by decide +kernel
theorem dX11_text_13 : decode cX11_text 13 = .ok (.ireturn, 1) := by decide +kernel
theorem dX11_text_14 : decode cX11_text 14 = .ok (.new 131, 3) := by decide +kernel
theorem dX11_text_17 : decode cX11_text 17 = .ok (.dup, 1) := by decide +kernel
theorem dX11_text_18 : decode cX11_text 18 = .ok (.aload_n 0, 1) := by decide +kernel
theorem dX11_text_19 : decode cX11_text 19 = .ok (.getfield 20, 3) := by decide +kernel
theorem dX11_text_22 : decode cX11_text 22 = .ok (.getfield 119, 3) := by decide +kernel
theorem dX11_text_25 : decode cX11_text 25 = .ok (.iload_n 1, 1) := by decide +kernel
theorem dX11_text_26 : decode cX11_text 26 = .ok (.ifCond .ne 8, 3) := by decide +kernel
theorem dX11_text_29 : decode cX11_text 29 = .ok (.ldc 133, 2) := by decide +kernel
theorem dX11_text_31 : decode cX11_text 31 = .ok (.goto 5, 3) := by decide +kernel
theorem dX11_text_34 : decode cX11_text 34 = .ok (.ldc 135, 2) := by decide +kernel
theorem dX11_text_36 : decode cX11_text 36 = .ok (.invokespecial 137, 3) := by decide +kernel
theorem dX11_text_39 : decode cX11_text 39 = .ok (.astore_n 2, 1) := by decide +kernel
theorem dX11_text_40 : decode cX11_text 40 = .ok (.aload_n 2, 1) := by decide +kernel
theorem dX11_text_41 : decode cX11_text 41 = .ok (.invokevirtual 140, 3) := by decide +kernel
theorem dX11_text_44 : decode cX11_text 44 = .ok (.istore_n 3, 1) := by decide +kernel
theorem dX11_text_45 : decode cX11_text 45 = .ok (.aload_n 0, 1) := by decide +kernel
theorem dX11_text_46 : decode cX11_text 46 = .ok (.getfield 20, 3) := by decide +kernel
theorem dX11_text_49 : decode cX11_text 49 = .ok (.getfield 119, 3) := by decide +kernel
theorem dX11_text_52 : decode cX11_text 52 = .ok (.iconst 0, 1) := by decide +kernel
theorem dX11_text_53 : decode cX11_text 53 = .ok (.putfield 122, 3) := by decide +kernel
theorem dX11_text_56 : decode cX11_text 56 = .ok (.iload_n 3, 1) := by decide +kernel
theorem dX11_text_57 : decode cX11_text 57 = .ok (.iconst (-1), 1) := by decide +kernel
theorem dX11_text_58 : decode cX11_text 58 = .ok (.if_icmp .eq 8, 3) := by decide +kernel
theorem dX11_text_61 : decode cX11_text 61 = .ok (.bipush (-10), 2) := by decide +kernel
theorem dX11_text_63 : decode cX11_text 63 = .ok (.iload_n 3, 1) := by decide +kernel
theorem dX11_text_64 : decode cX11_text 64 = .ok (.isub, 1) := by decide +kernel
theorem dX11_text_65 : decode cX11_text 65 = .ok (.ireturn, 1) := by decide +kernel
theorem dX11_text_66 : decode cX11_text 66 = .ok (.aload_n 0, 1) := by decide +kernel
theorem dX11_text_67 : decode cX11_text 67 = .ok (.getfield 20, 3) := by decide +kernel
theorem dX11_text_70 : decode cX11_text 70 = .ok (.getfield 144, 3) := by decide +kernel
theorem dX11_text_73 : decode cX11_text 73 = .ok (.iload_n 1, 1) := by decide +kernel
theorem dX11_text_74 : decode cX11_text 74 = .ok (.aload_n 2, 1) := by decide +kernel
theorem dX11_text_75 : decode cX11_text 75 = .ok (.aastore, 1) := by decide +kernel
theorem dX11_text_76 : decode cX11_text 76 = .ok (.aload_n 0, 1) := by decide +kernel
theorem dX11_text_77 : decode cX11_text 77 = .ok (.invokevirtual 87, 3) := by decide +kernel
theorem dX11_text_80 : decode cX11_text 80 = .ok (.iconst 1, 1) := by decide +kernel
theorem dX11_text_81 : decode cX11_text 81 = .ok (.ireturn, 1) := by decide +kernel
theorem dX11_gives_0 : decode cX11_gives 0 = .ok (.iload_n 1, 1) := by decide +kernel
theorem dX11_gives_1 : decode cX11_gives 1 = .ok (.invokestatic 128, 3) := by decide +kernel
theorem dX11_gives_4 : decode cX11_gives 4 = .ok (.ifCond .ne 10, 3) := by decide +kernel
theorem dX11_gives_7 : decode cX11_gives 7 = .ok (.aload_n 0, 1) := by decide +kernel
theorem dX11_gives_8 : decode cX11_gives 8 = .ok (.ldc 56, 2) := by decide +kernel
theorem dX11_gives_10 : decode cX11_gives 10 = .ok (.invokevirtual 57, 3) := by decide +kernel
theorem dX11_gives_13 : decode cX11_gives 13 = .ok (.ireturn, 1) := by decide +kernel
theorem dX11_gives_14 : decode cX11_gives 14 = .ok (.iload_n 1, 1) := by decide +kernel
theorem dX11_gives_15 : decode cX11_gives 15 = .ok (.ifCond .ne 17, 3) := by decide +kernel
theorem dX11_gives_18 : decode cX11_gives 18 = .ok (.aload_n 0, 1) := by decide +kernel
theorem dX11_gives_19 : decode cX11_gives 19 = .ok (.getfield 20, 3) := by decide +kernel
theorem dX11_gives_22 : decode cX11_gives 22 = .ok (.iload_n 2, 1) := by decide +kernel
theorem dX11_gives_23 : decode cX11_gives 23 = .ok (.iload_n 3, 1) := by decide +kernel
theorem dX11_gives_24 : decode cX11_gives 24 = .ok (.iload 4, 2) := by decide +kernel
theorem dX11_gives_26 : decode cX11_gives 26 = .ok (.invokevirtual 148, 3) := by decide +kernel
theorem dX11_gives_29 : decode cX11_gives 29 = .ok (.goto 16, 3) := by decide +kernel
theorem dX11_gives_32 : decode cX11_gives 32 = .ok (.aload_n 0, 1) := by decide +kernel
theorem dX11_gives_33 : decode cX11_gives 33 = .ok (.getfield 20, 3) := by decide +kernel
theorem dX11_gives_36 : decode cX11_gives 36 = .ok (.iload_n 2, 1) := by decide +kernel
theorem dX11_gives_37 : decode cX11_gives 37 = .ok (.iload_n 3, 1) := by decide +kernel
theorem dX11_gives_38 : decode cX11_gives 38 = .ok (.iload 4, 2) := by decide +kernel
theorem dX11_gives_40 : decode cX11_gives 40 = .ok (.iload 5, 2) := by decide +kernel
theorem dX11_gives_42 : decode cX11_gives 42 = .ok (.invokevirtual 152, 3) := by decide +kernel
theorem dX11_gives_45 : decode cX11_gives 45 = .ok (.ireturn, 1) := by decide +kernel
theorem dX11_meet_0 : decode cX11_meet 0 = .ok (.iload_n 1, 1) := by decide +kernel
theorem dX11_meet_1 : decode cX11_meet 1 = .ok (.invokestatic 76, 3) := by decide +kernel
theorem dX11_meet_4 : decode cX11_meet 4 = .ok (.ifCond .ne 10, 3) := by decide +kernel
theorem dX11_meet_7 : decode cX11_meet 7 = .ok (.aload_n 0, 1) := by decide +kernel
theorem dX11_meet_8 : decode cX11_meet 8 = .ok (.ldc 56, 2) := by decide +kernel
theorem dX11_meet_10 : decode cX11_meet 10 = .ok (.invokevirtual 57, 3) := by decide +kernel
theorem dX11_meet_13 : decode cX11_meet 13 = .ok (.ireturn, 1) := by decide +kernel
theorem dX11_meet_14 : decode cX11_meet 14 = .ok (.aload_n 0, 1) := by decide +kernel
theorem dX11_meet_15 : decode cX11_meet 15 = .ok (.getfield 20, 3) := by decide +kernel
theorem dX11_meet_18 : decode cX11_meet 18 = .ok (.aload_n 0, 1) := by decide +kernel
theorem dX11_meet_19 : decode cX11_meet 19 = .ok (.getfield 20, 3) := by decide +kernel
theorem dX11_meet_22 : decode cX11_meet 22 = .ok (.getfield 61, 3) := by decide +kernel
theorem dX11_meet_25 : decode cX11_meet 25 = .ok (.iload_n 1, 1) := by decide +kernel
theorem dX11_meet_26 : decode cX11_meet 26 = .ok (.invokevirtual 104, 3) := by decide +kernel
theorem dX11_meet_29 : decode cX11_meet 29 = .ok (.istore_n 2, 1) := by decide +kernel
theorem dX11_meet_30 : decode cX11_meet 30 = .ok (.iload_n 2, 1) := by decide +kernel
theorem dX11_meet_31 : decode cX11_meet 31 = .ok (.iconst (-1), 1) := by decide +kernel
theorem dX11_meet_32 : decode cX11_meet 32 = .ok (.if_icmp .eq 16, 3) := by decide +kernel
theorem dX11_meet_35 : decode cX11_meet 35 = .ok (.aload_n 0, 1) := by decide +kernel
theorem dX11_meet_36 : decode cX11_meet 36 = .ok (.getfield 20, 3) := by decide +kernel
theorem dX11_meet_39 : decode cX11_meet 39 = .ok (.getfield 156, 3) := by decide +kernel
theorem dX11_meet_42 : decode cX11_meet 42 = .ok (.sipush 9999, 3) := by decide +kernel
theorem dX11_meet_45 : decode cX11_meet 45 = .ok (.if_icmp .lt 10, 3) := by decide +kernel
theorem dX11_meet_48 : decode cX11_meet 48 = .ok (.aload_n 0, 1) := by decide +kernel
theorem dX11_meet_49 : decode cX11_meet 49 = .ok (.ldc 159, 2) := by decide +kernel
theorem dX11_meet_51 : decode cX11_meet 51 = .ok (.invokevirtual 57, 3) := by decide +kernel
theorem dX11_meet_54 : decode cX11_meet 54 = .ok (.ireturn, 1) := by decide +kernel
theorem dX11_meet_55 : decode cX11_meet 55 = .ok (.aload_n 0, 1) := by decide +kernel
theorem dX11_meet_56 : decode cX11_meet 56 = .ok (.getfield 20, 3) := by decide +kernel
theorem dX11_meet_59 : decode cX11_meet 59 = .ok (.iload_n 1, 1) := by decide +kernel
theorem dX11_meet_60 : decode cX11_meet 60 = .ok (.iload_n 2, 1) := by decide +kernel
theorem dX11_meet_61 : decode cX11_meet 61 = .ok (.invokevirtual 160, 3) := by decide +kernel
theorem dX11_meet_64 : decode cX11_meet 64 = .ok (.aload_n 0, 1) := by decide +kernel
theorem dX11_meet_65 : decode cX11_meet 65 = .ok (.getfield 20, 3) := by decide +kernel
theorem dX11_meet_68 : decode cX11_meet 68 = .ok (.getfield 61, 3) := by decide +kernel
theorem dX11_meet_71 : decode cX11_meet 71 = .ok (.ireturn, 1) := by decide +kernel
theorem dX11_chance_0 : decode cX11_chance 0 = .ok (.iload_n 1, 1) := by decide +kernel
theorem dX11_chance_1 : decode cX11_chance 1 = .ok (.iconst 1, 1) := by decide +kernel
theorem dX11_chance_2 : decode cX11_chance 2 = .ok (.if_icmp .lt 9, 3) := by decide +kernel
theorem dX11_chance_5 : decode cX11_chance 5 = .ok (.iload_n 1, 1) := by decide +kernel
theorem dX11_chance_6 : decode cX11_chance 6 = .ok (.bipush 60, 2) := by decide +kernel
theorem dX11_chance_8 : decode cX11_chance 8 = .ok (.if_icmp .le 10, 3) := by decide +kernel
theorem dX11_chance_11 : decode cX11_chance 11 = .ok (.aload_n 0, 1) := by decide +kernel
theorem dX11_chance_12 : decode cX11_chance 12 = .ok (.ldc 56, 2) := by decide +kernel
theorem dX11_chance_14 : decode cX11_chance 14 = .ok (.invokevirtual 57, 3) := by decide +kernel
theorem dX11_chance_17 : decode cX11_chance 17 = .ok (.ireturn, 1) := by decide +kernel
theorem dX11_chance_18 : decode cX11_chance 18 = .ok (.aload_n 0, 1) := by decide +kernel
theorem dX11_chance_19 : decode cX11_chance 19 = .ok (.getfield 20, 3) := by decide +kernel
theorem dX11_chance_22 : decode cX11_chance 22 = .ok (.getfield 156, 3) := by decide +kernel
theorem dX11_chance_25 : decode cX11_chance 25 = .ok (.iload_n 1, 1) := by decide +kernel
theorem dX11_chance_26 : decode cX11_chance 26 = .ok (.iadd, 1) := by decide +kernel
theorem dX11_chance_27 : decode cX11_chance 27 = .ok (.sipush 9999, 3) := by decide +kernel
theorem dX11_chance_30 : decode cX11_chance 30 = .ok (.if_icmp .le 10, 3) := by decide +kernel
theorem dX11_chance_33 : decode cX11_chance 33 = .ok (.aload_n 0, 1) := by decide +kernel
theorem dX11_chance_34 : decode cX11_chance 34 = .ok (.ldc 159, 2) := by decide +kernel
theorem dX11_chance_36 : decode cX11_chance 36 = .ok (.invokevirtual 57, 3) := by decide +kernel
theorem dX11_chance_39 : decode cX11_chance 39 = .ok (.ireturn, 1) := by decide +kernel
theorem dX11_chance_40 : decode cX11_chance 40 = .ok (.iconst 0, 1) := by decide +kernel
theorem dX11_chance_41 : decode cX11_chance 41 = .ok (.istore_n 2, 1) := by decide +kernel
theorem dX11_chance_42 : decode cX11_chance 42 = .ok (.iload_n 2, 1) := by decide +kernel
theorem dX11_chance_43 : decode cX11_chance 43 = .ok (.iload_n 1, 1) := by decide +kernel
theorem dX11_chance_44 : decode cX11_chance 44 = .ok (.if_icmp .ge 16, 3) := by decide +kernel
theorem dX11_chance_47 : decode cX11_chance 47 = .ok (.aload_n 0, 1) := by decide +kernel
theorem dX11_chance_48 : decode cX11_chance 48 = .ok (.getfield 20, 3) := by decide +kernel
theorem dX11_chance_51 : decode cX11_chance 51 = .ok (.invokevirtual 164, 3) := by decide +kernel
theorem dX11_chance_54 : decode cX11_chance 54 = .ok (.iinc 2 1, 3) := by decide +kernel
theorem dX11_chance_57 : decode cX11_chance 57 = .ok (.goto (-15), 3) := by decide +kernel
theorem dX11_chance_60 : decode cX11_chance 60 = .ok (.aload_n 0, 1) := by decide +kernel
theorem dX11_chance_61 : decode cX11_chance 61 = .ok (.getfield 20, 3) := by decide +kernel
theorem dX11_chance_64 : decode cX11_chance 64 = .ok (.getfield 61, 3) := by decide +kernel
theorem dX11_chance_67 : decode cX11_chance 67 = .ok (.ireturn, 1) := by decide +kernel
theorem dX11_reach_0 : decode cX11_reach 0 = .ok (.iload_n 1, 1) := by decide +kernel
theorem dX11_reach_1 : decode cX11_reach 1 = .ok (.invokestatic 167, 3) := by decide +kernel
theorem dX11_reach_4 : decode cX11_reach 4 = .ok (.ifCond .ne 10, 3) := by decide +kernel
theorem dX11_reach_7 : decode cX11_reach 7 = .ok (.aload_n 0, 1) := by decide +kernel
theorem dX11_reach_8 : decode cX11_reach 8 = .ok (.ldc 56, 2) := by decide +kernel
theorem dX11_reach_10 : decode cX11_reach 10 = .ok (.invokevirtual 57, 3) := by decide +kernel
theorem dX11_reach_13 : decode cX11_reach 13 = .ok (.ireturn, 1) := by decide +kernel
theorem dX11_reach_14 : decode cX11_reach 14 = .ok (.aload_n 0, 1) := by decide +kernel
theorem dX11_reach_15 : decode cX11_reach 15 = .ok (.getfield 12, 3) := by decide +kernel
theorem dX11_reach_18 : decode cX11_reach 18 = .ok (.invokevirtual 170, 3) := by decide +kernel
theorem dX11_reach_21 : decode cX11_reach 21 = .ok (.aload_n 0, 1) := by decide +kernel
theorem dX11_reach_22 : decode cX11_reach 22 = .ok (.aload_n 0, 1) := by decide +kernel
theorem dX11_reach_23 : decode cX11_reach 23 = .ok (.getfield 12, 3) := by decide +kernel
theorem dX11_reach_26 : decode cX11_reach 26 = .ok (.iload_n 1, 1) := by decide +kernel
theorem dX11_reach_27 : decode cX11_reach 27 = .ok (.invokevirtual 173, 3) := by decide +kernel
theorem dX11_reach_30 : decode cX11_reach 30 = .ok (.invokevirtual 176, 3) := by decide +kernel
theorem dX11_reach_33 : decode cX11_reach 33 = .ok (.ireturn, 1) := by decide +kernel
theorem dX11_way_0 : decode cX11_way 0 = .ok (.iload_n 1, 1) := by decide +kernel
theorem dX11_way_1 : decode cX11_way 1 = .ok (.invokestatic 167, 3) := by decide +kernel
theorem dX11_way_4 : decode cX11_way 4 = .ok (.ifCond .eq 7, 3) := by decide +kernel
theorem dX11_way_7 : decode cX11_way 7 = .ok (.iload_n 2, 1) := by decide +kernel
theorem dX11_way_8 : decode cX11_way 8 = .ok (.ifCond .ge 10, 3) := by decide +kernel
theorem dX11_way_11 : decode cX11_way 11 = .ok (.aload_n 0, 1) := by decide +kernel
theorem dX11_way_12 : decode cX11_way 12 = .ok (.ldc 56, 2) := by decide +kernel
theorem dX11_way_14 : decode cX11_way 14 = .ok (.invokevirtual 57, 3) := by decide +kernel
theorem dX11_way_17 : decode cX11_way 17 = .ok (.ireturn, 1) := by decide +kernel
theorem dX11_way_18 : decode cX11_way 18 = .ok (.aload_n 0, 1) := by decide +kernel
theorem dX11_way_19 : decode cX11_way 19 = .ok (.getfield 12, 3) := by decide +kernel
theorem dX11_way_22 : decode cX11_way 22 = .ok (.invokevirtual 170, 3) := by decide +kernel
theorem dX11_way_25 : decode cX11_way 25 = .ok (.aload_n 0, 1) := by decide +kernel
theorem dX11_way_26 : decode cX11_way 26 = .ok (.aload_n 0, 1) := by decide +kernel
theorem dX11_way_27 : decode cX11_way 27 = .ok (.getfield 12, 3) := by decide +kernel
theorem dX11_way_30 : decode cX11_way 30 = .ok (.iload_n 1, 1) := by decide +kernel
theorem dX11_way_31 : decode cX11_way 31 = .ok (.iload_n 2, 1) := by decide +kernel
theorem dX11_way_32 : decode cX11_way 32 = .ok (.invokevirtual 179, 3) := by decide +kernel
theorem dX11_way_35 : decode cX11_way 35 = .ok (.invokevirtual 176, 3) := by decide +kernel
theorem dX11_way_38 : decode cX11_way 38 = .ok (.ireturn, 1) := by decide +kernel
theorem dX11_can_0 : decode cX11_can 0 = .ok (.iload_n 1, 1) := by decide +kernel
theorem dX11_can_1 : decode cX11_can 1 = .ok (.invokestatic 52, 3) := by decide +kernel
theorem dX11_can_4 : decode cX11_can 4 = .ok (.ifCond .eq 12, 3) := by decide +kernel
theorem dX11_can_7 : decode cX11_can 7 = .ok (.iload_n 2, 1) := by decide +kernel
theorem dX11_can_8 : decode cX11_can 8 = .ok (.ifCond .lt 8, 3) := by decide +kernel
theorem dX11_can_11 : decode cX11_can 11 = .ok (.iload_n 2, 1) := by decide +kernel
theorem dX11_can_12 : decode cX11_can 12 = .ok (.iconst 1, 1) := by decide +kernel
theorem dX11_can_13 : decode cX11_can 13 = .ok (.if_icmp .le 10, 3) := by decide +kernel
theorem dX11_can_16 : decode cX11_can 16 = .ok (.aload_n 0, 1) := by decide +kernel
theorem dX11_can_17 : decode cX11_can 17 = .ok (.ldc 56, 2) := by decide +kernel
theorem dX11_can_19 : decode cX11_can 19 = .ok (.invokevirtual 57, 3) := by decide +kernel
theorem dX11_can_22 : decode cX11_can 22 = .ok (.ireturn, 1) := by decide +kernel
theorem dX11_can_23 : decode cX11_can 23 = .ok (.aload_n 0, 1) := by decide +kernel
theorem dX11_can_24 : decode cX11_can 24 = .ok (.getfield 12, 3) := by decide +kernel
theorem dX11_can_27 : decode cX11_can 27 = .ok (.invokevirtual 170, 3) := by decide +kernel
theorem dX11_can_30 : decode cX11_can 30 = .ok (.aload_n 0, 1) := by decide +kernel
theorem dX11_can_31 : decode cX11_can 31 = .ok (.getfield 12, 3) := by decide +kernel
theorem dX11_can_34 : decode cX11_can 34 = .ok (.iload_n 1, 1) := by decide +kernel
theorem dX11_can_35 : decode cX11_can 35 = .ok (.invokevirtual 182, 3) := by decide +kernel
theorem dX11_can_38 : decode cX11_can 38 = .ok (.istore_n 3, 1) := by decide +kernel
theorem dX11_can_39 : decode cX11_can 39 = .ok (.iload_n 3, 1) := by decide +kernel
theorem dX11_can_40 : decode cX11_can 40 = .ok (.iconst (-1), 1) := by decide +kernel
theorem dX11_can_41 : decode cX11_can 41 = .ok (.if_icmp .ne 10, 3) := by decide +kernel
theorem dX11_can_44 : decode cX11_can 44 = .ok (.aload_n 0, 1) := by decide +kernel
theorem dX11_can_45 : decode cX11_can 45 = .ok (.ldc 185, 2) := by decide +kernel
theorem dX11_can_47 : decode cX11_can 47 = .ok (.invokevirtual 57, 3) := by decide +kernel
theorem dX11_can_50 : decode cX11_can 50 = .ok (.ireturn, 1) := by decide +kernel
theorem dX11_can_51 : decode cX11_can 51 = .ok (.iload_n 2, 1) := by decide +kernel
theorem dX11_can_52 : decode cX11_can 52 = .ok (.ifCond .ne 14, 3) := by decide +kernel
theorem dX11_can_55 : decode cX11_can 55 = .ok (.aload_n 0, 1) := by decide +kernel
theorem dX11_can_56 : decode cX11_can 56 = .ok (.getfield 12, 3) := by decide +kernel
theorem dX11_can_59 : decode cX11_can 59 = .ok (.iload_n 3, 1) := by decide +kernel
theorem dX11_can_60 : decode cX11_can 60 = .ok (.invokevirtual 173, 3) := by decide +kernel
theorem dX11_can_63 : decode cX11_can 63 = .ok (.goto 4, 3) := by decide +kernel
theorem dX11_can_66 : decode cX11_can 66 = .ok (.iload_n 3, 1) := by decide +kernel
theorem dX11_can_67 : decode cX11_can 67 = .ok (.ireturn, 1) := by decide +kernel
theorem dX11_reached_0 : decode cX11_reached 0 = .ok (.aload_n 0, 1) := by decide +kernel
theorem dX11_reached_1 : decode cX11_reached 1 = .ok (.getfield 12, 3) := by decide +kernel
theorem dX11_reached_4 : decode cX11_reached 4 = .ok (.invokevirtual 170, 3) := by decide +kernel
theorem dX11_reached_7 : decode cX11_reached 7 = .ok (.aload_n 0, 1) := by decide +kernel
theorem dX11_reached_8 : decode cX11_reached 8 = .ok (.getfield 12, 3) := by decide +kernel
theorem dX11_reached_11 : decode cX11_reached 11 = .ok (.getfield 186, 3) := by decide +kernel
theorem dX11_reached_14 : decode cX11_reached 14 = .ok (.ireturn, 1) := by decide +kernel
theorem dX11_stays_0 : decode cX11_stays 0 = .ok (.iload_n 1, 1) := by decide +kernel
theorem dX11_stays_1 : decode cX11_stays 1 = .ok (.invokestatic 189, 3) := by decide +kernel
theorem dX11_stays_4 : decode cX11_stays 4 = .ok (.ifCond .eq 8, 3) := by decide +kernel
theorem dX11_stays_7 : decode cX11_stays 7 = .ok (.iload_n 2, 1) := by decide +kernel
theorem dX11_stays_8 : decode cX11_stays 8 = .ok (.iconst (-1), 1) := by decide +kernel
theorem dX11_stays_9 : decode cX11_stays 9 = .ok (.if_icmp .ge 10, 3) := by decide +kernel
theorem dX11_stays_12 : decode cX11_stays 12 = .ok (.aload_n 0, 1) := by decide +kernel
theorem dX11_stays_13 : decode cX11_stays 13 = .ok (.ldc 56, 2) := by decide +kernel
theorem dX11_stays_15 : decode cX11_stays 15 = .ok (.invokevirtual 57, 3) := by decide +kernel
theorem dX11_stays_18 : decode cX11_stays 18 = .ok (.ireturn, 1) := by decide +kernel
theorem dX11_stays_19 : decode cX11_stays 19 = .ok (.iconst 0, 1) := by decide +kernel
theorem dX11_stays_20 : decode cX11_stays 20 = .ok (.istore_n 3, 1) := by decide +kernel
theorem dX11_stays_21 : decode cX11_stays 21 = .ok (.iconst 0, 1) := by decide +kernel
theorem dX11_stays_22 : decode cX11_stays 22 = .ok (.istore 4, 2) := by decide +kernel
theorem dX11_stays_24 : decode cX11_stays 24 = .ok (.iload 4, 2) := by decide +kernel
theorem dX11_stays_26 : decode cX11_stays 26 = .ok (.iload_n 1, 1) := by decide +kernel
theorem dX11_stays_27 : decode cX11_stays 27 = .ok (.iload_n 1, 1) := by decide +kernel
theorem dX11_stays_28 : decode cX11_stays 28 = .ok (.imul, 1) := by decide +kernel
theorem dX11_stays_29 : decode cX11_stays 29 = .ok (.iload_n 1, 1) := by decide +kernel
theorem dX11_stays_30 : decode cX11_stays 30 = .ok (.imul, 1) := by decide +kernel
theorem dX11_stays_31 : decode cX11_stays 31 = .ok (.if_icmp .ge 39, 3) := by decide +kernel
theorem dX11_stays_34 : decode cX11_stays 34 = .ok (.aload_n 0, 1) := by decide +kernel
theorem dX11_stays_35 : decode cX11_stays 35 = .ok (.getfield 20, 3) := by decide +kernel
theorem dX11_stays_38 : decode cX11_stays 38 = .ok (.iload 4, 2) := by decide +kernel
theorem dX11_stays_40 : decode cX11_stays 40 = .ok (.iload_n 1, 1) := by decide +kernel
theorem dX11_stays_41 : decode cX11_stays 41 = .ok (.invokevirtual 192, 3) := by decide +kernel
theorem dX11_stays_44 : decode cX11_stays 44 = .ok (.ifCond .eq 20, 3) := by decide +kernel
theorem dX11_stays_47 : decode cX11_stays 47 = .ok (.iload_n 3, 1) := by decide +kernel
theorem dX11_stays_48 : decode cX11_stays 48 = .ok (.iconst 1, 1) := by decide +kernel
theorem dX11_stays_49 : decode cX11_stays 49 = .ok (.isub, 1) := by decide +kernel
theorem dX11_stays_50 : decode cX11_stays 50 = .ok (.iload_n 2, 1) := by decide +kernel
theorem dX11_stays_51 : decode cX11_stays 51 = .ok (.if_icmp .ne 10, 3) := by decide +kernel
theorem dX11_stays_54 : decode cX11_stays 54 = .ok (.iload_n 2, 1) := by decide +kernel
theorem dX11_stays_55 : decode cX11_stays 55 = .ok (.ifCond .lt 6, 3) := by decide +kernel
theorem dX11_stays_58 : decode cX11_stays 58 = .ok (.iload 4, 2) := by decide +kernel
theorem dX11_stays_60 : decode cX11_stays 60 = .ok (.ireturn, 1) := by decide +kernel
theorem dX11_stays_61 : decode cX11_stays 61 = .ok (.iinc 3 1, 3) := by decide +kernel
theorem dX11_stays_64 : decode cX11_stays 64 = .ok (.iinc 4 1, 3) := by decide +kernel
theorem dX11_stays_67 : decode cX11_stays 67 = .ok (.goto (-43), 3) := by decide +kernel
theorem dX11_stays_70 : decode cX11_stays 70 = .ok (.iload_n 2, 1) := by decide +kernel
theorem dX11_stays_71 : decode cX11_stays 71 = .ok (.iconst (-1), 1) := by decide +kernel
theorem dX11_stays_72 : decode cX11_stays 72 = .ok (.if_icmp .ne 7, 3) := by decide +kernel
theorem dX11_stays_75 : decode cX11_stays 75 = .ok (.iload_n 3, 1) := by decide +kernel
theorem dX11_stays_76 : decode cX11_stays 76 = .ok (.goto 9, 3) := by decide +kernel
theorem dX11_stays_79 : decode cX11_stays 79 = .ok (.aload_n 0, 1) := by decide +kernel
theorem dX11_stays_80 : decode cX11_stays 80 = .ok (.ldc 185, 2) := by decide +kernel
theorem dX11_stays_82 : decode cX11_stays 82 = .ok (.invokevirtual 57, 3) := by decide +kernel
theorem dX11_stays_85 : decode cX11_stays 85 = .ok (.ireturn, 1) := by decide +kernel
theorem dX11_bars_0 : decode cX11_bars 0 = .ok (.iload_n 1, 1) := by decide +kernel
theorem dX11_bars_1 : decode cX11_bars 1 = .ok (.invokestatic 52, 3) := by decide +kernel
theorem dX11_bars_4 : decode cX11_bars 4 = .ok (.ifCond .eq 10, 3) := by decide +kernel
theorem dX11_bars_7 : decode cX11_bars 7 = .ok (.iload_n 2, 1) := by decide +kernel
theorem dX11_bars_8 : decode cX11_bars 8 = .ok (.invokestatic 189, 3) := by decide +kernel
theorem dX11_bars_11 : decode cX11_bars 11 = .ok (.ifCond .ne 10, 3) := by decide +kernel
theorem dX11_bars_14 : decode cX11_bars 14 = .ok (.aload_n 0, 1) := by decide +kernel
theorem dX11_bars_15 : decode cX11_bars 15 = .ok (.ldc 56, 2) := by decide +kernel
theorem dX11_bars_17 : decode cX11_bars 17 = .ok (.invokevirtual 57, 3) := by decide +kernel
theorem dX11_bars_20 : decode cX11_bars 20 = .ok (.ireturn, 1) := by decide +kernel
theorem dX11_bars_21 : decode cX11_bars 21 = .ok (.aload_n 0, 1) := by decide +kernel
theorem dX11_bars_22 : decode cX11_bars 22 = .ok (.getfield 20, 3) := by decide +kernel
theorem dX11_bars_25 : decode cX11_bars 25 = .ok (.getfield 61, 3) := by decide +kernel
theorem dX11_bars_28 : decode cX11_bars 28 = .ok (.invokestatic 69, 3) := by decide +kernel
theorem dX11_bars_31 : decode cX11_bars 31 = .ok (.istore_n 3, 1) := by decide +kernel
theorem dX11_bars_32 : decode cX11_bars 32 = .ok (.iload_n 3, 1) := by decide +kernel
theorem dX11_bars_33 : decode cX11_bars 33 = .ok (.ifCond .ne 10, 3) := by decide +kernel
theorem dX11_bars_36 : decode cX11_bars 36 = .ok (.aload_n 0, 1) := by decide +kernel
theorem dX11_bars_37 : decode cX11_bars 37 = .ok (.ldc 159, 2) := by decide +kernel
theorem dX11_bars_39 : decode cX11_bars 39 = .ok (.invokevirtual 57, 3) := by decide +kernel
theorem dX11_bars_42 : decode cX11_bars 42 = .ok (.ireturn, 1) := by decide +kernel
theorem dX11_bars_43 : decode cX11_bars 43 = .ok (.iload_n 3, 1) := by decide +kernel
theorem dX11_bars_44 : decode cX11_bars 44 = .ok (.getstatic 73, 3) := by decide +kernel
theorem dX11_bars_47 : decode cX11_bars 47 = .ok (.iload_n 1, 1) := by decide +kernel
theorem dX11_bars_48 : decode cX11_bars 48 = .ok (.iaload, 1) := by decide +kernel
theorem dX11_bars_49 : decode cX11_bars 49 = .ok (.imul, 1) := by decide +kernel
theorem dX11_bars_50 : decode cX11_bars 50 = .ok (.istore 4, 2) := by decide +kernel
theorem dX11_bars_52 : decode cX11_bars 52 = .ok (.iconst 0, 1) := by decide +kernel
theorem dX11_bars_53 : decode cX11_bars 53 = .ok (.istore 5, 2) := by decide +kernel
theorem dX11_bars_55 : decode cX11_bars 55 = .ok (.iload 5, 2) := by decide +kernel
theorem dX11_bars_57 : decode cX11_bars 57 = .ok (.iload_n 2, 1) := by decide +kernel
theorem dX11_bars_58 : decode cX11_bars 58 = .ok (.iload_n 2, 1) := by decide +kernel
theorem dX11_bars_59 : decode cX11_bars 59 = .ok (.imul, 1) := by decide +kernel
theorem dX11_bars_60 : decode cX11_bars 60 = .ok (.iload_n 2, 1) := by decide +kernel
theorem dX11_bars_61 : decode cX11_bars 61 = .ok (.imul, 1) := by decide +kernel
theorem dX11_bars_62 : decode cX11_bars 62 = .ok (.if_icmp .ge 48, 3) := by decide +kernel
theorem dX11_bars_65 : decode cX11_bars 65 = .ok (.aload_n 0, 1) := by decide +kernel
theorem dX11_bars_66 : decode cX11_bars 66 = .ok (.getfield 20, 3) := by decide +kernel
theorem dX11_bars_69 : decode cX11_bars 69 = .ok (.iload 5, 2) := by decide +kernel
theorem dX11_bars_71 : decode cX11_bars 71 = .ok (.iload_n 2, 1) := by decide +kernel
theorem dX11_bars_72 : decode cX11_bars 72 = .ok (.invokevirtual 192, 3) := by decide +kernel
theorem dX11_bars_75 : decode cX11_bars 75 = .ok (.ifCond .eq 29, 3) := by decide +kernel
theorem dX11_bars_78 : decode cX11_bars 78 = .ok (.iload 4, 2) := by decide +kernel
theorem dX11_bars_80 : decode cX11_bars 80 = .ok (.iload 5, 2) := by decide +kernel
theorem dX11_bars_82 : decode cX11_bars 82 = .ok (.iload_n 2, 1) := by decide +kernel
theorem dX11_bars_83 : decode cX11_bars 83 = .ok (.invokestatic 196, 3) := by decide +kernel
theorem dX11_bars_86 : decode cX11_bars 86 = .ok (.aload_n 0, 1) := by decide +kernel
theorem dX11_bars_87 : decode cX11_bars 87 = .ok (.getfield 20, 3) := by decide +kernel
theorem dX11_bars_90 : decode cX11_bars 90 = .ok (.getfield 61, 3) := by decide +kernel
theorem dX11_bars_93 : decode cX11_bars 93 = .ok (.iload 5, 2) := by decide +kernel
theorem dX11_bars_95 : decode cX11_bars 95 = .ok (.iload_n 2, 1) := by decide +kernel
theorem dX11_bars_96 : decode cX11_bars 96 = .ok (.invokestatic 196, 3) := by decide +kernel
theorem dX11_bars_99 : decode cX11_bars 99 = .ok (.if_icmp .eq 5, 3) := by decide +kernel
theorem dX11_bars_102 : decode cX11_bars 102 = .ok (.iconst 1, 1) := by decide +kernel
theorem dX11_bars_103 : decode cX11_bars 103 = .ok (.ireturn, 1) := by decide +kernel
theorem dX11_bars_104 : decode cX11_bars 104 = .ok (.iinc 5 1, 3) := by decide +kernel
theorem dX11_bars_107 : decode cX11_bars 107 = .ok (.goto (-52), 3) := by decide +kernel
theorem dX11_bars_110 : decode cX11_bars 110 = .ok (.iconst 0, 1) := by decide +kernel
theorem dX11_bars_111 : decode cX11_bars 111 = .ok (.ireturn, 1) := by decide +kernel
theorem dX11_ways_0 : decode cX11_ways 0 = .ok (.iload_n 1, 1) := by decide +kernel
theorem dX11_ways_1 : decode cX11_ways 1 = .ok (.ifCond .lt 16, 3) := by decide +kernel
theorem dX11_ways_4 : decode cX11_ways 4 = .ok (.iload_n 1, 1) := by decide +kernel
theorem dX11_ways_5 : decode cX11_ways 5 = .ok (.bipush 6, 2) := by decide +kernel
theorem dX11_ways_7 : decode cX11_ways 7 = .ok (.if_icmp .gt 10, 3) := by decide +kernel
theorem dX11_ways_10 : decode cX11_ways 10 = .ok (.iload_n 2, 1) := by decide +kernel
theorem dX11_ways_11 : decode cX11_ways 11 = .ok (.invokestatic 167, 3) := by decide +kernel
theorem dX11_ways_14 : decode cX11_ways 14 = .ok (.ifCond .ne 11, 3) := by decide +kernel
theorem dX11_ways_17 : decode cX11_ways 17 = .ok (.aload_n 0, 1) := by decide +kernel
theorem dX11_ways_18 : decode cX11_ways 18 = .ok (.ldc 56, 2) := by decide +kernel
theorem dX11_ways_20 : decode cX11_ways 20 = .ok (.invokevirtual 57, 3) := by decide +kernel
theorem dX11_ways_23 : decode cX11_ways 23 = .ok (.i2l, 1) := by decide +kernel
theorem dX11_ways_24 : decode cX11_ways 24 = .ok (.lreturn, 1) := by decide +kernel
theorem dX11_ways_25 : decode cX11_ways 25 = .ok (.aload_n 0, 1) := by decide +kernel
theorem dX11_ways_26 : decode cX11_ways 26 = .ok (.getfield 12, 3) := by decide +kernel
theorem dX11_ways_29 : decode cX11_ways 29 = .ok (.iload_n 1, 1) := by decide +kernel
theorem dX11_ways_30 : decode cX11_ways 30 = .ok (.invokevirtual 199, 3) := by decide +kernel
theorem dX11_ways_33 : decode cX11_ways 33 = .ok (.aload_n 0, 1) := by decide +kernel
theorem dX11_ways_34 : decode cX11_ways 34 = .ok (.getfield 12, 3) := by decide +kernel
theorem dX11_ways_37 : decode cX11_ways 37 = .ok (.iload_n 2, 1) := by decide +kernel
theorem dX11_ways_38 : decode cX11_ways 38 = .ok (.invokevirtual 202, 3) := by decide +kernel
theorem dX11_ways_41 : decode cX11_ways 41 = .ok (.lreturn, 1) := by decide +kernel
theorem dX11_allWays_0 : decode cX11_allWays 0 = .ok (.iload_n 1, 1) := by decide +kernel
theorem dX11_allWays_1 : decode cX11_allWays 1 = .ok (.ifCond .lt 9, 3) := by decide +kernel
theorem dX11_allWays_4 : decode cX11_allWays 4 = .ok (.iload_n 1, 1) := by decide +kernel
theorem dX11_allWays_5 : decode cX11_allWays 5 = .ok (.bipush 6, 2) := by decide +kernel
theorem dX11_allWays_7 : decode cX11_allWays 7 = .ok (.if_icmp .le 11, 3) := by decide +kernel
theorem dX11_allWays_10 : decode cX11_allWays 10 = .ok (.aload_n 0, 1) := by decide +kernel
theorem dX11_allWays_11 : decode cX11_allWays 11 = .ok (.ldc 56, 2) := by decide +kernel
theorem dX11_allWays_13 : decode cX11_allWays 13 = .ok (.invokevirtual 57, 3) := by decide +kernel
theorem dX11_allWays_16 : decode cX11_allWays 16 = .ok (.i2l, 1) := by decide +kernel
theorem dX11_allWays_17 : decode cX11_allWays 17 = .ok (.lreturn, 1) := by decide +kernel
theorem dX11_allWays_18 : decode cX11_allWays 18 = .ok (.aload_n 0, 1) := by decide +kernel
theorem dX11_allWays_19 : decode cX11_allWays 19 = .ok (.getfield 12, 3) := by decide +kernel
theorem dX11_allWays_22 : decode cX11_allWays 22 = .ok (.iload_n 1, 1) := by decide +kernel
theorem dX11_allWays_23 : decode cX11_allWays 23 = .ok (.invokevirtual 199, 3) := by decide +kernel
theorem dX11_allWays_26 : decode cX11_allWays 26 = .ok (.aload_n 0, 1) := by decide +kernel
theorem dX11_allWays_27 : decode cX11_allWays 27 = .ok (.getfield 12, 3) := by decide +kernel
theorem dX11_allWays_30 : decode cX11_allWays 30 = .ok (.invokevirtual 206, 3) := by decide +kernel
theorem dX11_allWays_33 : decode cX11_allWays 33 = .ok (.lreturn, 1) := by decide +kernel
theorem dX11_fences_0 : decode cX11_fences 0 = .ok (.iload_n 1, 1) := by decide +kernel
theorem dX11_fences_1 : decode cX11_fences 1 = .ok (.invokestatic 52, 3) := by decide +kernel
theorem dX11_fences_4 : decode cX11_fences 4 = .ok (.ifCond .eq 12, 3) := by decide +kernel
theorem dX11_fences_7 : decode cX11_fences 7 = .ok (.iload_n 2, 1) := by decide +kernel
theorem dX11_fences_8 : decode cX11_fences 8 = .ok (.ifCond .lt 8, 3) := by decide +kernel
theorem dX11_fences_11 : decode cX11_fences 11 = .ok (.iload_n 2, 1) := by decide +kernel
theorem dX11_fences_12 : decode cX11_fences 12 = .ok (.iconst 1, 1) := by decide +kernel
theorem dX11_fences_13 : decode cX11_fences 13 = .ok (.if_icmp .le 10, 3) := by decide +kernel
theorem dX11_fences_16 : decode cX11_fences 16 = .ok (.aload_n 0, 1) := by decide +kernel
theorem dX11_fences_17 : decode cX11_fences 17 = .ok (.ldc 56, 2) := by decide +kernel
theorem dX11_fences_19 : decode cX11_fences 19 = .ok (.invokevirtual 57, 3) := by decide +kernel
theorem dX11_fences_22 : decode cX11_fences 22 = .ok (.ireturn, 1) := by decide +kernel
theorem dX11_fences_23 : decode cX11_fences 23 = .ok (.aload_n 0, 1) := by decide +kernel
theorem dX11_fences_24 : decode cX11_fences 24 = .ok (.getfield 20, 3) := by decide +kernel
theorem dX11_fences_27 : decode cX11_fences 27 = .ok (.getfield 61, 3) := by decide +kernel
theorem dX11_fences_30 : decode cX11_fences 30 = .ok (.iload_n 1, 1) := by decide +kernel
