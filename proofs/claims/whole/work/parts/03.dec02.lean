theorem dX11_fences_31 : decode cX11_fences 31 = .ok (.invokestatic 210, 3) := by decide +kernel
theorem dX11_fences_34 : decode cX11_fences 34 = .ok (.ifCond .eq 10, 3) := by decide +kernel
theorem dX11_fences_37 : decode cX11_fences 37 = .ok (.aload_n 0, 1) := by decide +kernel
theorem dX11_fences_38 : decode cX11_fences 38 = .ok (.ldc 185, 2) := by decide +kernel
theorem dX11_fences_40 : decode cX11_fences 40 = .ok (.invokevirtual 57, 3) := by decide +kernel
theorem dX11_fences_43 : decode cX11_fences 43 = .ok (.ireturn, 1) := by decide +kernel
theorem dX11_fences_44 : decode cX11_fences 44 = .ok (.aload_n 0, 1) := by decide +kernel
theorem dX11_fences_45 : decode cX11_fences 45 = .ok (.getfield 12, 3) := by decide +kernel
theorem dX11_fences_48 : decode cX11_fences 48 = .ok (.iload_n 1, 1) := by decide +kernel
theorem dX11_fences_49 : decode cX11_fences 49 = .ok (.invokevirtual 213, 3) := by decide +kernel
theorem dX11_fences_52 : decode cX11_fences 52 = .ok (.istore_n 3, 1) := by decide +kernel
theorem dX11_fences_53 : decode cX11_fences 53 = .ok (.iload_n 2, 1) := by decide +kernel
theorem dX11_fences_54 : decode cX11_fences 54 = .ok (.ifCond .ne 10, 3) := by decide +kernel
theorem dX11_fences_57 : decode cX11_fences 57 = .ok (.iload_n 3, 1) := by decide +kernel
theorem dX11_fences_58 : decode cX11_fences 58 = .ok (.invokestatic 216, 3) := by decide +kernel
theorem dX11_fences_61 : decode cX11_fences 61 = .ok (.goto 4, 3) := by decide +kernel
theorem dX11_fences_64 : decode cX11_fences 64 = .ok (.iload_n 3, 1) := by decide +kernel
theorem dX11_fences_65 : decode cX11_fences 65 = .ok (.ireturn, 1) := by decide +kernel
theorem dX11_was_0 : decode cX11_was 0 = .ok (.iload_n 1, 1) := by decide +kernel
theorem dX11_was_1 : decode cX11_was 1 = .ok (.ifCond .lt 18, 3) := by decide +kernel
theorem dX11_was_4 : decode cX11_was 4 = .ok (.iload_n 1, 1) := by decide +kernel
theorem dX11_was_5 : decode cX11_was 5 = .ok (.bipush 6, 2) := by decide +kernel
theorem dX11_was_7 : decode cX11_was 7 = .ok (.if_icmp .gt 12, 3) := by decide +kernel
theorem dX11_was_10 : decode cX11_was 10 = .ok (.iload_n 2, 1) := by decide +kernel
theorem dX11_was_11 : decode cX11_was 11 = .ok (.ifCond .lt 8, 3) := by decide +kernel
theorem dX11_was_14 : decode cX11_was 14 = .ok (.iload_n 2, 1) := by decide +kernel
theorem dX11_was_15 : decode cX11_was 15 = .ok (.iconst 1, 1) := by decide +kernel
theorem dX11_was_16 : decode cX11_was 16 = .ok (.if_icmp .le 10, 3) := by decide +kernel
theorem dX11_was_19 : decode cX11_was 19 = .ok (.aload_n 0, 1) := by decide +kernel
theorem dX11_was_20 : decode cX11_was 20 = .ok (.ldc 56, 2) := by decide +kernel
theorem dX11_was_22 : decode cX11_was 22 = .ok (.invokevirtual 57, 3) := by decide +kernel
theorem dX11_was_25 : decode cX11_was 25 = .ok (.ireturn, 1) := by decide +kernel
theorem dX11_was_26 : decode cX11_was 26 = .ok (.aload_n 0, 1) := by decide +kernel
theorem dX11_was_27 : decode cX11_was 27 = .ok (.getfield 12, 3) := by decide +kernel
theorem dX11_was_30 : decode cX11_was 30 = .ok (.iload_n 1, 1) := by decide +kernel
theorem dX11_was_31 : decode cX11_was 31 = .ok (.invokevirtual 221, 3) := by decide +kernel
theorem dX11_was_34 : decode cX11_was 34 = .ok (.iload_n 2, 1) := by decide +kernel
theorem dX11_was_35 : decode cX11_was 35 = .ok (.ifCond .ne 13, 3) := by decide +kernel
theorem dX11_was_38 : decode cX11_was 38 = .ok (.aload_n 0, 1) := by decide +kernel
theorem dX11_was_39 : decode cX11_was 39 = .ok (.getfield 12, 3) := by decide +kernel
theorem dX11_was_42 : decode cX11_was 42 = .ok (.invokevirtual 224, 3) := by decide +kernel
theorem dX11_was_45 : decode cX11_was 45 = .ok (.goto 14, 3) := by decide +kernel
theorem dX11_was_48 : decode cX11_was 48 = .ok (.aload_n 0, 1) := by decide +kernel
theorem dX11_was_49 : decode cX11_was 49 = .ok (.aload_n 0, 1) := by decide +kernel
theorem dX11_was_50 : decode cX11_was 50 = .ok (.getfield 12, 3) := by decide +kernel
theorem dX11_was_53 : decode cX11_was 53 = .ok (.invokevirtual 227, 3) := by decide +kernel
theorem dX11_was_56 : decode cX11_was 56 = .ok (.invokevirtual 176, 3) := by decide +kernel
theorem dX11_was_59 : decode cX11_was 59 = .ok (.ireturn, 1) := by decide +kernel
theorem dX11_force_0 : decode cX11_force 0 = .ok (.iload_n 1, 1) := by decide +kernel
theorem dX11_force_1 : decode cX11_force 1 = .ok (.invokestatic 52, 3) := by decide +kernel
theorem dX11_force_4 : decode cX11_force 4 = .ok (.ifCond .eq 18, 3) := by decide +kernel
theorem dX11_force_7 : decode cX11_force 7 = .ok (.aload_n 0, 1) := by decide +kernel
theorem dX11_force_8 : decode cX11_force 8 = .ok (.aload_n 0, 1) := by decide +kernel
theorem dX11_force_9 : decode cX11_force 9 = .ok (.getfield 12, 3) := by decide +kernel
theorem dX11_force_12 : decode cX11_force 12 = .ok (.iload_n 1, 1) := by decide +kernel
theorem dX11_force_13 : decode cX11_force 13 = .ok (.invokevirtual 230, 3) := by decide +kernel
theorem dX11_force_16 : decode cX11_force 16 = .ok (.invokevirtual 176, 3) := by decide +kernel
theorem dX11_force_19 : decode cX11_force 19 = .ok (.goto 9, 3) := by decide +kernel
theorem dX11_force_22 : decode cX11_force 22 = .ok (.aload_n 0, 1) := by decide +kernel
theorem dX11_force_23 : decode cX11_force 23 = .ok (.ldc 56, 2) := by decide +kernel
theorem dX11_force_25 : decode cX11_force 25 = .ok (.invokevirtual 57, 3) := by decide +kernel
theorem dX11_force_28 : decode cX11_force 28 = .ok (.ireturn, 1) := by decide +kernel
theorem dX11_seed_0 : decode cX11_seed 0 = .ok (.aload_n 0, 1) := by decide +kernel
theorem dX11_seed_1 : decode cX11_seed 1 = .ok (.getfield 20, 3) := by decide +kernel
theorem dX11_seed_4 : decode cX11_seed 4 = .ok (.getfield 233, 3) := by decide +kernel
theorem dX11_seed_7 : decode cX11_seed 7 = .ok (.istore_n 2, 1) := by decide +kernel
theorem dX11_seed_8 : decode cX11_seed 8 = .ok (.aload_n 0, 1) := by decide +kernel
theorem dX11_seed_9 : decode cX11_seed 9 = .ok (.getfield 20, 3) := by decide +kernel
theorem dX11_seed_12 : decode cX11_seed 12 = .ok (.iload_n 1, 1) := by decide +kernel
theorem dX11_seed_13 : decode cX11_seed 13 = .ok (.putfield 233, 3) := by decide +kernel
theorem dX11_seed_16 : decode cX11_seed 16 = .ok (.iload_n 2, 1) := by decide +kernel
theorem dX11_seed_17 : decode cX11_seed 17 = .ok (.ireturn, 1) := by decide +kernel
theorem dX11_voice_0 : decode cX11_voice 0 = .ok (.iload_n 1, 1) := by decide +kernel
theorem dX11_voice_1 : decode cX11_voice 1 = .ok (.invokestatic 76, 3) := by decide +kernel
theorem dX11_voice_4 : decode cX11_voice 4 = .ok (.ifCond .eq 12, 3) := by decide +kernel
theorem dX11_voice_7 : decode cX11_voice 7 = .ok (.iload_n 2, 1) := by decide +kernel
theorem dX11_voice_8 : decode cX11_voice 8 = .ok (.ifCond .lt 8, 3) := by decide +kernel
theorem dX11_voice_11 : decode cX11_voice 11 = .ok (.iload_n 2, 1) := by decide +kernel
theorem dX11_voice_12 : decode cX11_voice 12 = .ok (.iconst 3, 1) := by decide +kernel
theorem dX11_voice_13 : decode cX11_voice 13 = .ok (.if_icmp .le 10, 3) := by decide +kernel
theorem dX11_voice_16 : decode cX11_voice 16 = .ok (.aload_n 0, 1) := by decide +kernel
theorem dX11_voice_17 : decode cX11_voice 17 = .ok (.ldc 56, 2) := by decide +kernel
theorem dX11_voice_19 : decode cX11_voice 19 = .ok (.invokevirtual 57, 3) := by decide +kernel
theorem dX11_voice_22 : decode cX11_voice 22 = .ok (.ireturn, 1) := by decide +kernel
theorem dX11_voice_23 : decode cX11_voice 23 = .ok (.aload_n 0, 1) := by decide +kernel
theorem dX11_voice_24 : decode cX11_voice 24 = .ok (.getfield 37, 3) := by decide +kernel
theorem dX11_voice_27 : decode cX11_voice 27 = .ok (.iconst 0, 1) := by decide +kernel
theorem dX11_voice_28 : decode cX11_voice 28 = .ok (.putfield 122, 3) := by decide +kernel
theorem dX11_voice_31 : decode cX11_voice 31 = .ok (.aload_n 0, 1) := by decide +kernel
theorem dX11_voice_32 : decode cX11_voice 32 = .ok (.getfield 20, 3) := by decide +kernel
theorem dX11_voice_35 : decode cX11_voice 35 = .ok (.getfield 79, 3) := by decide +kernel
theorem dX11_voice_38 : decode cX11_voice 38 = .ok (.iload_n 1, 1) := by decide +kernel
theorem dX11_voice_39 : decode cX11_voice 39 = .ok (.aaload, 1) := by decide +kernel
theorem dX11_voice_40 : decode cX11_voice 40 = .ok (.astore 4, 2) := by decide +kernel
theorem dX11_voice_42 : decode cX11_voice 42 = .ok (.iload_n 2, 1) := by decide +kernel
theorem dX11_voice_43 : decode cX11_voice 43 = .ok (.tableswitch 58 0 2 #[25, 36, 47], 25) := by decide +kernel
theorem dX11_voice_68 : decode cX11_voice 68 = .ok (.aload 4, 2) := by decide +kernel
theorem dX11_voice_70 : decode cX11_voice 70 = .ok (.iload_n 3, 1) := by decide +kernel
theorem dX11_voice_71 : decode cX11_voice 71 = .ok (.aload_n 0, 1) := by decide +kernel
theorem dX11_voice_72 : decode cX11_voice 72 = .ok (.getfield 37, 3) := by decide +kernel
theorem dX11_voice_75 : decode cX11_voice 75 = .ok (.invokevirtual 236, 3) := by decide +kernel
theorem dX11_voice_78 : decode cX11_voice 78 = .ok (.ireturn, 1) := by decide +kernel
theorem dX11_voice_79 : decode cX11_voice 79 = .ok (.aload 4, 2) := by decide +kernel
theorem dX11_voice_81 : decode cX11_voice 81 = .ok (.iload_n 3, 1) := by decide +kernel
theorem dX11_voice_82 : decode cX11_voice 82 = .ok (.aload_n 0, 1) := by decide +kernel
theorem dX11_voice_83 : decode cX11_voice 83 = .ok (.getfield 37, 3) := by decide +kernel
theorem dX11_voice_86 : decode cX11_voice 86 = .ok (.invokevirtual 240, 3) := by decide +kernel
theorem dX11_voice_89 : decode cX11_voice 89 = .ok (.ireturn, 1) := by decide +kernel
theorem dX11_voice_90 : decode cX11_voice 90 = .ok (.aload 4, 2) := by decide +kernel
theorem dX11_voice_92 : decode cX11_voice 92 = .ok (.iload_n 3, 1) := by decide +kernel
theorem dX11_voice_93 : decode cX11_voice 93 = .ok (.aload_n 0, 1) := by decide +kernel
theorem dX11_voice_94 : decode cX11_voice 94 = .ok (.getfield 37, 3) := by decide +kernel
theorem dX11_voice_97 : decode cX11_voice 97 = .ok (.invokevirtual 243, 3) := by decide +kernel
theorem dX11_voice_100 : decode cX11_voice 100 = .ok (.ireturn, 1) := by decide +kernel
theorem dX11_voice_101 : decode cX11_voice 101 = .ok (.aload 4, 2) := by decide +kernel
theorem dX11_voice_103 : decode cX11_voice 103 = .ok (.iload_n 3, 1) := by decide +kernel
theorem dX11_voice_104 : decode cX11_voice 104 = .ok (.aload_n 0, 1) := by decide +kernel
theorem dX11_voice_105 : decode cX11_voice 105 = .ok (.getfield 37, 3) := by decide +kernel
theorem dX11_voice_108 : decode cX11_voice 108 = .ok (.invokevirtual 246, 3) := by decide +kernel
theorem dX11_voice_111 : decode cX11_voice 111 = .ok (.ireturn, 1) := by decide +kernel
theorem dX11_trace_0 : decode cX11_trace 0 = .ok (.aload_n 0, 1) := by decide +kernel
theorem dX11_trace_1 : decode cX11_trace 1 = .ok (.getfield 37, 3) := by decide +kernel
theorem dX11_trace_4 : decode cX11_trace 4 = .ok (.iload_n 1, 1) := by decide +kernel
theorem dX11_trace_5 : decode cX11_trace 5 = .ok (.invokevirtual 249, 3) := by decide +kernel
theorem dX11_trace_8 : decode cX11_trace 8 = .ok (.ifCond .eq 15, 3) := by decide +kernel
theorem dX11_trace_11 : decode cX11_trace 11 = .ok (.aload_n 0, 1) := by decide +kernel
theorem dX11_trace_12 : decode cX11_trace 12 = .ok (.getfield 37, 3) := by decide +kernel
theorem dX11_trace_15 : decode cX11_trace 15 = .ok (.getfield 252, 3) := by decide +kernel
theorem dX11_trace_18 : decode cX11_trace 18 = .ok (.iload_n 1, 1) := by decide +kernel
theorem dX11_trace_19 : decode cX11_trace 19 = .ok (.iaload, 1) := by decide +kernel
theorem dX11_trace_20 : decode cX11_trace 20 = .ok (.goto 9, 3) := by decide +kernel
theorem dX11_trace_23 : decode cX11_trace 23 = .ok (.aload_n 0, 1) := by decide +kernel
theorem dX11_trace_24 : decode cX11_trace 24 = .ok (.ldc 185, 2) := by decide +kernel
theorem dX11_trace_26 : decode cX11_trace 26 = .ok (.invokevirtual 57, 3) := by decide +kernel
theorem dX11_trace_29 : decode cX11_trace 29 = .ok (.ireturn, 1) := by decide +kernel
theorem dX11_sheet_0 : decode cX11_sheet 0 = .ok (.iload_n 1, 1) := by decide +kernel
theorem dX11_sheet_1 : decode cX11_sheet 1 = .ok (.invokestatic 255, 3) := by decide +kernel
theorem dX11_sheet_4 : decode cX11_sheet 4 = .ok (.ifCond .eq 25, 3) := by decide +kernel
theorem dX11_sheet_7 : decode cX11_sheet 7 = .ok (.iload_n 2, 1) := by decide +kernel
theorem dX11_sheet_8 : decode cX11_sheet 8 = .ok (.ifCond .eq 28, 3) := by decide +kernel
theorem dX11_sheet_11 : decode cX11_sheet 11 = .ok (.iload_n 2, 1) := by decide +kernel
theorem dX11_sheet_12 : decode cX11_sheet 12 = .ok (.bipush 8, 2) := by decide +kernel
theorem dX11_sheet_14 : decode cX11_sheet 14 = .ok (.if_icmp .eq 22, 3) := by decide +kernel
theorem dX11_sheet_17 : decode cX11_sheet 17 = .ok (.iload_n 2, 1) := by decide +kernel
theorem dX11_sheet_18 : decode cX11_sheet 18 = .ok (.bipush 16, 2) := by decide +kernel
theorem dX11_sheet_20 : decode cX11_sheet 20 = .ok (.if_icmp .eq 16, 3) := by decide +kernel
theorem dX11_sheet_23 : decode cX11_sheet 23 = .ok (.iload_n 2, 1) := by decide +kernel
theorem dX11_sheet_24 : decode cX11_sheet 24 = .ok (.bipush 32, 2) := by decide +kernel
theorem dX11_sheet_26 : decode cX11_sheet 26 = .ok (.if_icmp .eq 10, 3) := by decide +kernel
theorem dX11_sheet_29 : decode cX11_sheet 29 = .ok (.aload_n 0, 1) := by decide +kernel
theorem dX11_sheet_30 : decode cX11_sheet 30 = .ok (.ldc 56, 2) := by decide +kernel
theorem dX11_sheet_32 : decode cX11_sheet 32 = .ok (.invokevirtual 57, 3) := by decide +kernel
theorem dX11_sheet_35 : decode cX11_sheet 35 = .ok (.ireturn, 1) := by decide +kernel
theorem dX11_sheet_36 : decode cX11_sheet 36 = .ok (.iload_n 2, 1) := by decide +kernel
theorem dX11_sheet_37 : decode cX11_sheet 37 = .ok (.ifCond .eq 14, 3) := by decide +kernel
theorem dX11_sheet_40 : decode cX11_sheet 40 = .ok (.iload_n 3, 1) := by decide +kernel
theorem dX11_sheet_41 : decode cX11_sheet 41 = .ok (.ifCond .ge 10, 3) := by decide +kernel
theorem dX11_sheet_44 : decode cX11_sheet 44 = .ok (.aload_n 0, 1) := by decide +kernel
theorem dX11_sheet_45 : decode cX11_sheet 45 = .ok (.ldc 159, 2) := by decide +kernel
theorem dX11_sheet_47 : decode cX11_sheet 47 = .ok (.invokevirtual 57, 3) := by decide +kernel
theorem dX11_sheet_50 : decode cX11_sheet 50 = .ok (.ireturn, 1) := by decide +kernel
theorem dX11_sheet_51 : decode cX11_sheet 51 = .ok (.iload_n 2, 1) := by decide +kernel
theorem dX11_sheet_52 : decode cX11_sheet 52 = .ok (.ifCond .eq 16, 3) := by decide +kernel
theorem dX11_sheet_55 : decode cX11_sheet 55 = .ok (.iload_n 3, 1) := by decide +kernel
theorem dX11_sheet_56 : decode cX11_sheet 56 = .ok (.bipush 40, 2) := by decide +kernel
theorem dX11_sheet_58 : decode cX11_sheet 58 = .ok (.if_icmp .le 10, 3) := by decide +kernel
theorem dX11_sheet_61 : decode cX11_sheet 61 = .ok (.aload_n 0, 1) := by decide +kernel
theorem dX11_sheet_62 : decode cX11_sheet 62 = .ok (.ldc 56, 2) := by decide +kernel
theorem dX11_sheet_64 : decode cX11_sheet 64 = .ok (.invokevirtual 57, 3) := by decide +kernel
theorem dX11_sheet_67 : decode cX11_sheet 67 = .ok (.ireturn, 1) := by decide +kernel
theorem dX11_sheet_68 : decode cX11_sheet 68 = .ok (.aload_n 0, 1) := by decide +kernel
theorem dX11_sheet_69 : decode cX11_sheet 69 = .ok (.getfield 45, 3) := by decide +kernel
theorem dX11_sheet_72 : decode cX11_sheet 72 = .ok (.iload_n 1, 1) := by decide +kernel
theorem dX11_sheet_73 : decode cX11_sheet 73 = .ok (.iload_n 2, 1) := by decide +kernel
theorem dX11_sheet_74 : decode cX11_sheet 74 = .ok (.iastore, 1) := by decide +kernel
theorem dX11_sheet_75 : decode cX11_sheet 75 = .ok (.aload_n 0, 1) := by decide +kernel
theorem dX11_sheet_76 : decode cX11_sheet 76 = .ok (.getfield 41, 3) := by decide +kernel
theorem dX11_sheet_79 : decode cX11_sheet 79 = .ok (.iload_n 1, 1) := by decide +kernel
theorem dX11_sheet_80 : decode cX11_sheet 80 = .ok (.aaload, 1) := by decide +kernel
theorem dX11_sheet_81 : decode cX11_sheet 81 = .ok (.iload_n 2, 1) := by decide +kernel
theorem dX11_sheet_82 : decode cX11_sheet 82 = .ok (.ifCond .ne 7, 3) := by decide +kernel
theorem dX11_sheet_85 : decode cX11_sheet 85 = .ok (.iconst 0, 1) := by decide +kernel
theorem dX11_sheet_86 : decode cX11_sheet 86 = .ok (.goto 4, 3) := by decide +kernel
theorem dX11_sheet_89 : decode cX11_sheet 89 = .ok (.iload_n 3, 1) := by decide +kernel
theorem dX11_sheet_90 : decode cX11_sheet 90 = .ok (.invokevirtual 258, 3) := by decide +kernel
theorem dX11_sheet_93 : decode cX11_sheet 93 = .ok (.iconst 1, 1) := by decide +kernel
theorem dX11_sheet_94 : decode cX11_sheet 94 = .ok (.ireturn, 1) := by decide +kernel
theorem dX11_put_0 : decode cX11_put 0 = .ok (.iload_n 1, 1) := by decide +kernel
theorem dX11_put_1 : decode cX11_put 1 = .ok (.invokestatic 255, 3) := by decide +kernel
theorem dX11_put_4 : decode cX11_put 4 = .ok (.ifCond .ne 10, 3) := by decide +kernel
theorem dX11_put_7 : decode cX11_put 7 = .ok (.aload_n 0, 1) := by decide +kernel
theorem dX11_put_8 : decode cX11_put 8 = .ok (.ldc 56, 2) := by decide +kernel
theorem dX11_put_10 : decode cX11_put 10 = .ok (.invokevirtual 57, 3) := by decide +kernel
theorem dX11_put_13 : decode cX11_put 13 = .ok (.ireturn, 1) := by decide +kernel
theorem dX11_put_14 : decode cX11_put 14 = .ok (.aload_n 0, 1) := by decide +kernel
theorem dX11_put_15 : decode cX11_put 15 = .ok (.getfield 45, 3) := by decide +kernel
theorem dX11_put_18 : decode cX11_put 18 = .ok (.iload_n 1, 1) := by decide +kernel
theorem dX11_put_19 : decode cX11_put 19 = .ok (.iaload, 1) := by decide +kernel
theorem dX11_put_20 : decode cX11_put 20 = .ok (.ifCond .ne 10, 3) := by decide +kernel
theorem dX11_put_23 : decode cX11_put 23 = .ok (.aload_n 0, 1) := by decide +kernel
theorem dX11_put_24 : decode cX11_put 24 = .ok (.ldc 185, 2) := by decide +kernel
theorem dX11_put_26 : decode cX11_put 26 = .ok (.invokevirtual 57, 3) := by decide +kernel
theorem dX11_put_29 : decode cX11_put 29 = .ok (.ireturn, 1) := by decide +kernel
theorem dX11_put_30 : decode cX11_put 30 = .ok (.aload_n 0, 1) := by decide +kernel
theorem dX11_put_31 : decode cX11_put 31 = .ok (.getfield 41, 3) := by decide +kernel
theorem dX11_put_34 : decode cX11_put 34 = .ok (.iload_n 1, 1) := by decide +kernel
theorem dX11_put_35 : decode cX11_put 35 = .ok (.aaload, 1) := by decide +kernel
theorem dX11_put_36 : decode cX11_put 36 = .ok (.iload_n 2, 1) := by decide +kernel
theorem dX11_put_37 : decode cX11_put 37 = .ok (.invokevirtual 249, 3) := by decide +kernel
theorem dX11_put_40 : decode cX11_put 40 = .ok (.ifCond .ne 10, 3) := by decide +kernel
theorem dX11_put_43 : decode cX11_put 43 = .ok (.aload_n 0, 1) := by decide +kernel
theorem dX11_put_44 : decode cX11_put 44 = .ok (.ldc 56, 2) := by decide +kernel
theorem dX11_put_46 : decode cX11_put 46 = .ok (.invokevirtual 57, 3) := by decide +kernel
theorem dX11_put_49 : decode cX11_put 49 = .ok (.ireturn, 1) := by decide +kernel
theorem dX11_put_50 : decode cX11_put 50 = .ok (.aload_n 0, 1) := by decide +kernel
theorem dX11_put_51 : decode cX11_put 51 = .ok (.getfield 41, 3) := by decide +kernel
theorem dX11_put_54 : decode cX11_put 54 = .ok (.iload_n 1, 1) := by decide +kernel
theorem dX11_put_55 : decode cX11_put 55 = .ok (.aaload, 1) := by decide +kernel
theorem dX11_put_56 : decode cX11_put 56 = .ok (.getfield 252, 3) := by decide +kernel
theorem dX11_put_59 : decode cX11_put 59 = .ok (.iload_n 2, 1) := by decide +kernel
theorem dX11_put_60 : decode cX11_put 60 = .ok (.aload_n 0, 1) := by decide +kernel
theorem dX11_put_61 : decode cX11_put 61 = .ok (.getfield 45, 3) := by decide +kernel
theorem dX11_put_64 : decode cX11_put 64 = .ok (.iload_n 1, 1) := by decide +kernel
theorem dX11_put_65 : decode cX11_put 65 = .ok (.iaload, 1) := by decide +kernel
theorem dX11_put_66 : decode cX11_put 66 = .ok (.bipush 32, 2) := by decide +kernel
theorem dX11_put_68 : decode cX11_put 68 = .ok (.if_icmp .ne 7, 3) := by decide +kernel
theorem dX11_put_71 : decode cX11_put 71 = .ok (.iload_n 3, 1) := by decide +kernel
theorem dX11_put_72 : decode cX11_put 72 = .ok (.goto 15, 3) := by decide +kernel
theorem dX11_put_75 : decode cX11_put 75 = .ok (.iload_n 3, 1) := by decide +kernel
theorem dX11_put_76 : decode cX11_put 76 = .ok (.iconst 1, 1) := by decide +kernel
theorem dX11_put_77 : decode cX11_put 77 = .ok (.aload_n 0, 1) := by decide +kernel
theorem dX11_put_78 : decode cX11_put 78 = .ok (.getfield 45, 3) := by decide +kernel
theorem dX11_put_81 : decode cX11_put 81 = .ok (.iload_n 1, 1) := by decide +kernel
theorem dX11_put_82 : decode cX11_put 82 = .ok (.iaload, 1) := by decide +kernel
theorem dX11_put_83 : decode cX11_put 83 = .ok (.ishl, 1) := by decide +kernel
theorem dX11_put_84 : decode cX11_put 84 = .ok (.iconst 1, 1) := by decide +kernel
theorem dX11_put_85 : decode cX11_put 85 = .ok (.isub, 1) := by decide +kernel
theorem dX11_put_86 : decode cX11_put 86 = .ok (.iand, 1) := by decide +kernel
theorem dX11_put_87 : decode cX11_put 87 = .ok (.iastore, 1) := by decide +kernel
theorem dX11_put_88 : decode cX11_put 88 = .ok (.iconst 1, 1) := by decide +kernel
theorem dX11_put_89 : decode cX11_put 89 = .ok (.ireturn, 1) := by decide +kernel
theorem dX11_move_0 : decode cX11_move 0 = .ok (.iload_n 1, 1) := by decide +kernel
theorem dX11_move_1 : decode cX11_move 1 = .ok (.invokestatic 255, 3) := by decide +kernel
theorem dX11_move_4 : decode cX11_move 4 = .ok (.ifCond .eq 10, 3) := by decide +kernel
theorem dX11_move_7 : decode cX11_move 7 = .ok (.iload_n 3, 1) := by decide +kernel
theorem dX11_move_8 : decode cX11_move 8 = .ok (.invokestatic 255, 3) := by decide +kernel
theorem dX11_move_11 : decode cX11_move 11 = .ok (.ifCond .ne 10, 3) := by decide +kernel
theorem dX11_move_14 : decode cX11_move 14 = .ok (.aload_n 0, 1) := by decide +kernel
theorem dX11_move_15 : decode cX11_move 15 = .ok (.ldc 56, 2) := by decide +kernel
theorem dX11_move_17 : decode cX11_move 17 = .ok (.invokevirtual 57, 3) := by decide +kernel
theorem dX11_move_20 : decode cX11_move 20 = .ok (.ireturn, 1) := by decide +kernel
theorem dX11_move_21 : decode cX11_move 21 = .ok (.aload_n 0, 1) := by decide +kernel
theorem dX11_move_22 : decode cX11_move 22 = .ok (.getfield 45, 3) := by decide +kernel
theorem dX11_move_25 : decode cX11_move 25 = .ok (.iload_n 1, 1) := by decide +kernel
theorem dX11_move_26 : decode cX11_move 26 = .ok (.iaload, 1) := by decide +kernel
theorem dX11_move_27 : decode cX11_move 27 = .ok (.ifCond .eq 12, 3) := by decide +kernel
theorem dX11_move_30 : decode cX11_move 30 = .ok (.aload_n 0, 1) := by decide +kernel
theorem dX11_move_31 : decode cX11_move 31 = .ok (.getfield 45, 3) := by decide +kernel
theorem dX11_move_34 : decode cX11_move 34 = .ok (.iload_n 3, 1) := by decide +kernel
theorem dX11_move_35 : decode cX11_move 35 = .ok (.iaload, 1) := by decide +kernel
theorem dX11_move_36 : decode cX11_move 36 = .ok (.ifCond .ne 10, 3) := by decide +kernel
theorem dX11_move_39 : decode cX11_move 39 = .ok (.aload_n 0, 1) := by decide +kernel
theorem dX11_move_40 : decode cX11_move 40 = .ok (.ldc 185, 2) := by decide +kernel
theorem dX11_move_42 : decode cX11_move 42 = .ok (.invokevirtual 57, 3) := by decide +kernel
theorem dX11_move_45 : decode cX11_move 45 = .ok (.ireturn, 1) := by decide +kernel
theorem dX11_move_46 : decode cX11_move 46 = .ok (.aload_n 0, 1) := by decide +kernel
theorem dX11_move_47 : decode cX11_move 47 = .ok (.getfield 45, 3) := by decide +kernel
theorem dX11_move_50 : decode cX11_move 50 = .ok (.iload_n 1, 1) := by decide +kernel
theorem dX11_move_51 : decode cX11_move 51 = .ok (.iaload, 1) := by decide +kernel
theorem dX11_move_52 : decode cX11_move 52 = .ok (.aload_n 0, 1) := by decide +kernel
theorem dX11_move_53 : decode cX11_move 53 = .ok (.getfield 45, 3) := by decide +kernel
theorem dX11_move_56 : decode cX11_move 56 = .ok (.iload_n 3, 1) := by decide +kernel
theorem dX11_move_57 : decode cX11_move 57 = .ok (.iaload, 1) := by decide +kernel
theorem dX11_move_58 : decode cX11_move 58 = .ok (.if_icmp .eq 10, 3) := by decide +kernel
theorem dX11_move_61 : decode cX11_move 61 = .ok (.aload_n 0, 1) := by decide +kernel
theorem dX11_move_62 : decode cX11_move 62 = .ok (.ldc 118, 2) := by decide +kernel
theorem dX11_move_64 : decode cX11_move 64 = .ok (.invokevirtual 57, 3) := by decide +kernel
theorem dX11_move_67 : decode cX11_move 67 = .ok (.ireturn, 1) := by decide +kernel
theorem dX11_move_68 : decode cX11_move 68 = .ok (.aload_n 0, 1) := by decide +kernel
theorem dX11_move_69 : decode cX11_move 69 = .ok (.getfield 41, 3) := by decide +kernel
theorem dX11_move_72 : decode cX11_move 72 = .ok (.iload_n 1, 1) := by decide +kernel
theorem dX11_move_73 : decode cX11_move 73 = .ok (.aaload, 1) := by decide +kernel
theorem dX11_move_74 : decode cX11_move 74 = .ok (.iload_n 2, 1) := by decide +kernel
theorem dX11_move_75 : decode cX11_move 75 = .ok (.iload 5, 2) := by decide +kernel
theorem dX11_move_77 : decode cX11_move 77 = .ok (.invokevirtual 261, 3) := by decide +kernel
theorem dX11_move_80 : decode cX11_move 80 = .ok (.ifCond .eq 19, 3) := by decide +kernel
theorem dX11_move_83 : decode cX11_move 83 = .ok (.aload_n 0, 1) := by decide +kernel
theorem dX11_move_84 : decode cX11_move 84 = .ok (.getfield 41, 3) := by decide +kernel
theorem dX11_move_87 : decode cX11_move 87 = .ok (.iload_n 3, 1) := by decide +kernel
theorem dX11_move_88 : decode cX11_move 88 = .ok (.aaload, 1) := by decide +kernel
theorem dX11_move_89 : decode cX11_move 89 = .ok (.iload 4, 2) := by decide +kernel
theorem dX11_move_91 : decode cX11_move 91 = .ok (.iload 5, 2) := by decide +kernel
theorem dX11_move_93 : decode cX11_move 93 = .ok (.invokevirtual 261, 3) := by decide +kernel
theorem dX11_move_96 : decode cX11_move 96 = .ok (.ifCond .ne 10, 3) := by decide +kernel
theorem dX11_move_99 : decode cX11_move 99 = .ok (.aload_n 0, 1) := by decide +kernel
theorem dX11_move_100 : decode cX11_move 100 = .ok (.ldc 56, 2) := by decide +kernel
theorem dX11_move_102 : decode cX11_move 102 = .ok (.invokevirtual 57, 3) := by decide +kernel
theorem dX11_move_105 : decode cX11_move 105 = .ok (.ireturn, 1) := by decide +kernel
theorem dX11_move_106 : decode cX11_move 106 = .ok (.aload_n 0, 1) := by decide +kernel
theorem dX11_move_107 : decode cX11_move 107 = .ok (.getfield 41, 3) := by decide +kernel
theorem dX11_move_110 : decode cX11_move 110 = .ok (.iload_n 1, 1) := by decide +kernel
theorem dX11_move_111 : decode cX11_move 111 = .ok (.aaload, 1) := by decide +kernel
theorem dX11_move_112 : decode cX11_move 112 = .ok (.getfield 252, 3) := by decide +kernel
theorem dX11_move_115 : decode cX11_move 115 = .ok (.iload_n 2, 1) := by decide +kernel
theorem dX11_move_116 : decode cX11_move 116 = .ok (.aload_n 0, 1) := by decide +kernel
theorem dX11_move_117 : decode cX11_move 117 = .ok (.getfield 41, 3) := by decide +kernel
theorem dX11_move_120 : decode cX11_move 120 = .ok (.iload_n 3, 1) := by decide +kernel
theorem dX11_move_121 : decode cX11_move 121 = .ok (.aaload, 1) := by decide +kernel
theorem dX11_move_122 : decode cX11_move 122 = .ok (.getfield 252, 3) := by decide +kernel
theorem dX11_move_125 : decode cX11_move 125 = .ok (.iload 4, 2) := by decide +kernel
theorem dX11_move_127 : decode cX11_move 127 = .ok (.iload 5, 2) := by decide +kernel
theorem dX11_move_129 : decode cX11_move 129 = .ok (.invokestatic 264, 3) := by decide +kernel
theorem dX11_move_132 : decode cX11_move 132 = .ok (.iload 5, 2) := by decide +kernel
theorem dX11_move_134 : decode cX11_move 134 = .ok (.ireturn, 1) := by decide +kernel
theorem dX11_judge_0 : decode cX11_judge 0 = .ok (.iload_n 1, 1) := by decide +kernel
theorem dX11_judge_1 : decode cX11_judge 1 = .ok (.invokestatic 255, 3) := by decide +kernel
theorem dX11_judge_4 : decode cX11_judge 4 = .ok (.ifCond .ne 10, 3) := by decide +kernel
theorem dX11_judge_7 : decode cX11_judge 7 = .ok (.aload_n 0, 1) := by decide +kernel
theorem dX11_judge_8 : decode cX11_judge 8 = .ok (.ldc 56, 2) := by decide +kernel
theorem dX11_judge_10 : decode cX11_judge 10 = .ok (.invokevirtual 57, 3) := by decide +kernel
theorem dX11_judge_13 : decode cX11_judge 13 = .ok (.ireturn, 1) := by decide +kernel
theorem dX11_judge_14 : decode cX11_judge 14 = .ok (.aload_n 0, 1) := by decide +kernel
theorem dX11_judge_15 : decode cX11_judge 15 = .ok (.getfield 45, 3) := by decide +kernel
theorem dX11_judge_18 : decode cX11_judge 18 = .ok (.iload_n 1, 1) := by decide +kernel
theorem dX11_judge_19 : decode cX11_judge 19 = .ok (.iaload, 1) := by decide +kernel
theorem dX11_judge_20 : decode cX11_judge 20 = .ok (.ifCond .ne 10, 3) := by decide +kernel
theorem dX11_judge_23 : decode cX11_judge 23 = .ok (.aload_n 0, 1) := by decide +kernel
theorem dX11_judge_24 : decode cX11_judge 24 = .ok (.ldc 185, 2) := by decide +kernel
theorem dX11_judge_26 : decode cX11_judge 26 = .ok (.invokevirtual 57, 3) := by decide +kernel
theorem dX11_judge_29 : decode cX11_judge 29 = .ok (.ireturn, 1) := by decide +kernel
theorem dX11_judge_30 : decode cX11_judge 30 = .ok (.aload_n 0, 1) := by decide +kernel
theorem dX11_judge_31 : decode cX11_judge 31 = .ok (.getfield 41, 3) := by decide +kernel
theorem dX11_judge_34 : decode cX11_judge 34 = .ok (.iload_n 1, 1) := by decide +kernel
theorem dX11_judge_35 : decode cX11_judge 35 = .ok (.aaload, 1) := by decide +kernel
theorem dX11_judge_36 : decode cX11_judge 36 = .ok (.astore_n 2, 1) := by decide +kernel
theorem dX11_judge_37 : decode cX11_judge 37 = .ok (.aload_n 0, 1) := by decide +kernel
theorem dX11_judge_38 : decode cX11_judge 38 = .ok (.getfield 20, 3) := by decide +kernel
theorem dX11_judge_41 : decode cX11_judge 41 = .ok (.getfield 61, 3) := by decide +kernel
theorem dX11_judge_44 : decode cX11_judge 44 = .ok (.istore_n 3, 1) := by decide +kernel
theorem dX11_judge_45 : decode cX11_judge 45 = .ok (.iconst 0, 1) := by decide +kernel
theorem dX11_judge_46 : decode cX11_judge 46 = .ok (.istore 4, 2) := by decide +kernel
theorem dX11_judge_48 : decode cX11_judge 48 = .ok (.iload 4, 2) := by decide +kernel
theorem dX11_judge_50 : decode cX11_judge 50 = .ok (.aload_n 2, 1) := by decide +kernel
theorem dX11_judge_51 : decode cX11_judge 51 = .ok (.getfield 122, 3) := by decide +kernel
theorem dX11_judge_54 : decode cX11_judge 54 = .ok (.if_icmp .ge 50, 3) := by decide +kernel
theorem dX11_judge_57 : decode cX11_judge 57 = .ok (.aload_n 2, 1) := by decide +kernel
theorem dX11_judge_58 : decode cX11_judge 58 = .ok (.getfield 252, 3) := by decide +kernel
theorem dX11_judge_61 : decode cX11_judge 61 = .ok (.iload 4, 2) := by decide +kernel
theorem dX11_judge_63 : decode cX11_judge 63 = .ok (.iaload, 1) := by decide +kernel
theorem dX11_judge_64 : decode cX11_judge 64 = .ok (.invokestatic 76, 3) := by decide +kernel
theorem dX11_judge_67 : decode cX11_judge 67 = .ok (.ifCond .eq 21, 3) := by decide +kernel
theorem dX11_judge_70 : decode cX11_judge 70 = .ok (.aload_n 0, 1) := by decide +kernel
theorem dX11_judge_71 : decode cX11_judge 71 = .ok (.getfield 20, 3) := by decide +kernel
theorem dX11_judge_74 : decode cX11_judge 74 = .ok (.iload_n 3, 1) := by decide +kernel
theorem dX11_judge_75 : decode cX11_judge 75 = .ok (.aload_n 2, 1) := by decide +kernel
theorem dX11_judge_76 : decode cX11_judge 76 = .ok (.getfield 252, 3) := by decide +kernel
theorem dX11_judge_79 : decode cX11_judge 79 = .ok (.iload 4, 2) := by decide +kernel
theorem dX11_judge_81 : decode cX11_judge 81 = .ok (.iaload, 1) := by decide +kernel
theorem dX11_judge_82 : decode cX11_judge 82 = .ok (.invokevirtual 104, 3) := by decide +kernel
theorem dX11_judge_85 : decode cX11_judge 85 = .ok (.goto 4, 3) := by decide +kernel
theorem dX11_judge_88 : decode cX11_judge 88 = .ok (.iconst (-1), 1) := by decide +kernel
theorem dX11_judge_89 : decode cX11_judge 89 = .ok (.istore_n 3, 1) := by decide +kernel
theorem dX11_judge_90 : decode cX11_judge 90 = .ok (.iload_n 3, 1) := by decide +kernel
theorem dX11_judge_91 : decode cX11_judge 91 = .ok (.iconst (-1), 1) := by decide +kernel
theorem dX11_judge_92 : decode cX11_judge 92 = .ok (.if_icmp .ne 6, 3) := by decide +kernel
theorem dX11_judge_95 : decode cX11_judge 95 = .ok (.iload 4, 2) := by decide +kernel
theorem dX11_judge_97 : decode cX11_judge 97 = .ok (.ireturn, 1) := by decide +kernel
theorem dX11_judge_98 : decode cX11_judge 98 = .ok (.iinc 4 1, 3) := by decide +kernel
theorem dX11_judge_101 : decode cX11_judge 101 = .ok (.goto (-53), 3) := by decide +kernel
theorem dX11_judge_104 : decode cX11_judge 104 = .ok (.aload_n 2, 1) := by decide +kernel
theorem dX11_judge_105 : decode cX11_judge 105 = .ok (.getfield 122, 3) := by decide +kernel
theorem dX11_judge_108 : decode cX11_judge 108 = .ok (.ireturn, 1) := by decide +kernel
theorem dX11_image_0 : decode cX11_image 0 = .ok (.aload_n 0, 1) := by decide +kernel
theorem dX11_image_1 : decode cX11_image 1 = .ok (.getfield 29, 3) := by decide +kernel
theorem dX11_image_4 : decode cX11_image 4 = .ok (.aload_n 0, 1) := by decide +kernel
theorem dX11_image_5 : decode cX11_image 5 = .ok (.getfield 20, 3) := by decide +kernel
theorem dX11_image_8 : decode cX11_image 8 = .ok (.invokevirtual 270, 3) := by decide +kernel
theorem dX11_image_11 : decode cX11_image 11 = .ok (.aload_n 0, 1) := by decide +kernel
theorem dX11_image_12 : decode cX11_image 12 = .ok (.dup, 1) := by decide +kernel
theorem dX11_image_13 : decode cX11_image 13 = .ok (.getfield 274, 3) := by decide +kernel
theorem dX11_image_16 : decode cX11_image 16 = .ok (.iconst 1, 1) := by decide +kernel
theorem dX11_image_17 : decode cX11_image 17 = .ok (.iadd, 1) := by decide +kernel
theorem dX11_image_18 : decode cX11_image 18 = .ok (.putfield 274, 3) := by decide +kernel
theorem dX11_image_21 : decode cX11_image 21 = .ok (.aload_n 0, 1) := by decide +kernel
theorem dX11_image_22 : decode cX11_image 22 = .ok (.getfield 274, 3) := by decide +kernel
theorem dX11_image_25 : decode cX11_image 25 = .ok (.ireturn, 1) := by decide +kernel
theorem dX11_restore_0 : decode cX11_restore 0 = .ok (.aload_n 0, 1) := by decide +kernel
theorem dX11_restore_1 : decode cX11_restore 1 = .ok (.getfield 274, 3) := by decide +kernel
theorem dX11_restore_4 : decode cX11_restore 4 = .ok (.ifCond .ne 10, 3) := by decide +kernel
theorem dX11_restore_7 : decode cX11_restore 7 = .ok (.aload_n 0, 1) := by decide +kernel
theorem dX11_restore_8 : decode cX11_restore 8 = .ok (.ldc 185, 2) := by decide +kernel
theorem dX11_restore_10 : decode cX11_restore 10 = .ok (.invokevirtual 57, 3) := by decide +kernel
theorem dX11_restore_13 : decode cX11_restore 13 = .ok (.ireturn, 1) := by decide +kernel
theorem dX11_restore_14 : decode cX11_restore 14 = .ok (.aload_n 0, 1) := by decide +kernel
theorem dX11_restore_15 : decode cX11_restore 15 = .ok (.getfield 20, 3) := by decide +kernel
theorem dX11_restore_18 : decode cX11_restore 18 = .ok (.aload_n 0, 1) := by decide +kernel
theorem dX11_restore_19 : decode cX11_restore 19 = .ok (.getfield 29, 3) := by decide +kernel
theorem dX11_restore_22 : decode cX11_restore 22 = .ok (.invokevirtual 270, 3) := by decide +kernel
theorem dX11_restore_25 : decode cX11_restore 25 = .ok (.aload_n 0, 1) := by decide +kernel
theorem dX11_restore_26 : decode cX11_restore 26 = .ok (.invokevirtual 87, 3) := by decide +kernel
theorem dX11_restore_29 : decode cX11_restore 29 = .ok (.aload_n 0, 1) := by decide +kernel
theorem dX11_restore_30 : decode cX11_restore 30 = .ok (.getfield 20, 3) := by decide +kernel
theorem dX11_restore_33 : decode cX11_restore 33 = .ok (.getfield 61, 3) := by decide +kernel
theorem dX11_restore_36 : decode cX11_restore 36 = .ok (.ireturn, 1) := by decide +kernel
theorem dX11_tell_0 : decode cX11_tell 0 = .ok (.aload_n 0, 1) := by decide +kernel
theorem dX11_tell_1 : decode cX11_tell 1 = .ok (.getfield 20, 3) := by decide +kernel
theorem dX11_tell_4 : decode cX11_tell 4 = .ok (.getfield 277, 3) := by decide +kernel
theorem dX11_tell_7 : decode cX11_tell 7 = .ok (.iload_n 1, 1) := by decide +kernel
theorem dX11_tell_8 : decode cX11_tell 8 = .ok (.invokevirtual 125, 3) := by decide +kernel
theorem dX11_tell_11 : decode cX11_tell 11 = .ok (.ifCond .eq 16, 3) := by decide +kernel
theorem dX11_tell_14 : decode cX11_tell 14 = .ok (.aload_n 0, 1) := by decide +kernel
theorem dX11_tell_15 : decode cX11_tell 15 = .ok (.getfield 20, 3) := by decide +kernel
theorem dX11_tell_18 : decode cX11_tell 18 = .ok (.getfield 277, 3) := by decide +kernel
theorem dX11_tell_21 : decode cX11_tell 21 = .ok (.getfield 122, 3) := by decide +kernel
theorem dX11_tell_24 : decode cX11_tell 24 = .ok (.goto 9, 3) := by decide +kernel
theorem dX11_tell_27 : decode cX11_tell 27 = .ok (.aload_n 0, 1) := by decide +kernel
theorem dX11_tell_28 : decode cX11_tell 28 = .ok (.ldc 72, 2) := by decide +kernel
theorem dX11_tell_30 : decode cX11_tell 30 = .ok (.invokevirtual 57, 3) := by decide +kernel
theorem dX11_tell_33 : decode cX11_tell 33 = .ok (.ireturn, 1) := by decide +kernel
theorem dX11_check_0 : decode cX11_check 0 = .ok (.aload_n 0, 1) := by decide +kernel
theorem dX11_check_1 : decode cX11_check 1 = .ok (.getfield 20, 3) := by decide +kernel
theorem dX11_check_4 : decode cX11_check 4 = .ok (.getfield 277, 3) := by decide +kernel
theorem dX11_check_7 : decode cX11_check 7 = .ok (.getfield 122, 3) := by decide +kernel
theorem dX11_check_10 : decode cX11_check 10 = .ok (.istore_n 1, 1) := by decide +kernel
theorem dX11_check_11 : decode cX11_check 11 = .ok (.aload_n 0, 1) := by decide +kernel
theorem dX11_check_12 : decode cX11_check 12 = .ok (.getfield 20, 3) := by decide +kernel
theorem dX11_check_15 : decode cX11_check 15 = .ok (.getfield 277, 3) := by decide +kernel
theorem dX11_check_18 : decode cX11_check 18 = .ok (.iconst 0, 1) := by decide +kernel
theorem dX11_check_19 : decode cX11_check 19 = .ok (.putfield 122, 3) := by decide +kernel
theorem dX11_check_22 : decode cX11_check 22 = .ok (.aload_n 0, 1) := by decide +kernel
theorem dX11_check_23 : decode cX11_check 23 = .ok (.getfield 20, 3) := by decide +kernel
theorem dX11_check_26 : decode cX11_check 26 = .ok (.getfield 61, 3) := by decide +kernel
theorem dX11_check_29 : decode cX11_check 29 = .ok (.istore_n 2, 1) := by decide +kernel
theorem dX11_check_30 : decode cX11_check 30 = .ok (.iconst 0, 1) := by decide +kernel
theorem dX11_check_31 : decode cX11_check 31 = .ok (.istore_n 3, 1) := by decide +kernel
theorem dX11_check_32 : decode cX11_check 32 = .ok (.iload_n 3, 1) := by decide +kernel
theorem dX11_check_33 : decode cX11_check 33 = .ok (.iload_n 1, 1) := by decide +kernel
theorem dX11_check_34 : decode cX11_check 34 = .ok (.if_icmp .ge 49, 3) := by decide +kernel
theorem dX11_check_37 : decode cX11_check 37 = .ok (.aload_n 0, 1) := by decide +kernel
theorem dX11_check_38 : decode cX11_check 38 = .ok (.getfield 20, 3) := by decide +kernel
theorem dX11_check_41 : decode cX11_check 41 = .ok (.iload_n 2, 1) := by decide +kernel
theorem dX11_check_42 : decode cX11_check 42 = .ok (.aload_n 0, 1) := by decide +kernel
theorem dX11_check_43 : decode cX11_check 43 = .ok (.getfield 20, 3) := by decide +kernel
theorem dX11_check_46 : decode cX11_check 46 = .ok (.getfield 277, 3) := by decide +kernel
theorem dX11_check_49 : decode cX11_check 49 = .ok (.getfield 252, 3) := by decide +kernel
theorem dX11_check_52 : decode cX11_check 52 = .ok (.iload_n 3, 1) := by decide +kernel
theorem dX11_check_53 : decode cX11_check 53 = .ok (.iaload, 1) := by decide +kernel
theorem dX11_check_54 : decode cX11_check 54 = .ok (.invokevirtual 280, 3) := by decide +kernel
theorem dX11_check_57 : decode cX11_check 57 = .ok (.ifCond .ne 7, 3) := by decide +kernel
theorem dX11_check_60 : decode cX11_check 60 = .ok (.iconst 1, 1) := by decide +kernel
theorem dX11_check_61 : decode cX11_check 61 = .ok (.iload_n 3, 1) := by decide +kernel
theorem dX11_check_62 : decode cX11_check 62 = .ok (.iadd, 1) := by decide +kernel
theorem dX11_check_63 : decode cX11_check 63 = .ok (.ireturn, 1) := by decide +kernel
theorem dX11_check_64 : decode cX11_check 64 = .ok (.aload_n 0, 1) := by decide +kernel
theorem dX11_check_65 : decode cX11_check 65 = .ok (.getfield 20, 3) := by decide +kernel
theorem dX11_check_68 : decode cX11_check 68 = .ok (.getfield 277, 3) := by decide +kernel
theorem dX11_check_71 : decode cX11_check 71 = .ok (.getfield 252, 3) := by decide +kernel
theorem dX11_check_74 : decode cX11_check 74 = .ok (.iload_n 3, 1) := by decide +kernel
theorem dX11_check_75 : decode cX11_check 75 = .ok (.iaload, 1) := by decide +kernel
theorem dX11_check_76 : decode cX11_check 76 = .ok (.istore_n 2, 1) := by decide +kernel
theorem dX11_check_77 : decode cX11_check 77 = .ok (.iinc 3 1, 3) := by decide +kernel
theorem dX11_check_80 : decode cX11_check 80 = .ok (.goto (-48), 3) := by decide +kernel
theorem dX11_check_83 : decode cX11_check 83 = .ok (.iconst 0, 1) := by decide +kernel
theorem dX11_check_84 : decode cX11_check 84 = .ok (.ireturn, 1) := by decide +kernel
theorem dX11_count_0 : decode cX11_count 0 = .ok (.iload_n 1, 1) := by decide +kernel
theorem dX11_count_1 : decode cX11_count 1 = .ok (.tableswitch 120 0 7 #[47, 55, 66, 74, 82, 93, 104, 112], 47) := by decide +kernel
theorem dX11_count_48 : decode cX11_count 48 = .ok (.aload_n 0, 1) := by decide +kernel
theorem dX11_count_49 : decode cX11_count 49 = .ok (.getfield 20, 3) := by decide +kernel
theorem dX11_count_52 : decode cX11_count 52 = .ok (.getfield 61, 3) := by decide +kernel
theorem dX11_count_55 : decode cX11_count 55 = .ok (.ireturn, 1) := by decide +kernel
theorem dX11_count_56 : decode cX11_count 56 = .ok (.aload_n 0, 1) := by decide +kernel
theorem dX11_count_57 : decode cX11_count 57 = .ok (.getfield 20, 3) := by decide +kernel
theorem dX11_count_60 : decode cX11_count 60 = .ok (.getfield 61, 3) := by decide +kernel
theorem dX11_count_63 : decode cX11_count 63 = .ok (.invokestatic 69, 3) := by decide +kernel
theorem dX11_count_66 : decode cX11_count 66 = .ok (.ireturn, 1) := by decide +kernel
theorem dX11_count_67 : decode cX11_count 67 = .ok (.aload_n 0, 1) := by decide +kernel
theorem dX11_count_68 : decode cX11_count 68 = .ok (.getfield 20, 3) := by decide +kernel
theorem dX11_count_71 : decode cX11_count 71 = .ok (.getfield 156, 3) := by decide +kernel
theorem dX11_count_74 : decode cX11_count 74 = .ok (.ireturn, 1) := by decide +kernel
theorem dX11_count_75 : decode cX11_count 75 = .ok (.aload_n 0, 1) := by decide +kernel
theorem dX11_count_76 : decode cX11_count 76 = .ok (.getfield 20, 3) := by decide +kernel
theorem dX11_count_79 : decode cX11_count 79 = .ok (.getfield 283, 3) := by decide +kernel
theorem dX11_count_82 : decode cX11_count 82 = .ok (.ireturn, 1) := by decide +kernel
theorem dX11_count_83 : decode cX11_count 83 = .ok (.aload_n 0, 1) := by decide +kernel
theorem dX11_count_84 : decode cX11_count 84 = .ok (.getfield 20, 3) := by decide +kernel
theorem dX11_count_87 : decode cX11_count 87 = .ok (.getfield 119, 3) := by decide +kernel
theorem dX11_count_90 : decode cX11_count 90 = .ok (.getfield 122, 3) := by decide +kernel
theorem dX11_count_93 : decode cX11_count 93 = .ok (.ireturn, 1) := by decide +kernel
theorem dX11_count_94 : decode cX11_count 94 = .ok (.aload_n 0, 1) := by decide +kernel
theorem dX11_count_95 : decode cX11_count 95 = .ok (.getfield 20, 3) := by decide +kernel
theorem dX11_count_98 : decode cX11_count 98 = .ok (.getfield 277, 3) := by decide +kernel
theorem dX11_count_101 : decode cX11_count 101 = .ok (.getfield 122, 3) := by decide +kernel
theorem dX11_count_104 : decode cX11_count 104 = .ok (.ireturn, 1) := by decide +kernel
theorem dX11_count_105 : decode cX11_count 105 = .ok (.aload_n 0, 1) := by decide +kernel
theorem dX11_count_106 : decode cX11_count 106 = .ok (.getfield 37, 3) := by decide +kernel
theorem dX11_count_109 : decode cX11_count 109 = .ok (.getfield 122, 3) := by decide +kernel
theorem dX11_count_112 : decode cX11_count 112 = .ok (.ireturn, 1) := by decide +kernel
theorem dX11_count_113 : decode cX11_count 113 = .ok (.aload_n 0, 1) := by decide +kernel
theorem dX11_count_114 : decode cX11_count 114 = .ok (.getfield 20, 3) := by decide +kernel
theorem dX11_count_117 : decode cX11_count 117 = .ok (.getfield 233, 3) := by decide +kernel
theorem dX11_count_120 : decode cX11_count 120 = .ok (.ireturn, 1) := by decide +kernel
theorem dX11_count_121 : decode cX11_count 121 = .ok (.aload_n 0, 1) := by decide +kernel
theorem dX11_count_122 : decode cX11_count 122 = .ok (.ldc 56, 2) := by decide +kernel
theorem dX11_count_124 : decode cX11_count 124 = .ok (.invokevirtual 57, 3) := by decide +kernel
theorem dX11_count_127 : decode cX11_count 127 = .ok (.ireturn, 1) := by decide +kernel
theorem dX11_told_0 : decode cX11_told 0 = .ok (.iload_n 1, 1) := by decide +kernel
theorem dX11_told_1 : decode cX11_told 1 = .ok (.iconst 1, 1) := by decide +kernel
theorem dX11_told_2 : decode cX11_told 2 = .ok (.if_icmp .lt 17, 3) := by decide +kernel
theorem dX11_told_5 : decode cX11_told 5 = .ok (.iload_n 1, 1) := by decide +kernel
theorem dX11_told_6 : decode cX11_told 6 = .ok (.iconst 5, 1) := by decide +kernel
theorem dX11_told_7 : decode cX11_told 7 = .ok (.if_icmp .gt 12, 3) := by decide +kernel
theorem dX11_told_10 : decode cX11_told 10 = .ok (.aload_n 0, 1) := by decide +kernel
theorem dX11_told_11 : decode cX11_told 11 = .ok (.getfield 49, 3) := by decide +kernel
theorem dX11_told_14 : decode cX11_told 14 = .ok (.iload_n 1, 1) := by decide +kernel
theorem dX11_told_15 : decode cX11_told 15 = .ok (.iaload, 1) := by decide +kernel
theorem dX11_told_16 : decode cX11_told 16 = .ok (.goto 9, 3) := by decide +kernel
theorem dX11_told_19 : decode cX11_told 19 = .ok (.aload_n 0, 1) := by decide +kernel
theorem dX11_told_20 : decode cX11_told 20 = .ok (.ldc 56, 2) := by decide +kernel
theorem dX11_told_22 : decode cX11_told 22 = .ok (.invokevirtual 57, 3) := by decide +kernel
theorem dX11_told_25 : decode cX11_told 25 = .ok (.ireturn, 1) := by decide +kernel
theorem dX11_error_0 : decode cX11_error 0 = .ok (.ldc_w 286, 3) := by decide +kernel
theorem dX11_error_3 : decode cX11_error 3 = .ok (.iload_n 1, 1) := by decide +kernel
theorem dX11_error_4 : decode cX11_error 4 = .ok (.isub, 1) := by decide +kernel
theorem dX11_error_5 : decode cX11_error 5 = .ok (.istore_n 2, 1) := by decide +kernel
theorem dX11_error_6 : decode cX11_error 6 = .ok (.iload_n 2, 1) := by decide +kernel
theorem dX11_error_7 : decode cX11_error 7 = .ok (.iconst 1, 1) := by decide +kernel
theorem dX11_error_8 : decode cX11_error 8 = .ok (.if_icmp .lt 18, 3) := by decide +kernel
theorem dX11_error_11 : decode cX11_error 11 = .ok (.iload_n 2, 1) := by decide +kernel
theorem dX11_error_12 : decode cX11_error 12 = .ok (.iconst 5, 1) := by decide +kernel
theorem dX11_error_13 : decode cX11_error 13 = .ok (.if_icmp .gt 13, 3) := by decide +kernel
theorem dX11_error_16 : decode cX11_error 16 = .ok (.aload_n 0, 1) := by decide +kernel
theorem dX11_error_17 : decode cX11_error 17 = .ok (.getfield 49, 3) := by decide +kernel
theorem dX11_error_20 : decode cX11_error 20 = .ok (.iload_n 2, 1) := by decide +kernel
theorem dX11_error_21 : decode cX11_error 21 = .ok (.dup2, 1) := by decide +kernel
theorem dX11_error_22 : decode cX11_error 22 = .ok (.iaload, 1) := by decide +kernel
theorem dX11_error_23 : decode cX11_error 23 = .ok (.iconst 1, 1) := by decide +kernel
theorem dX11_error_24 : decode cX11_error 24 = .ok (.iadd, 1) := by decide +kernel
theorem dX11_error_25 : decode cX11_error 25 = .ok (.iastore, 1) := by decide +kernel
theorem dX11_error_26 : decode cX11_error 26 = .ok (.iload_n 1, 1) := by decide +kernel
theorem dX11_error_27 : decode cX11_error 27 = .ok (.ireturn, 1) := by decide +kernel
theorem dX11_orNone_0 : decode cX11_orNone 0 = .ok (.iload_n 1, 1) := by decide +kernel
theorem dX11_orNone_1 : decode cX11_orNone 1 = .ok (.iconst (-1), 1) := by decide +kernel
theorem dX11_orNone_2 : decode cX11_orNone 2 = .ok (.if_icmp .ne 12, 3) := by decide +kernel
theorem dX11_orNone_5 : decode cX11_orNone 5 = .ok (.aload_n 0, 1) := by decide +kernel
theorem dX11_orNone_6 : decode cX11_orNone 6 = .ok (.ldc 185, 2) := by decide +kernel
theorem dX11_orNone_8 : decode cX11_orNone 8 = .ok (.invokevirtual 57, 3) := by decide +kernel
theorem dX11_orNone_11 : decode cX11_orNone 11 = .ok (.goto 4, 3) := by decide +kernel
theorem dX11_orNone_14 : decode cX11_orNone 14 = .ok (.iload_n 1, 1) := by decide +kernel
theorem dX11_orNone_15 : decode cX11_orNone 15 = .ok (.ireturn, 1) := by decide +kernel
theorem dX11_rulesChanged_0 : decode cX11_rulesChanged 0 = .ok (.aload_n 0, 1) := by decide +kernel
theorem dX11_rulesChanged_1 : decode cX11_rulesChanged 1 = .ok (.getfield 20, 3) := by decide +kernel
theorem dX11_rulesChanged_4 : decode cX11_rulesChanged 4 = .ok (.invokevirtual 23, 3) := by decide +kernel
theorem dX11_rulesChanged_7 : decode cX11_rulesChanged 7 = .ok (.aload_n 0, 1) := by decide +kernel
theorem dX11_rulesChanged_8 : decode cX11_rulesChanged 8 = .ok (.getfield 12, 3) := by decide +kernel
theorem dX11_rulesChanged_11 : decode cX11_rulesChanged 11 = .ok (.invokevirtual 287, 3) := by decide +kernel
theorem dX11_rulesChanged_14 : decode cX11_rulesChanged 14 = .ok (.return_, 1) := by decide +kernel
theorem dX11_isSort_0 : decode cX11_isSort 0 = .ok (.iload_n 0, 1) := by decide +kernel
theorem dX11_isSort_1 : decode cX11_isSort 1 = .ok (.ifCond .lt 12, 3) := by decide +kernel
theorem dX11_isSort_4 : decode cX11_isSort 4 = .ok (.iload_n 0, 1) := by decide +kernel
theorem dX11_isSort_5 : decode cX11_isSort 5 = .ok (.iconst 3, 1) := by decide +kernel
theorem dX11_isSort_6 : decode cX11_isSort 6 = .ok (.if_icmp .ge 7, 3) := by decide +kernel
theorem dX11_isSort_9 : decode cX11_isSort 9 = .ok (.iconst 1, 1) := by decide +kernel
theorem dX11_isSort_10 : decode cX11_isSort 10 = .ok (.goto 4, 3) := by decide +kernel
theorem dX11_isSort_13 : decode cX11_isSort 13 = .ok (.iconst 0, 1) := by decide +kernel
theorem dX11_isSort_14 : decode cX11_isSort 14 = .ok (.ireturn, 1) := by decide +kernel
theorem dX11_isPair_0 : decode cX11_isPair 0 = .ok (.iload_n 0, 1) := by decide +kernel
theorem dX11_isPair_1 : decode cX11_isPair 1 = .ok (.ifCond .lt 13, 3) := by decide +kernel
theorem dX11_isPair_4 : decode cX11_isPair 4 = .ok (.iload_n 0, 1) := by decide +kernel
theorem dX11_isPair_5 : decode cX11_isPair 5 = .ok (.bipush 6, 2) := by decide +kernel
theorem dX11_isPair_7 : decode cX11_isPair 7 = .ok (.if_icmp .ge 7, 3) := by decide +kernel
theorem dX11_isPair_10 : decode cX11_isPair 10 = .ok (.iconst 1, 1) := by decide +kernel
theorem dX11_isPair_11 : decode cX11_isPair 11 = .ok (.goto 4, 3) := by decide +kernel
theorem dX11_isPair_14 : decode cX11_isPair 14 = .ok (.iconst 0, 1) := by decide +kernel
theorem dX11_isPair_15 : decode cX11_isPair 15 = .ok (.ireturn, 1) := by decide +kernel
theorem dX11_isUse_0 : decode cX11_isUse 0 = .ok (.iload_n 0, 1) := by decide +kernel
theorem dX11_isUse_1 : decode cX11_isUse 1 = .ok (.ifCond .lt 12, 3) := by decide +kernel
theorem dX11_isUse_4 : decode cX11_isUse 4 = .ok (.iload_n 0, 1) := by decide +kernel
theorem dX11_isUse_5 : decode cX11_isUse 5 = .ok (.iconst 2, 1) := by decide +kernel
theorem dX11_isUse_6 : decode cX11_isUse 6 = .ok (.if_icmp .ge 7, 3) := by decide +kernel
theorem dX11_isUse_9 : decode cX11_isUse 9 = .ok (.iconst 1, 1) := by decide +kernel
theorem dX11_isUse_10 : decode cX11_isUse 10 = .ok (.goto 4, 3) := by decide +kernel
theorem dX11_isUse_13 : decode cX11_isUse 13 = .ok (.iconst 0, 1) := by decide +kernel
theorem dX11_isUse_14 : decode cX11_isUse 14 = .ok (.ireturn, 1) := by decide +kernel
theorem dX11_isSheet_0 : decode cX11_isSheet 0 = .ok (.iload_n 0, 1) := by decide +kernel
theorem dX11_isSheet_1 : decode cX11_isSheet 1 = .ok (.ifCond .lt 12, 3) := by decide +kernel
theorem dX11_isSheet_4 : decode cX11_isSheet 4 = .ok (.iload_n 0, 1) := by decide +kernel
theorem dX11_isSheet_5 : decode cX11_isSheet 5 = .ok (.iconst 4, 1) := by decide +kernel
theorem dX11_isSheet_6 : decode cX11_isSheet 6 = .ok (.if_icmp .ge 7, 3) := by decide +kernel
theorem dX11_isSheet_9 : decode cX11_isSheet 9 = .ok (.iconst 1, 1) := by decide +kernel
theorem dX11_isSheet_10 : decode cX11_isSheet 10 = .ok (.goto 4, 3) := by decide +kernel
theorem dX11_isSheet_13 : decode cX11_isSheet 13 = .ok (.iconst 0, 1) := by decide +kernel
theorem dX11_isSheet_14 : decode cX11_isSheet 14 = .ok (.ireturn, 1) := by decide +kernel
theorem dX11_isRest_0 : decode cX11_isRest 0 = .ok (.iload_n 0, 1) := by decide +kernel
theorem dX11_isRest_1 : decode cX11_isRest 1 = .ok (.iconst 2, 1) := by decide +kernel
theorem dX11_isRest_2 : decode cX11_isRest 2 = .ok (.if_icmp .lt 12, 3) := by decide +kernel
theorem dX11_isRest_5 : decode cX11_isRest 5 = .ok (.iload_n 0, 1) := by decide +kernel
theorem dX11_isRest_6 : decode cX11_isRest 6 = .ok (.iconst 5, 1) := by decide +kernel
theorem dX11_isRest_7 : decode cX11_isRest 7 = .ok (.if_icmp .gt 7, 3) := by decide +kernel
theorem dX11_isRest_10 : decode cX11_isRest 10 = .ok (.iconst 1, 1) := by decide +kernel
theorem dX11_isRest_11 : decode cX11_isRest 11 = .ok (.goto 4, 3) := by decide +kernel
theorem dX11_isRest_14 : decode cX11_isRest 14 = .ok (.iconst 0, 1) := by decide +kernel
theorem dX11_isRest_15 : decode cX11_isRest 15 = .ok (.ireturn, 1) := by decide +kernel
theorem dX11_isState_0 : decode cX11_isState 0 = .ok (.iload_n 0, 1) := by decide +kernel
theorem dX11_isState_1 : decode cX11_isState 1 = .ok (.ifCond .lt 28, 3) := by decide +kernel
theorem dX11_isState_4 : decode cX11_isState 4 = .ok (.iload_n 0, 1) := by decide +kernel
theorem dX11_isState_5 : decode cX11_isState 5 = .ok (.bipush 12, 2) := by decide +kernel
theorem dX11_isState_7 : decode cX11_isState 7 = .ok (.getstatic 73, 3) := by decide +kernel
theorem dX11_isState_10 : decode cX11_isState 10 = .ok (.iconst 0, 1) := by decide +kernel
theorem dX11_isState_11 : decode cX11_isState 11 = .ok (.iaload, 1) := by decide +kernel
theorem dX11_isState_12 : decode cX11_isState 12 = .ok (.imul, 1) := by decide +kernel
theorem dX11_isState_13 : decode cX11_isState 13 = .ok (.if_icmp .gt 16, 3) := by decide +kernel
theorem dX11_isState_16 : decode cX11_isState 16 = .ok (.iload_n 0, 1) := by decide +kernel
theorem dX11_isState_17 : decode cX11_isState 17 = .ok (.invokestatic 69, 3) := by decide +kernel
theorem dX11_isState_20 : decode cX11_isState 20 = .ok (.bipush 12, 2) := by decide +kernel
theorem dX11_isState_22 : decode cX11_isState 22 = .ok (.if_icmp .gt 7, 3) := by decide +kernel
theorem dX11_isState_25 : decode cX11_isState 25 = .ok (.iconst 1, 1) := by decide +kernel
theorem dX11_isState_26 : decode cX11_isState 26 = .ok (.goto 4, 3) := by decide +kernel
theorem dX11_isState_29 : decode cX11_isState 29 = .ok (.iconst 0, 1) := by decide +kernel
theorem dX11_isState_30 : decode cX11_isState 30 = .ok (.ireturn, 1) := by decide +kernel
theorem dX11_isEnd_0 : decode cX11_isEnd 0 = .ok (.iload_n 0, 1) := by decide +kernel
theorem dX11_isEnd_1 : decode cX11_isEnd 1 = .ok (.ifCond .le 22, 3) := by decide +kernel
theorem dX11_isEnd_4 : decode cX11_isEnd 4 = .ok (.iload_n 0, 1) := by decide +kernel
theorem dX11_isEnd_5 : decode cX11_isEnd 5 = .ok (.iload_n 1, 1) := by decide +kernel
theorem dX11_isEnd_6 : decode cX11_isEnd 6 = .ok (.invokestatic 65, 3) := by decide +kernel
theorem dX11_isEnd_9 : decode cX11_isEnd 9 = .ok (.getstatic 73, 3) := by decide +kernel
theorem dX11_isEnd_12 : decode cX11_isEnd 12 = .ok (.iload_n 1, 1) := by decide +kernel
theorem dX11_isEnd_13 : decode cX11_isEnd 13 = .ok (.iaload, 1) := by decide +kernel
theorem dX11_isEnd_14 : decode cX11_isEnd 14 = .ok (.imul, 1) := by decide +kernel
theorem dX11_isEnd_15 : decode cX11_isEnd 15 = .ok (.iload_n 0, 1) := by decide +kernel
theorem dX11_isEnd_16 : decode cX11_isEnd 16 = .ok (.if_icmp .ne 7, 3) := by decide +kernel
theorem dX11_isEnd_19 : decode cX11_isEnd 19 = .ok (.iconst 1, 1) := by decide +kernel
theorem dX11_isEnd_20 : decode cX11_isEnd 20 = .ok (.goto 4, 3) := by decide +kernel
theorem dX11_isEnd_23 : decode cX11_isEnd 23 = .ok (.iconst 0, 1) := by decide +kernel
theorem dX11_isEnd_24 : decode cX11_isEnd 24 = .ok (.ireturn, 1) := by decide +kernel
theorem dX11_countOf_0 : decode cX11_countOf 0 = .ok (.iload_n 0, 1) := by decide +kernel
theorem dX11_countOf_1 : decode cX11_countOf 1 = .ok (.getstatic 73, 3) := by decide +kernel
theorem dX11_countOf_4 : decode cX11_countOf 4 = .ok (.iload_n 1, 1) := by decide +kernel
theorem dX11_countOf_5 : decode cX11_countOf 5 = .ok (.iaload, 1) := by decide +kernel
theorem dX11_countOf_6 : decode cX11_countOf 6 = .ok (.idiv, 1) := by decide +kernel
theorem dX11_countOf_7 : decode cX11_countOf 7 = .ok (.bipush 13, 2) := by decide +kernel
theorem dX11_countOf_9 : decode cX11_countOf 9 = .ok (.irem, 1) := by decide +kernel
theorem dX11_countOf_10 : decode cX11_countOf 10 = .ok (.ireturn, 1) := by decide +kernel
theorem dX11_beingsOf_0 : decode cX11_beingsOf 0 = .ok (.iload_n 0, 1) := by decide +kernel
theorem dX11_beingsOf_1 : decode cX11_beingsOf 1 = .ok (.sipush 169, 3) := by decide +kernel
theorem dX11_beingsOf_4 : decode cX11_beingsOf 4 = .ok (.idiv, 1) := by decide +kernel
theorem dX11_beingsOf_5 : decode cX11_beingsOf 5 = .ok (.iload_n 0, 1) := by decide +kernel
theorem dX11_beingsOf_6 : decode cX11_beingsOf 6 = .ok (.bipush 13, 2) := by decide +kernel
theorem dX11_beingsOf_8 : decode cX11_beingsOf 8 = .ok (.idiv, 1) := by decide +kernel
theorem dX11_beingsOf_9 : decode cX11_beingsOf 9 = .ok (.bipush 13, 2) := by decide +kernel
theorem dX11_beingsOf_11 : decode cX11_beingsOf 11 = .ok (.irem, 1) := by decide +kernel
theorem dX11_beingsOf_12 : decode cX11_beingsOf 12 = .ok (.iadd, 1) := by decide +kernel
theorem dX11_beingsOf_13 : decode cX11_beingsOf 13 = .ok (.iload_n 0, 1) := by decide +kernel
theorem dX11_beingsOf_14 : decode cX11_beingsOf 14 = .ok (.bipush 13, 2) := by decide +kernel
theorem dX11_beingsOf_16 : decode cX11_beingsOf 16 = .ok (.irem, 1) := by decide +kernel
theorem dX11_beingsOf_17 : decode cX11_beingsOf 17 = .ok (.iadd, 1) := by decide +kernel
theorem dX11_beingsOf_18 : decode cX11_beingsOf 18 = .ok (.ireturn, 1) := by decide +kernel
theorem dX11_restOf_0 : decode cX11_restOf 0 = .ok (.iload_n 1, 1) := by decide +kernel
theorem dX11_restOf_1 : decode cX11_restOf 1 = .ok (.iload_n 2, 1) := by decide +kernel
theorem dX11_restOf_2 : decode cX11_restOf 2 = .ok (.iload_n 2, 1) := by decide +kernel
theorem dX11_restOf_3 : decode cX11_restOf 3 = .ok (.imul, 1) := by decide +kernel
theorem dX11_restOf_4 : decode cX11_restOf 4 = .ok (.idiv, 1) := by decide +kernel
theorem dX11_restOf_5 : decode cX11_restOf 5 = .ok (.iload_n 0, 1) := by decide +kernel
theorem dX11_restOf_6 : decode cX11_restOf 6 = .ok (.iconst 0, 1) := by decide +kernel
theorem dX11_restOf_7 : decode cX11_restOf 7 = .ok (.invokestatic 65, 3) := by decide +kernel
theorem dX11_restOf_10 : decode cX11_restOf 10 = .ok (.imul, 1) := by decide +kernel
theorem dX11_restOf_11 : decode cX11_restOf 11 = .ok (.iload_n 1, 1) := by decide +kernel
theorem dX11_restOf_12 : decode cX11_restOf 12 = .ok (.iload_n 2, 1) := by decide +kernel
theorem dX11_restOf_13 : decode cX11_restOf 13 = .ok (.idiv, 1) := by decide +kernel
theorem dX11_restOf_14 : decode cX11_restOf 14 = .ok (.iload_n 2, 1) := by decide +kernel
theorem dX11_restOf_15 : decode cX11_restOf 15 = .ok (.irem, 1) := by decide +kernel
theorem dX11_restOf_16 : decode cX11_restOf 16 = .ok (.iload_n 0, 1) := by decide +kernel
theorem dX11_restOf_17 : decode cX11_restOf 17 = .ok (.iconst 1, 1) := by decide +kernel
theorem dX11_restOf_18 : decode cX11_restOf 18 = .ok (.invokestatic 65, 3) := by decide +kernel
theorem dX11_restOf_21 : decode cX11_restOf 21 = .ok (.imul, 1) := by decide +kernel
theorem dX11_restOf_22 : decode cX11_restOf 22 = .ok (.iadd, 1) := by decide +kernel
theorem dX11_restOf_23 : decode cX11_restOf 23 = .ok (.iload_n 1, 1) := by decide +kernel
theorem dX11_restOf_24 : decode cX11_restOf 24 = .ok (.iload_n 2, 1) := by decide +kernel
theorem dX11_restOf_25 : decode cX11_restOf 25 = .ok (.irem, 1) := by decide +kernel
theorem dX11_restOf_26 : decode cX11_restOf 26 = .ok (.iload_n 0, 1) := by decide +kernel
theorem dX11_restOf_27 : decode cX11_restOf 27 = .ok (.iconst 2, 1) := by decide +kernel
theorem dX11_restOf_28 : decode cX11_restOf 28 = .ok (.invokestatic 65, 3) := by decide +kernel
theorem dX11_restOf_31 : decode cX11_restOf 31 = .ok (.imul, 1) := by decide +kernel
theorem dX11_restOf_32 : decode cX11_restOf 32 = .ok (.iadd, 1) := by decide +kernel
theorem dX11_restOf_33 : decode cX11_restOf 33 = .ok (.iload_n 2, 1) := by decide +kernel
theorem dX11_restOf_34 : decode cX11_restOf 34 = .ok (.irem, 1) := by decide +kernel
theorem dX11_restOf_35 : decode cX11_restOf 35 = .ok (.ireturn, 1) := by decide +kernel
theorem dX11_isOfKind_0 : decode cX11_isOfKind 0 = .ok (.iload_n 1, 1) := by decide +kernel
theorem dX11_isOfKind_1 : decode cX11_isOfKind 1 = .ok (.tableswitch 69 1 6 #[39, 44, 49, 54, 59, 64], 39) := by decide +kernel
theorem dX11_isOfKind_40 : decode cX11_isOfKind 40 = .ok (.aload_n 0, 1) := by decide +kernel
theorem dX11_isOfKind_41 : decode cX11_isOfKind 41 = .ok (.instanceof 290, 3) := by decide +kernel
theorem dX11_isOfKind_44 : decode cX11_isOfKind 44 = .ok (.ireturn, 1) := by decide +kernel
theorem dX11_isOfKind_45 : decode cX11_isOfKind 45 = .ok (.aload_n 0, 1) := by decide +kernel
theorem dX11_isOfKind_46 : decode cX11_isOfKind 46 = .ok (.instanceof 292, 3) := by decide +kernel
theorem dX11_isOfKind_49 : decode cX11_isOfKind 49 = .ok (.ireturn, 1) := by decide +kernel
theorem dX11_isOfKind_50 : decode cX11_isOfKind 50 = .ok (.aload_n 0, 1) := by decide +kernel
theorem dX11_isOfKind_51 : decode cX11_isOfKind 51 = .ok (.instanceof 294, 3) := by decide +kernel
theorem dX11_isOfKind_54 : decode cX11_isOfKind 54 = .ok (.ireturn, 1) := by decide +kernel
theorem dX11_isOfKind_55 : decode cX11_isOfKind 55 = .ok (.aload_n 0, 1) := by decide +kernel
theorem dX11_isOfKind_56 : decode cX11_isOfKind 56 = .ok (.instanceof 296, 3) := by decide +kernel
theorem dX11_isOfKind_59 : decode cX11_isOfKind 59 = .ok (.ireturn, 1) := by decide +kernel
theorem dX11_isOfKind_60 : decode cX11_isOfKind 60 = .ok (.aload_n 0, 1) := by decide +kernel
theorem dX11_isOfKind_61 : decode cX11_isOfKind 61 = .ok (.instanceof 298, 3) := by decide +kernel
theorem dX11_isOfKind_64 : decode cX11_isOfKind 64 = .ok (.ireturn, 1) := by decide +kernel
theorem dX11_isOfKind_65 : decode cX11_isOfKind 65 = .ok (.aload_n 0, 1) := by decide +kernel
theorem dX11_isOfKind_66 : decode cX11_isOfKind 66 = .ok (.instanceof 300, 3) := by decide +kernel
theorem dX11_isOfKind_69 : decode cX11_isOfKind 69 = .ok (.ireturn, 1) := by decide +kernel
theorem dX11_isOfKind_70 : decode cX11_isOfKind 70 = .ok (.iconst 1, 1) := by decide +kernel
theorem dX11_isOfKind_71 : decode cX11_isOfKind 71 = .ok (.ireturn, 1) := by decide +kernel
theorem dX11_newLaw_0 : decode cX11_newLaw 0 = .ok (.iload_n 0, 1) := by decide +kernel
theorem dX11_newLaw_1 : decode cX11_newLaw 1 = .ok (.tableswitch 106 1 6 #[39, 50, 61, 72, 83, 94], 39) := by decide +kernel
theorem dX11_newLaw_40 : decode cX11_newLaw 40 = .ok (.new 290, 3) := by decide +kernel
theorem dX11_newLaw_43 : decode cX11_newLaw 43 = .ok (.dup, 1) := by decide +kernel
theorem dX11_newLaw_44 : decode cX11_newLaw 44 = .ok (.iconst 1, 1) := by decide +kernel
theorem dX11_newLaw_45 : decode cX11_newLaw 45 = .ok (.iload_n 1, 1) := by decide +kernel
theorem dX11_newLaw_46 : decode cX11_newLaw 46 = .ok (.iload_n 2, 1) := by decide +kernel
theorem dX11_newLaw_47 : decode cX11_newLaw 47 = .ok (.invokespecial 302, 3) := by decide +kernel
theorem dX11_newLaw_50 : decode cX11_newLaw 50 = .ok (.areturn, 1) := by decide +kernel
theorem dX11_newLaw_51 : decode cX11_newLaw 51 = .ok (.new 292, 3) := by decide +kernel
theorem dX11_newLaw_54 : decode cX11_newLaw 54 = .ok (.dup, 1) := by decide +kernel
theorem dX11_newLaw_55 : decode cX11_newLaw 55 = .ok (.iconst 2, 1) := by decide +kernel
theorem dX11_newLaw_56 : decode cX11_newLaw 56 = .ok (.iload_n 1, 1) := by decide +kernel
theorem dX11_newLaw_57 : decode cX11_newLaw 57 = .ok (.iload_n 2, 1) := by decide +kernel
theorem dX11_newLaw_58 : decode cX11_newLaw 58 = .ok (.invokespecial 305, 3) := by decide +kernel
theorem dX11_newLaw_61 : decode cX11_newLaw 61 = .ok (.areturn, 1) := by decide +kernel
theorem dX11_newLaw_62 : decode cX11_newLaw 62 = .ok (.new 294, 3) := by decide +kernel
theorem dX11_newLaw_65 : decode cX11_newLaw 65 = .ok (.dup, 1) := by decide +kernel
theorem dX11_newLaw_66 : decode cX11_newLaw 66 = .ok (.iconst 3, 1) := by decide +kernel
theorem dX11_newLaw_67 : decode cX11_newLaw 67 = .ok (.iload_n 1, 1) := by decide +kernel
theorem dX11_newLaw_68 : decode cX11_newLaw 68 = .ok (.iload_n 2, 1) := by decide +kernel
theorem dX11_newLaw_69 : decode cX11_newLaw 69 = .ok (.invokespecial 306, 3) := by decide +kernel
theorem dX11_newLaw_72 : decode cX11_newLaw 72 = .ok (.areturn, 1) := by decide +kernel
theorem dX11_newLaw_73 : decode cX11_newLaw 73 = .ok (.new 296, 3) := by decide +kernel
theorem dX11_newLaw_76 : decode cX11_newLaw 76 = .ok (.dup, 1) := by decide +kernel
theorem dX11_newLaw_77 : decode cX11_newLaw 77 = .ok (.iconst 4, 1) := by decide +kernel
theorem dX11_newLaw_78 : decode cX11_newLaw 78 = .ok (.iload_n 1, 1) := by decide +kernel
theorem dX11_newLaw_79 : decode cX11_newLaw 79 = .ok (.iload_n 2, 1) := by decide +kernel
theorem dX11_newLaw_80 : decode cX11_newLaw 80 = .ok (.invokespecial 307, 3) := by decide +kernel
theorem dX11_newLaw_83 : decode cX11_newLaw 83 = .ok (.areturn, 1) := by decide +kernel
theorem dX11_newLaw_84 : decode cX11_newLaw 84 = .ok (.new 298, 3) := by decide +kernel
theorem dX11_newLaw_87 : decode cX11_newLaw 87 = .ok (.dup, 1) := by decide +kernel
theorem dX11_newLaw_88 : decode cX11_newLaw 88 = .ok (.iconst 5, 1) := by decide +kernel
theorem dX11_newLaw_89 : decode cX11_newLaw 89 = .ok (.iload_n 1, 1) := by decide +kernel
theorem dX11_newLaw_90 : decode cX11_newLaw 90 = .ok (.iload_n 2, 1) := by decide +kernel
theorem dX11_newLaw_91 : decode cX11_newLaw 91 = .ok (.invokespecial 308, 3) := by decide +kernel
theorem dX11_newLaw_94 : decode cX11_newLaw 94 = .ok (.areturn, 1) := by decide +kernel
theorem dX11_newLaw_95 : decode cX11_newLaw 95 = .ok (.new 300, 3) := by decide +kernel
theorem dX11_newLaw_98 : decode cX11_newLaw 98 = .ok (.dup, 1) := by decide +kernel
theorem dX11_newLaw_99 : decode cX11_newLaw 99 = .ok (.bipush 6, 2) := by decide +kernel
theorem dX11_newLaw_101 : decode cX11_newLaw 101 = .ok (.iload_n 1, 1) := by decide +kernel
theorem dX11_newLaw_102 : decode cX11_newLaw 102 = .ok (.iload_n 2, 1) := by decide +kernel
theorem dX11_newLaw_103 : decode cX11_newLaw 103 = .ok (.invokespecial 309, 3) := by decide +kernel
theorem dX11_newLaw_106 : decode cX11_newLaw 106 = .ok (.areturn, 1) := by decide +kernel
theorem dX11_newLaw_107 : decode cX11_newLaw 107 = .ok (.new 91, 3) := by decide +kernel
theorem dX11_newLaw_110 : decode cX11_newLaw 110 = .ok (.dup, 1) := by decide +kernel
theorem dX11_newLaw_111 : decode cX11_newLaw 111 = .ok (.iconst 0, 1) := by decide +kernel
theorem dX11_newLaw_112 : decode cX11_newLaw 112 = .ok (.iload_n 1, 1) := by decide +kernel
theorem dX11_newLaw_113 : decode cX11_newLaw 113 = .ok (.iload_n 2, 1) := by decide +kernel
theorem dX11_newLaw_114 : decode cX11_newLaw 114 = .ok (.invokespecial 310, 3) := by decide +kernel
theorem dX11_newLaw_117 : decode cX11_newLaw 117 = .ok (.areturn, 1) := by decide +kernel
theorem dX12_init_0 : decode cX12_init 0 = .ok (.aload_n 0, 1) := by decide +kernel
theorem dX12_init_1 : decode cX12_init 1 = .ok (.invokespecial 1, 3) := by decide +kernel
theorem dX12_init_4 : decode cX12_init 4 = .ok (.aload_n 0, 1) := by decide +kernel
theorem dX12_init_5 : decode cX12_init 5 = .ok (.sipush 200, 3) := by decide +kernel
theorem dX12_init_8 : decode cX12_init 8 = .ok (.newarray .int, 2) := by decide +kernel
theorem dX12_init_10 : decode cX12_init 10 = .ok (.putfield 7, 3) := by decide +kernel
theorem dX12_init_13 : decode cX12_init 13 = .ok (.aload_n 0, 1) := by decide +kernel
theorem dX12_init_14 : decode cX12_init 14 = .ok (.sipush 200, 3) := by decide +kernel
theorem dX12_init_17 : decode cX12_init 17 = .ok (.newarray .int, 2) := by decide +kernel
theorem dX12_init_19 : decode cX12_init 19 = .ok (.putfield 13, 3) := by decide +kernel
theorem dX12_init_22 : decode cX12_init 22 = .ok (.aload_n 0, 1) := by decide +kernel
theorem dX12_init_23 : decode cX12_init 23 = .ok (.bipush 6, 2) := by decide +kernel
theorem dX12_init_25 : decode cX12_init 25 = .ok (.newarray .int, 2) := by decide +kernel
theorem dX12_init_27 : decode cX12_init 27 = .ok (.putfield 16, 3) := by decide +kernel
theorem dX12_init_30 : decode cX12_init 30 = .ok (.aload_n 0, 1) := by decide +kernel
theorem dX12_init_31 : decode cX12_init 31 = .ok (.iconst 4, 1) := by decide +kernel
theorem dX12_init_32 : decode cX12_init 32 = .ok (.newarray .int, 2) := by decide +kernel
theorem dX12_init_34 : decode cX12_init 34 = .ok (.putfield 19, 3) := by decide +kernel
theorem dX12_init_37 : decode cX12_init 37 = .ok (.aload_n 0, 1) := by decide +kernel
theorem dX12_init_38 : decode cX12_init 38 = .ok (.bipush 18, 2) := by decide +kernel
theorem dX12_init_40 : decode cX12_init 40 = .ok (.newarray .int, 2) := by decide +kernel
theorem dX12_init_42 : decode cX12_init 42 = .ok (.putfield 22, 3) := by decide +kernel
theorem dX12_init_45 : decode cX12_init 45 = .ok (.aload_n 0, 1) := by decide +kernel
theorem dX12_init_46 : decode cX12_init 46 = .ok (.sipush 2197, 3) := by decide +kernel
theorem dX12_init_49 : decode cX12_init 49 = .ok (.newarray .int, 2) := by decide +kernel
theorem dX12_init_51 : decode cX12_init 51 = .ok (.putfield 25, 3) := by decide +kernel
theorem dX12_init_54 : decode cX12_init 54 = .ok (.aload_n 0, 1) := by decide +kernel
theorem dX12_init_55 : decode cX12_init 55 = .ok (.sipush 2197, 3) := by decide +kernel
theorem dX12_init_58 : decode cX12_init 58 = .ok (.newarray .int, 2) := by decide +kernel
theorem dX12_init_60 : decode cX12_init 60 = .ok (.putfield 28, 3) := by decide +kernel
theorem dX12_init_63 : decode cX12_init 63 = .ok (.aload_n 0, 1) := by decide +kernel
theorem dX12_init_64 : decode cX12_init 64 = .ok (.sipush 2197, 3) := by decide +kernel
theorem dX12_init_67 : decode cX12_init 67 = .ok (.newarray .boolean, 2) := by decide +kernel
theorem dX12_init_69 : decode cX12_init 69 = .ok (.putfield 31, 3) := by decide +kernel
theorem dX12_init_72 : decode cX12_init 72 = .ok (.aload_n 0, 1) := by decide +kernel
theorem dX12_init_73 : decode cX12_init 73 = .ok (.sipush 2197, 3) := by decide +kernel
theorem dX12_init_76 : decode cX12_init 76 = .ok (.newarray .long, 2) := by decide +kernel
theorem dX12_init_78 : decode cX12_init 78 = .ok (.putfield 35, 3) := by decide +kernel
theorem dX12_init_81 : decode cX12_init 81 = .ok (.aload_n 0, 1) := by decide +kernel
theorem dX12_init_82 : decode cX12_init 82 = .ok (.sipush 2197, 3) := by decide +kernel
theorem dX12_init_85 : decode cX12_init 85 = .ok (.newarray .long, 2) := by decide +kernel
theorem dX12_init_87 : decode cX12_init 87 = .ok (.putfield 39, 3) := by decide +kernel
theorem dX12_init_90 : decode cX12_init 90 = .ok (.aload_n 0, 1) := by decide +kernel
theorem dX12_init_91 : decode cX12_init 91 = .ok (.sipush 2197, 3) := by decide +kernel
theorem dX12_init_94 : decode cX12_init 94 = .ok (.newarray .boolean, 2) := by decide +kernel
theorem dX12_init_96 : decode cX12_init 96 = .ok (.putfield 42, 3) := by decide +kernel
theorem dX12_init_99 : decode cX12_init 99 = .ok (.aload_n 0, 1) := by decide +kernel
theorem dX12_init_100 : decode cX12_init 100 = .ok (.sipush 2197, 3) := by decide +kernel
theorem dX12_init_103 : decode cX12_init 103 = .ok (.newarray .boolean, 2) := by decide +kernel
theorem dX12_init_105 : decode cX12_init 105 = .ok (.putfield 45, 3) := by decide +kernel
theorem dX12_init_108 : decode cX12_init 108 = .ok (.aload_n 0, 1) := by decide +kernel
theorem dX12_init_109 : decode cX12_init 109 = .ok (.sipush 2197, 3) := by decide +kernel
theorem dX12_init_112 : decode cX12_init 112 = .ok (.newarray .boolean, 2) := by decide +kernel
theorem dX12_init_114 : decode cX12_init 114 = .ok (.putfield 48, 3) := by decide +kernel
theorem dX12_init_117 : decode cX12_init 117 = .ok (.aload_n 0, 1) := by decide +kernel
theorem dX12_init_118 : decode cX12_init 118 = .ok (.sipush 2197, 3) := by decide +kernel
theorem dX12_init_121 : decode cX12_init 121 = .ok (.newarray .boolean, 2) := by decide +kernel
theorem dX12_init_123 : decode cX12_init 123 = .ok (.putfield 51, 3) := by decide +kernel
theorem dX12_init_126 : decode cX12_init 126 = .ok (.aload_n 0, 1) := by decide +kernel
theorem dX12_init_127 : decode cX12_init 127 = .ok (.sipush 2197, 3) := by decide +kernel
theorem dX12_init_130 : decode cX12_init 130 = .ok (.newarray .boolean, 2) := by decide +kernel
theorem dX12_init_132 : decode cX12_init 132 = .ok (.putfield 54, 3) := by decide +kernel
theorem dX12_init_135 : decode cX12_init 135 = .ok (.aload_n 0, 1) := by decide +kernel
theorem dX12_init_136 : decode cX12_init 136 = .ok (.sipush 2197, 3) := by decide +kernel
theorem dX12_init_139 : decode cX12_init 139 = .ok (.newarray .boolean, 2) := by decide +kernel
theorem dX12_init_141 : decode cX12_init 141 = .ok (.putfield 57, 3) := by decide +kernel
theorem dX12_init_144 : decode cX12_init 144 = .ok (.aload_n 0, 1) := by decide +kernel
theorem dX12_init_145 : decode cX12_init 145 = .ok (.bipush 40, 2) := by decide +kernel
theorem dX12_init_147 : decode cX12_init 147 = .ok (.newarray .int, 2) := by decide +kernel
theorem dX12_init_149 : decode cX12_init 149 = .ok (.putfield 60, 3) := by decide +kernel
theorem dX12_init_152 : decode cX12_init 152 = .ok (.aload_n 0, 1) := by decide +kernel
theorem dX12_init_153 : decode cX12_init 153 = .ok (.iconst 4, 1) := by decide +kernel
theorem dX12_init_154 : decode cX12_init 154 = .ok (.newarray .int, 2) := by decide +kernel
theorem dX12_init_156 : decode cX12_init 156 = .ok (.putfield 63, 3) := by decide +kernel
theorem dX12_init_159 : decode cX12_init 159 = .ok (.aload_n 0, 1) := by decide +kernel
theorem dX12_init_160 : decode cX12_init 160 = .ok (.iconst 4, 1) := by decide +kernel
theorem dX12_init_161 : decode cX12_init 161 = .ok (.newarray .int, 2) := by decide +kernel
theorem dX12_init_163 : decode cX12_init 163 = .ok (.putfield 66, 3) := by decide +kernel
theorem dX12_init_166 : decode cX12_init 166 = .ok (.aload_n 0, 1) := by decide +kernel
theorem dX12_init_167 : decode cX12_init 167 = .ok (.sipush 160, 3) := by decide +kernel
theorem dX12_init_170 : decode cX12_init 170 = .ok (.newarray .int, 2) := by decide +kernel
theorem dX12_init_172 : decode cX12_init 172 = .ok (.putfield 69, 3) := by decide +kernel
theorem dX12_init_175 : decode cX12_init 175 = .ok (.aload_n 0, 1) := by decide +kernel
theorem dX12_init_176 : decode cX12_init 176 = .ok (.bipush 40, 2) := by decide +kernel
theorem dX12_init_178 : decode cX12_init 178 = .ok (.newarray .int, 2) := by decide +kernel
theorem dX12_init_180 : decode cX12_init 180 = .ok (.putfield 72, 3) := by decide +kernel
theorem dX12_init_183 : decode cX12_init 183 = .ok (.iconst 0, 1) := by decide +kernel
theorem dX12_init_184 : decode cX12_init 184 = .ok (.istore_n 1, 1) := by decide +kernel
theorem dX12_init_185 : decode cX12_init 185 = .ok (.iload_n 1, 1) := by decide +kernel
theorem dX12_init_186 : decode cX12_init 186 = .ok (.bipush 6, 2) := by decide +kernel
theorem dX12_init_188 : decode cX12_init 188 = .ok (.if_icmp .ge 18, 3) := by decide +kernel
theorem dX12_init_191 : decode cX12_init 191 = .ok (.aload_n 0, 1) := by decide +kernel
theorem dX12_init_192 : decode cX12_init 192 = .ok (.getfield 7, 3) := by decide +kernel
theorem dX12_init_195 : decode cX12_init 195 = .ok (.iconst 3, 1) := by decide +kernel
theorem dX12_init_196 : decode cX12_init 196 = .ok (.iload_n 1, 1) := by decide +kernel
theorem dX12_init_197 : decode cX12_init 197 = .ok (.iadd, 1) := by decide +kernel
theorem dX12_init_198 : decode cX12_init 198 = .ok (.iconst 1, 1) := by decide +kernel
theorem dX12_init_199 : decode cX12_init 199 = .ok (.iastore, 1) := by decide +kernel
theorem dX12_init_200 : decode cX12_init 200 = .ok (.iinc 1 1, 3) := by decide +kernel
theorem dX12_init_203 : decode cX12_init 203 = .ok (.goto (-18), 3) := by decide +kernel
theorem dX12_init_206 : decode cX12_init 206 = .ok (.aload_n 0, 1) := by decide +kernel
theorem dX12_init_207 : decode cX12_init 207 = .ok (.getfield 7, 3) := by decide +kernel
theorem dX12_init_210 : decode cX12_init 210 = .ok (.bipush 23, 2) := by decide +kernel
theorem dX12_init_212 : decode cX12_init 212 = .ok (.iconst 1, 1) := by decide +kernel
theorem dX12_init_213 : decode cX12_init 213 = .ok (.iastore, 1) := by decide +kernel
theorem dX12_init_214 : decode cX12_init 214 = .ok (.return_, 1) := by decide +kernel
theorem dX12_finds_0 : decode cX12_finds 0 = .ok (.aload_n 0, 1) := by decide +kernel
theorem dX12_finds_1 : decode cX12_finds 1 = .ok (.getfield 16, 3) := by decide +kernel
theorem dX12_finds_4 : decode cX12_finds 4 = .ok (.iload_n 1, 1) := by decide +kernel
theorem dX12_finds_5 : decode cX12_finds 5 = .ok (.dup2, 1) := by decide +kernel
theorem dX12_finds_6 : decode cX12_finds 6 = .ok (.iaload, 1) := by decide +kernel
theorem dX12_finds_7 : decode cX12_finds 7 = .ok (.iconst 1, 1) := by decide +kernel
theorem dX12_finds_8 : decode cX12_finds 8 = .ok (.iadd, 1) := by decide +kernel
theorem dX12_finds_9 : decode cX12_finds 9 = .ok (.iastore, 1) := by decide +kernel
theorem dX12_finds_10 : decode cX12_finds 10 = .ok (.ldc 75, 2) := by decide +kernel
theorem dX12_finds_12 : decode cX12_finds 12 = .ok (.iload_n 1, 1) := by decide +kernel
theorem dX12_finds_13 : decode cX12_finds 13 = .ok (.isub, 1) := by decide +kernel
theorem dX12_finds_14 : decode cX12_finds 14 = .ok (.ireturn, 1) := by decide +kernel
theorem dX12_in_0 : decode cX12_in 0 = .ok (.lload_n 0, 1) := by decide +kernel
theorem dX12_in_1 : decode cX12_in 1 = .ok (.lload_n 2, 1) := by decide +kernel
theorem dX12_in_2 : decode cX12_in 2 = .ok (.lcmp, 1) := by decide +kernel
theorem dX12_in_3 : decode cX12_in 3 = .ok (.ifCond .lt 14, 3) := by decide +kernel
theorem dX12_in_6 : decode cX12_in 6 = .ok (.lload_n 0, 1) := by decide +kernel
theorem dX12_in_7 : decode cX12_in 7 = .ok (.lload 4, 2) := by decide +kernel
theorem dX12_in_9 : decode cX12_in 9 = .ok (.lcmp, 1) := by decide +kernel
theorem dX12_in_10 : decode cX12_in 10 = .ok (.ifCond .gt 7, 3) := by decide +kernel
theorem dX12_in_13 : decode cX12_in 13 = .ok (.iconst 1, 1) := by decide +kernel
theorem dX12_in_14 : decode cX12_in 14 = .ok (.goto 4, 3) := by decide +kernel
theorem dX12_in_17 : decode cX12_in 17 = .ok (.iconst 0, 1) := by decide +kernel
theorem dX12_in_18 : decode cX12_in 18 = .ok (.ireturn, 1) := by decide +kernel
theorem dX12_held_0 : decode cX12_held 0 = .ok (.iload_n 0, 1) := by decide +kernel
theorem dX12_held_1 : decode cX12_held 1 = .ok (.iload_n 1, 1) := by decide +kernel
theorem dX12_held_2 : decode cX12_held 2 = .ok (.if_icmp .ge 7, 3) := by decide +kernel
theorem dX12_held_5 : decode cX12_held 5 = .ok (.iload_n 1, 1) := by decide +kernel
theorem dX12_held_6 : decode cX12_held 6 = .ok (.goto 13, 3) := by decide +kernel
theorem dX12_held_9 : decode cX12_held 9 = .ok (.iload_n 0, 1) := by decide +kernel
theorem dX12_held_10 : decode cX12_held 10 = .ok (.iload_n 2, 1) := by decide +kernel
theorem dX12_held_11 : decode cX12_held 11 = .ok (.if_icmp .le 7, 3) := by decide +kernel
theorem dX12_held_14 : decode cX12_held 14 = .ok (.iload_n 2, 1) := by decide +kernel
theorem dX12_held_15 : decode cX12_held 15 = .ok (.goto 4, 3) := by decide +kernel
theorem dX12_held_18 : decode cX12_held 18 = .ok (.iload_n 0, 1) := by decide +kernel
theorem dX12_held_19 : decode cX12_held 19 = .ok (.ireturn, 1) := by decide +kernel
theorem dX12_copies_0 : decode cX12_copies 0 = .ok (.iconst 0, 1) := by decide +kernel
theorem dX12_copies_1 : decode cX12_copies 1 = .ok (.istore_n 2, 1) := by decide +kernel
theorem dX12_copies_2 : decode cX12_copies 2 = .ok (.iload_n 2, 1) := by decide +kernel
theorem dX12_copies_3 : decode cX12_copies 3 = .ok (.sipush 200, 3) := by decide +kernel
theorem dX12_copies_6 : decode cX12_copies 6 = .ok (.if_icmp .ge 15, 3) := by decide +kernel
theorem dX12_copies_9 : decode cX12_copies 9 = .ok (.aload_n 1, 1) := by decide +kernel
theorem dX12_copies_10 : decode cX12_copies 10 = .ok (.iload_n 2, 1) := by decide +kernel
theorem dX12_copies_11 : decode cX12_copies 11 = .ok (.aload_n 0, 1) := by decide +kernel
theorem dX12_copies_12 : decode cX12_copies 12 = .ok (.iload_n 2, 1) := by decide +kernel
theorem dX12_copies_13 : decode cX12_copies 13 = .ok (.iaload, 1) := by decide +kernel
theorem dX12_copies_14 : decode cX12_copies 14 = .ok (.iastore, 1) := by decide +kernel
theorem dX12_copies_15 : decode cX12_copies 15 = .ok (.iinc 2 1, 3) := by decide +kernel
theorem dX12_copies_18 : decode cX12_copies 18 = .ok (.goto (-16), 3) := by decide +kernel
theorem dX12_copies_21 : decode cX12_copies 21 = .ok (.return_, 1) := by decide +kernel
theorem dX12_isSort_0 : decode cX12_isSort 0 = .ok (.iload_n 0, 1) := by decide +kernel
theorem dX12_isSort_1 : decode cX12_isSort 1 = .ok (.i2l, 1) := by decide +kernel
theorem dX12_isSort_2 : decode cX12_isSort 2 = .ok (.lconst 0, 1) := by decide +kernel
theorem dX12_isSort_3 : decode cX12_isSort 3 = .ok (.ldc2_w 76, 3) := by decide +kernel
theorem dX12_isSort_6 : decode cX12_isSort 6 = .ok (.invokestatic 78, 3) := by decide +kernel
theorem dX12_isSort_9 : decode cX12_isSort 9 = .ok (.ireturn, 1) := by decide +kernel
theorem dX12_isPair_0 : decode cX12_isPair 0 = .ok (.iload_n 0, 1) := by decide +kernel
theorem dX12_isPair_1 : decode cX12_isPair 1 = .ok (.i2l, 1) := by decide +kernel
theorem dX12_isPair_2 : decode cX12_isPair 2 = .ok (.lconst 0, 1) := by decide +kernel
theorem dX12_isPair_3 : decode cX12_isPair 3 = .ok (.ldc2_w 82, 3) := by decide +kernel
theorem dX12_isPair_6 : decode cX12_isPair 6 = .ok (.invokestatic 78, 3) := by decide +kernel
theorem dX12_isPair_9 : decode cX12_isPair 9 = .ok (.ireturn, 1) := by decide +kernel
theorem dX12_first_0 : decode cX12_first 0 = .ok (.iload_n 0, 1) := by decide +kernel
theorem dX12_first_1 : decode cX12_first 1 = .ok (.iconst 3, 1) := by decide +kernel
theorem dX12_first_2 : decode cX12_first 2 = .ok (.if_icmp .ge 7, 3) := by decide +kernel
theorem dX12_first_5 : decode cX12_first 5 = .ok (.iconst 0, 1) := by decide +kernel
theorem dX12_first_6 : decode cX12_first 6 = .ok (.goto 13, 3) := by decide +kernel
theorem dX12_first_9 : decode cX12_first 9 = .ok (.iload_n 0, 1) := by decide +kernel
theorem dX12_first_10 : decode cX12_first 10 = .ok (.iconst 5, 1) := by decide +kernel
theorem dX12_first_11 : decode cX12_first 11 = .ok (.if_icmp .ge 7, 3) := by decide +kernel
theorem dX12_first_14 : decode cX12_first 14 = .ok (.iconst 1, 1) := by decide +kernel
theorem dX12_first_15 : decode cX12_first 15 = .ok (.goto 4, 3) := by decide +kernel
theorem dX12_first_18 : decode cX12_first 18 = .ok (.iconst 2, 1) := by decide +kernel
theorem dX12_first_19 : decode cX12_first 19 = .ok (.ireturn, 1) := by decide +kernel
theorem dX12_second_0 : decode cX12_second 0 = .ok (.iload_n 0, 1) := by decide +kernel
theorem dX12_second_1 : decode cX12_second 1 = .ok (.iconst 3, 1) := by decide +kernel
theorem dX12_second_2 : decode cX12_second 2 = .ok (.if_icmp .ge 7, 3) := by decide +kernel
theorem dX12_second_5 : decode cX12_second 5 = .ok (.iload_n 0, 1) := by decide +kernel
theorem dX12_second_6 : decode cX12_second 6 = .ok (.goto 15, 3) := by decide +kernel
theorem dX12_second_9 : decode cX12_second 9 = .ok (.iload_n 0, 1) := by decide +kernel
theorem dX12_second_10 : decode cX12_second 10 = .ok (.iconst 5, 1) := by decide +kernel
theorem dX12_second_11 : decode cX12_second 11 = .ok (.if_icmp .ge 9, 3) := by decide +kernel
theorem dX12_second_14 : decode cX12_second 14 = .ok (.iload_n 0, 1) := by decide +kernel
theorem dX12_second_15 : decode cX12_second 15 = .ok (.iconst 2, 1) := by decide +kernel
theorem dX12_second_16 : decode cX12_second 16 = .ok (.isub, 1) := by decide +kernel
theorem dX12_second_17 : decode cX12_second 17 = .ok (.goto 4, 3) := by decide +kernel
theorem dX12_second_20 : decode cX12_second 20 = .ok (.iconst 2, 1) := by decide +kernel
theorem dX12_second_21 : decode cX12_second 21 = .ok (.ireturn, 1) := by decide +kernel
theorem dX12_countIn_0 : decode cX12_countIn 0 = .ok (.iload_n 1, 1) := by decide +kernel
theorem dX12_countIn_1 : decode cX12_countIn 1 = .ok (.ifCond .ne 11, 3) := by decide +kernel
theorem dX12_countIn_4 : decode cX12_countIn 4 = .ok (.iload_n 0, 1) := by decide +kernel
theorem dX12_countIn_5 : decode cX12_countIn 5 = .ok (.sipush 169, 3) := by decide +kernel
theorem dX12_countIn_8 : decode cX12_countIn 8 = .ok (.idiv, 1) := by decide +kernel
theorem dX12_countIn_9 : decode cX12_countIn 9 = .ok (.goto 22, 3) := by decide +kernel
theorem dX12_countIn_12 : decode cX12_countIn 12 = .ok (.iload_n 1, 1) := by decide +kernel
theorem dX12_countIn_13 : decode cX12_countIn 13 = .ok (.iconst 1, 1) := by decide +kernel
theorem dX12_countIn_14 : decode cX12_countIn 14 = .ok (.if_icmp .ne 13, 3) := by decide +kernel
theorem dX12_countIn_17 : decode cX12_countIn 17 = .ok (.iload_n 0, 1) := by decide +kernel
theorem dX12_countIn_18 : decode cX12_countIn 18 = .ok (.bipush 13, 2) := by decide +kernel
theorem dX12_countIn_20 : decode cX12_countIn 20 = .ok (.idiv, 1) := by decide +kernel
theorem dX12_countIn_21 : decode cX12_countIn 21 = .ok (.bipush 13, 2) := by decide +kernel
theorem dX12_countIn_23 : decode cX12_countIn 23 = .ok (.irem, 1) := by decide +kernel
theorem dX12_countIn_24 : decode cX12_countIn 24 = .ok (.goto 7, 3) := by decide +kernel
theorem dX12_countIn_27 : decode cX12_countIn 27 = .ok (.iload_n 0, 1) := by decide +kernel
theorem dX12_countIn_28 : decode cX12_countIn 28 = .ok (.bipush 13, 2) := by decide +kernel
theorem dX12_countIn_30 : decode cX12_countIn 30 = .ok (.irem, 1) := by decide +kernel
theorem dX12_countIn_31 : decode cX12_countIn 31 = .ok (.ireturn, 1) := by decide +kernel
theorem dX12_allIn_0 : decode cX12_allIn 0 = .ok (.iload_n 0, 1) := by decide +kernel
theorem dX12_allIn_1 : decode cX12_allIn 1 = .ok (.sipush 169, 3) := by decide +kernel
theorem dX12_allIn_4 : decode cX12_allIn 4 = .ok (.idiv, 1) := by decide +kernel
theorem dX12_allIn_5 : decode cX12_allIn 5 = .ok (.iload_n 0, 1) := by decide +kernel
theorem dX12_allIn_6 : decode cX12_allIn 6 = .ok (.bipush 13, 2) := by decide +kernel
theorem dX12_allIn_8 : decode cX12_allIn 8 = .ok (.idiv, 1) := by decide +kernel
theorem dX12_allIn_9 : decode cX12_allIn 9 = .ok (.bipush 13, 2) := by decide +kernel
theorem dX12_allIn_11 : decode cX12_allIn 11 = .ok (.irem, 1) := by decide +kernel
theorem dX12_allIn_12 : decode cX12_allIn 12 = .ok (.iadd, 1) := by decide +kernel
theorem dX12_allIn_13 : decode cX12_allIn 13 = .ok (.iload_n 0, 1) := by decide +kernel
theorem dX12_allIn_14 : decode cX12_allIn 14 = .ok (.bipush 13, 2) := by decide +kernel
theorem dX12_allIn_16 : decode cX12_allIn 16 = .ok (.irem, 1) := by decide +kernel
theorem dX12_allIn_17 : decode cX12_allIn 17 = .ok (.iadd, 1) := by decide +kernel
theorem dX12_allIn_18 : decode cX12_allIn 18 = .ok (.ireturn, 1) := by decide +kernel
theorem dX12_isState_0 : decode cX12_isState 0 = .ok (.iload_n 0, 1) := by decide +kernel
theorem dX12_isState_1 : decode cX12_isState 1 = .ok (.i2l, 1) := by decide +kernel
theorem dX12_isState_2 : decode cX12_isState 2 = .ok (.lconst 0, 1) := by decide +kernel
theorem dX12_isState_3 : decode cX12_isState 3 = .ok (.ldc2_w 84, 3) := by decide +kernel
theorem dX12_isState_6 : decode cX12_isState 6 = .ok (.invokestatic 78, 3) := by decide +kernel
theorem dX12_isState_9 : decode cX12_isState 9 = .ok (.ifCond .eq 16, 3) := by decide +kernel
theorem dX12_isState_12 : decode cX12_isState 12 = .ok (.iload_n 0, 1) := by decide +kernel
theorem dX12_isState_13 : decode cX12_isState 13 = .ok (.invokestatic 86, 3) := by decide +kernel
theorem dX12_isState_16 : decode cX12_isState 16 = .ok (.bipush 12, 2) := by decide +kernel
theorem dX12_isState_18 : decode cX12_isState 18 = .ok (.if_icmp .gt 7, 3) := by decide +kernel
theorem dX12_isState_21 : decode cX12_isState 21 = .ok (.iconst 1, 1) := by decide +kernel
theorem dX12_isState_22 : decode cX12_isState 22 = .ok (.goto 4, 3) := by decide +kernel
theorem dX12_isState_25 : decode cX12_isState 25 = .ok (.iconst 0, 1) := by decide +kernel
theorem dX12_isState_26 : decode cX12_isState 26 = .ok (.ireturn, 1) := by decide +kernel
theorem dX12_now_0 : decode cX12_now 0 = .ok (.sipush 169, 3) := by decide +kernel
theorem dX12_now_3 : decode cX12_now 3 = .ok (.aload_n 0, 1) := by decide +kernel
theorem dX12_now_4 : decode cX12_now 4 = .ok (.getfield 7, 3) := by decide +kernel
theorem dX12_now_7 : decode cX12_now 7 = .ok (.iconst 0, 1) := by decide +kernel
theorem dX12_now_8 : decode cX12_now 8 = .ok (.iaload, 1) := by decide +kernel
theorem dX12_now_9 : decode cX12_now 9 = .ok (.imul, 1) := by decide +kernel
theorem dX12_now_10 : decode cX12_now 10 = .ok (.bipush 13, 2) := by decide +kernel
theorem dX12_now_12 : decode cX12_now 12 = .ok (.aload_n 0, 1) := by decide +kernel
theorem dX12_now_13 : decode cX12_now 13 = .ok (.getfield 7, 3) := by decide +kernel
theorem dX12_now_16 : decode cX12_now 16 = .ok (.iconst 1, 1) := by decide +kernel
theorem dX12_now_17 : decode cX12_now 17 = .ok (.iaload, 1) := by decide +kernel
theorem dX12_now_18 : decode cX12_now 18 = .ok (.imul, 1) := by decide +kernel
theorem dX12_now_19 : decode cX12_now 19 = .ok (.iadd, 1) := by decide +kernel
theorem dX12_now_20 : decode cX12_now 20 = .ok (.aload_n 0, 1) := by decide +kernel
theorem dX12_now_21 : decode cX12_now 21 = .ok (.getfield 7, 3) := by decide +kernel
theorem dX12_now_24 : decode cX12_now 24 = .ok (.iconst 2, 1) := by decide +kernel
theorem dX12_now_25 : decode cX12_now 25 = .ok (.iaload, 1) := by decide +kernel
theorem dX12_now_26 : decode cX12_now 26 = .ok (.iadd, 1) := by decide +kernel
theorem dX12_now_27 : decode cX12_now 27 = .ok (.ireturn, 1) := by decide +kernel
theorem dX12_becomes_0 : decode cX12_becomes 0 = .ok (.iconst 0, 1) := by decide +kernel
theorem dX12_becomes_1 : decode cX12_becomes 1 = .ok (.istore_n 2, 1) := by decide +kernel
theorem dX12_becomes_2 : decode cX12_becomes 2 = .ok (.iload_n 2, 1) := by decide +kernel
theorem dX12_becomes_3 : decode cX12_becomes 3 = .ok (.iconst 3, 1) := by decide +kernel
theorem dX12_becomes_4 : decode cX12_becomes 4 = .ok (.if_icmp .ge 22, 3) := by decide +kernel
theorem dX12_becomes_7 : decode cX12_becomes 7 = .ok (.aload_n 0, 1) := by decide +kernel
theorem dX12_becomes_8 : decode cX12_becomes 8 = .ok (.getfield 7, 3) := by decide +kernel
theorem dX12_becomes_11 : decode cX12_becomes 11 = .ok (.iconst 0, 1) := by decide +kernel
theorem dX12_becomes_12 : decode cX12_becomes 12 = .ok (.iload_n 2, 1) := by decide +kernel
theorem dX12_becomes_13 : decode cX12_becomes 13 = .ok (.iadd, 1) := by decide +kernel
theorem dX12_becomes_14 : decode cX12_becomes 14 = .ok (.iload_n 1, 1) := by decide +kernel
theorem dX12_becomes_15 : decode cX12_becomes 15 = .ok (.iload_n 2, 1) := by decide +kernel
theorem dX12_becomes_16 : decode cX12_becomes 16 = .ok (.invokestatic 90, 3) := by decide +kernel
theorem dX12_becomes_19 : decode cX12_becomes 19 = .ok (.iastore, 1) := by decide +kernel
theorem dX12_becomes_20 : decode cX12_becomes 20 = .ok (.iinc 2 1, 3) := by decide +kernel
theorem dX12_becomes_23 : decode cX12_becomes 23 = .ok (.goto (-21), 3) := by decide +kernel
theorem dX12_becomes_26 : decode cX12_becomes 26 = .ok (.return_, 1) := by decide +kernel
theorem dX12_here_0 : decode cX12_here 0 = .ok (.aload_n 0, 1) := by decide +kernel
theorem dX12_here_1 : decode cX12_here 1 = .ok (.getfield 94, 3) := by decide +kernel
theorem dX12_here_4 : decode cX12_here 4 = .ok (.aload_n 0, 1) := by decide +kernel
theorem dX12_here_5 : decode cX12_here 5 = .ok (.getfield 98, 3) := by decide +kernel
theorem dX12_here_8 : decode cX12_here 8 = .ok (.if_icmp .ge 27, 3) := by decide +kernel
theorem dX12_here_11 : decode cX12_here 11 = .ok (.aload_n 0, 1) := by decide +kernel
theorem dX12_here_12 : decode cX12_here 12 = .ok (.getfield 101, 3) := by decide +kernel
theorem dX12_here_15 : decode cX12_here 15 = .ok (.ifCond .ge 20, 3) := by decide +kernel
theorem dX12_here_18 : decode cX12_here 18 = .ok (.aload_n 0, 1) := by decide +kernel
theorem dX12_here_19 : decode cX12_here 19 = .ok (.getfield 7, 3) := by decide +kernel
theorem dX12_here_22 : decode cX12_here 22 = .ok (.aload_n 0, 1) := by decide +kernel
theorem dX12_here_23 : decode cX12_here 23 = .ok (.getfield 104, 3) := by decide +kernel
theorem dX12_here_26 : decode cX12_here 26 = .ok (.aload_n 0, 1) := by decide +kernel
theorem dX12_here_27 : decode cX12_here 27 = .ok (.getfield 94, 3) := by decide +kernel
theorem dX12_here_30 : decode cX12_here 30 = .ok (.iadd, 1) := by decide +kernel
theorem dX12_here_31 : decode cX12_here 31 = .ok (.iaload, 1) := by decide +kernel
theorem dX12_here_32 : decode cX12_here 32 = .ok (.goto 4, 3) := by decide +kernel
theorem dX12_here_35 : decode cX12_here 35 = .ok (.iconst (-1), 1) := by decide +kernel
theorem dX12_here_36 : decode cX12_here 36 = .ok (.ireturn, 1) := by decide +kernel
theorem dX12_wrong_0 : decode cX12_wrong 0 = .ok (.aload_n 0, 1) := by decide +kernel
theorem dX12_wrong_1 : decode cX12_wrong 1 = .ok (.aload_n 0, 1) := by decide +kernel
theorem dX12_wrong_2 : decode cX12_wrong 2 = .ok (.getfield 101, 3) := by decide +kernel
theorem dX12_wrong_5 : decode cX12_wrong 5 = .ok (.ifCond .ge 10, 3) := by decide +kernel
theorem dX12_wrong_8 : decode cX12_wrong 8 = .ok (.aload_n 0, 1) := by decide +kernel
theorem dX12_wrong_9 : decode cX12_wrong 9 = .ok (.getfield 94, 3) := by decide +kernel
theorem dX12_wrong_12 : decode cX12_wrong 12 = .ok (.goto 7, 3) := by decide +kernel
theorem dX12_wrong_15 : decode cX12_wrong 15 = .ok (.aload_n 0, 1) := by decide +kernel
theorem dX12_wrong_16 : decode cX12_wrong 16 = .ok (.getfield 101, 3) := by decide +kernel
theorem dX12_wrong_19 : decode cX12_wrong 19 = .ok (.putfield 101, 3) := by decide +kernel
theorem dX12_wrong_22 : decode cX12_wrong 22 = .ok (.iconst 0, 1) := by decide +kernel
theorem dX12_wrong_23 : decode cX12_wrong 23 = .ok (.ireturn, 1) := by decide +kernel
theorem dX12_takes_0 : decode cX12_takes 0 = .ok (.aload_n 0, 1) := by decide +kernel
theorem dX12_takes_1 : decode cX12_takes 1 = .ok (.invokevirtual 107, 3) := by decide +kernel
theorem dX12_takes_4 : decode cX12_takes 4 = .ok (.iload_n 1, 1) := by decide +kernel
theorem dX12_takes_5 : decode cX12_takes 5 = .ok (.if_icmp .eq 5, 3) := by decide +kernel
theorem dX12_takes_8 : decode cX12_takes 8 = .ok (.iconst 0, 1) := by decide +kernel
theorem dX12_takes_9 : decode cX12_takes 9 = .ok (.ireturn, 1) := by decide +kernel
theorem dX12_takes_10 : decode cX12_takes 10 = .ok (.aload_n 0, 1) := by decide +kernel
theorem dX12_takes_11 : decode cX12_takes 11 = .ok (.dup, 1) := by decide +kernel
theorem dX12_takes_12 : decode cX12_takes 12 = .ok (.getfield 94, 3) := by decide +kernel
theorem dX12_takes_15 : decode cX12_takes 15 = .ok (.iconst 1, 1) := by decide +kernel
theorem dX12_takes_16 : decode cX12_takes 16 = .ok (.iadd, 1) := by decide +kernel
theorem dX12_takes_17 : decode cX12_takes 17 = .ok (.putfield 94, 3) := by decide +kernel
theorem dX12_takes_20 : decode cX12_takes 20 = .ok (.iconst 1, 1) := by decide +kernel
theorem dX12_takes_21 : decode cX12_takes 21 = .ok (.ireturn, 1) := by decide +kernel
theorem dX12_nameOf_0 : decode cX12_nameOf 0 = .ok (.aload_n 0, 1) := by decide +kernel
theorem dX12_nameOf_1 : decode cX12_nameOf 1 = .ok (.getfield 111, 3) := by decide +kernel
theorem dX12_nameOf_4 : decode cX12_nameOf 4 = .ok (.ifCond .eq 45, 3) := by decide +kernel
theorem dX12_nameOf_7 : decode cX12_nameOf 7 = .ok (.iload_n 1, 1) := by decide +kernel
theorem dX12_nameOf_8 : decode cX12_nameOf 8 = .ok (.bipush 97, 2) := by decide +kernel
theorem dX12_nameOf_10 : decode cX12_nameOf 10 = .ok (.if_icmp .ne 7, 3) := by decide +kernel
theorem dX12_nameOf_13 : decode cX12_nameOf 13 = .ok (.iconst 0, 1) := by decide +kernel
theorem dX12_nameOf_14 : decode cX12_nameOf 14 = .ok (.goto 34, 3) := by decide +kernel
theorem dX12_nameOf_17 : decode cX12_nameOf 17 = .ok (.iload_n 1, 1) := by decide +kernel
theorem dX12_nameOf_18 : decode cX12_nameOf 18 = .ok (.bipush 98, 2) := by decide +kernel
theorem dX12_nameOf_20 : decode cX12_nameOf 20 = .ok (.if_icmp .ne 7, 3) := by decide +kernel
theorem dX12_nameOf_23 : decode cX12_nameOf 23 = .ok (.iconst 1, 1) := by decide +kernel
theorem dX12_nameOf_24 : decode cX12_nameOf 24 = .ok (.goto 24, 3) := by decide +kernel
theorem dX12_nameOf_27 : decode cX12_nameOf 27 = .ok (.iload_n 1, 1) := by decide +kernel
theorem dX12_nameOf_28 : decode cX12_nameOf 28 = .ok (.bipush 107, 2) := by decide +kernel
theorem dX12_nameOf_30 : decode cX12_nameOf 30 = .ok (.if_icmp .ne 7, 3) := by decide +kernel
theorem dX12_nameOf_33 : decode cX12_nameOf 33 = .ok (.iconst 2, 1) := by decide +kernel
theorem dX12_nameOf_34 : decode cX12_nameOf 34 = .ok (.goto 14, 3) := by decide +kernel
theorem dX12_nameOf_37 : decode cX12_nameOf 37 = .ok (.iload_n 1, 1) := by decide +kernel
theorem dX12_nameOf_38 : decode cX12_nameOf 38 = .ok (.bipush 116, 2) := by decide +kernel
theorem dX12_nameOf_40 : decode cX12_nameOf 40 = .ok (.if_icmp .ne 7, 3) := by decide +kernel
theorem dX12_nameOf_43 : decode cX12_nameOf 43 = .ok (.iconst 3, 1) := by decide +kernel
theorem dX12_nameOf_44 : decode cX12_nameOf 44 = .ok (.goto 4, 3) := by decide +kernel
theorem dX12_nameOf_47 : decode cX12_nameOf 47 = .ok (.iconst (-1), 1) := by decide +kernel
theorem dX12_nameOf_48 : decode cX12_nameOf 48 = .ok (.ireturn, 1) := by decide +kernel
theorem dX12_nameOf_49 : decode cX12_nameOf 49 = .ok (.iload_n 1, 1) := by decide +kernel
theorem dX12_nameOf_50 : decode cX12_nameOf 50 = .ok (.bipush 97, 2) := by decide +kernel
theorem dX12_nameOf_52 : decode cX12_nameOf 52 = .ok (.if_icmp .ne 7, 3) := by decide +kernel
theorem dX12_nameOf_55 : decode cX12_nameOf 55 = .ok (.iconst 0, 1) := by decide +kernel
theorem dX12_nameOf_56 : decode cX12_nameOf 56 = .ok (.goto 24, 3) := by decide +kernel
theorem dX12_nameOf_59 : decode cX12_nameOf 59 = .ok (.iload_n 1, 1) := by decide +kernel
theorem dX12_nameOf_60 : decode cX12_nameOf 60 = .ok (.bipush 98, 2) := by decide +kernel
theorem dX12_nameOf_62 : decode cX12_nameOf 62 = .ok (.if_icmp .ne 7, 3) := by decide +kernel
theorem dX12_nameOf_65 : decode cX12_nameOf 65 = .ok (.iconst 1, 1) := by decide +kernel
theorem dX12_nameOf_66 : decode cX12_nameOf 66 = .ok (.goto 14, 3) := by decide +kernel
theorem dX12_nameOf_69 : decode cX12_nameOf 69 = .ok (.iload_n 1, 1) := by decide +kernel
theorem dX12_nameOf_70 : decode cX12_nameOf 70 = .ok (.bipush 109, 2) := by decide +kernel
theorem dX12_nameOf_72 : decode cX12_nameOf 72 = .ok (.if_icmp .ne 7, 3) := by decide +kernel
theorem dX12_nameOf_75 : decode cX12_nameOf 75 = .ok (.iconst 2, 1) := by decide +kernel
theorem dX12_nameOf_76 : decode cX12_nameOf 76 = .ok (.goto 4, 3) := by decide +kernel
theorem dX12_nameOf_79 : decode cX12_nameOf 79 = .ok (.iconst (-1), 1) := by decide +kernel
theorem dX12_nameOf_80 : decode cX12_nameOf 80 = .ok (.ireturn, 1) := by decide +kernel
theorem dX12_either_0 : decode cX12_either 0 = .ok (.aload_n 0, 1) := by decide +kernel
theorem dX12_either_1 : decode cX12_either 1 = .ok (.invokevirtual 115, 3) := by decide +kernel
theorem dX12_either_4 : decode cX12_either 4 = .ok (.istore_n 1, 1) := by decide +kernel
theorem dX12_either_5 : decode cX12_either 5 = .ok (.aload_n 0, 1) := by decide +kernel
theorem dX12_either_6 : decode cX12_either 6 = .ok (.bipush 124, 2) := by decide +kernel
theorem dX12_either_8 : decode cX12_either 8 = .ok (.invokevirtual 118, 3) := by decide +kernel
theorem dX12_either_11 : decode cX12_either 11 = .ok (.ifCond .eq 25, 3) := by decide +kernel
theorem dX12_either_14 : decode cX12_either 14 = .ok (.aload_n 0, 1) := by decide +kernel
theorem dX12_either_15 : decode cX12_either 15 = .ok (.invokevirtual 115, 3) := by decide +kernel
theorem dX12_either_18 : decode cX12_either 18 = .ok (.istore_n 2, 1) := by decide +kernel
theorem dX12_either_19 : decode cX12_either 19 = .ok (.iload_n 1, 1) := by decide +kernel
theorem dX12_either_20 : decode cX12_either 20 = .ok (.ifCond .ne 7, 3) := by decide +kernel
theorem dX12_either_23 : decode cX12_either 23 = .ok (.iload_n 2, 1) := by decide +kernel
theorem dX12_either_24 : decode cX12_either 24 = .ok (.ifCond .eq 7, 3) := by decide +kernel
theorem dX12_either_27 : decode cX12_either 27 = .ok (.iconst 1, 1) := by decide +kernel
theorem dX12_either_28 : decode cX12_either 28 = .ok (.goto 4, 3) := by decide +kernel
theorem dX12_either_31 : decode cX12_either 31 = .ok (.iconst 0, 1) := by decide +kernel
theorem dX12_either_32 : decode cX12_either 32 = .ok (.istore_n 1, 1) := by decide +kernel
theorem dX12_either_33 : decode cX12_either 33 = .ok (.goto (-28), 3) := by decide +kernel
theorem dX12_either_36 : decode cX12_either 36 = .ok (.iload_n 1, 1) := by decide +kernel
theorem dX12_either_37 : decode cX12_either 37 = .ok (.ireturn, 1) := by decide +kernel
theorem dX12_both_0 : decode cX12_both 0 = .ok (.aload_n 0, 1) := by decide +kernel
theorem dX12_both_1 : decode cX12_both 1 = .ok (.invokevirtual 122, 3) := by decide +kernel
theorem dX12_both_4 : decode cX12_both 4 = .ok (.istore_n 1, 1) := by decide +kernel
theorem dX12_both_5 : decode cX12_both 5 = .ok (.aload_n 0, 1) := by decide +kernel
theorem dX12_both_6 : decode cX12_both 6 = .ok (.bipush 38, 2) := by decide +kernel
theorem dX12_both_8 : decode cX12_both 8 = .ok (.invokevirtual 118, 3) := by decide +kernel
theorem dX12_both_11 : decode cX12_both 11 = .ok (.ifCond .eq 25, 3) := by decide +kernel
theorem dX12_both_14 : decode cX12_both 14 = .ok (.aload_n 0, 1) := by decide +kernel
theorem dX12_both_15 : decode cX12_both 15 = .ok (.invokevirtual 122, 3) := by decide +kernel
theorem dX12_both_18 : decode cX12_both 18 = .ok (.istore_n 2, 1) := by decide +kernel
theorem dX12_both_19 : decode cX12_both 19 = .ok (.iload_n 1, 1) := by decide +kernel
theorem dX12_both_20 : decode cX12_both 20 = .ok (.ifCond .eq 11, 3) := by decide +kernel
theorem dX12_both_23 : decode cX12_both 23 = .ok (.iload_n 2, 1) := by decide +kernel
theorem dX12_both_24 : decode cX12_both 24 = .ok (.ifCond .eq 7, 3) := by decide +kernel
theorem dX12_both_27 : decode cX12_both 27 = .ok (.iconst 1, 1) := by decide +kernel
theorem dX12_both_28 : decode cX12_both 28 = .ok (.goto 4, 3) := by decide +kernel
theorem dX12_both_31 : decode cX12_both 31 = .ok (.iconst 0, 1) := by decide +kernel
theorem dX12_both_32 : decode cX12_both 32 = .ok (.istore_n 1, 1) := by decide +kernel
theorem dX12_both_33 : decode cX12_both 33 = .ok (.goto (-28), 3) := by decide +kernel
theorem dX12_both_36 : decode cX12_both 36 = .ok (.iload_n 1, 1) := by decide +kernel
theorem dX12_both_37 : decode cX12_both 37 = .ok (.ireturn, 1) := by decide +kernel
theorem dX12_compared_0 : decode cX12_compared 0 = .ok (.aload_n 0, 1) := by decide +kernel
theorem dX12_compared_1 : decode cX12_compared 1 = .ok (.invokevirtual 125, 3) := by decide +kernel
theorem dX12_compared_4 : decode cX12_compared 4 = .ok (.istore_n 1, 1) := by decide +kernel
theorem dX12_compared_5 : decode cX12_compared 5 = .ok (.aload_n 0, 1) := by decide +kernel
theorem dX12_compared_6 : decode cX12_compared 6 = .ok (.invokevirtual 107, 3) := by decide +kernel
theorem dX12_compared_9 : decode cX12_compared 9 = .ok (.istore_n 2, 1) := by decide +kernel
theorem dX12_compared_10 : decode cX12_compared 10 = .ok (.iload_n 2, 1) := by decide +kernel
theorem dX12_compared_11 : decode cX12_compared 11 = .ok (.bipush 60, 2) := by decide +kernel
theorem dX12_compared_13 : decode cX12_compared 13 = .ok (.if_icmp .eq 17, 3) := by decide +kernel
theorem dX12_compared_16 : decode cX12_compared 16 = .ok (.iload_n 2, 1) := by decide +kernel
theorem dX12_compared_17 : decode cX12_compared 17 = .ok (.bipush 61, 2) := by decide +kernel
theorem dX12_compared_19 : decode cX12_compared 19 = .ok (.if_icmp .eq 11, 3) := by decide +kernel
theorem dX12_compared_22 : decode cX12_compared 22 = .ok (.iload_n 2, 1) := by decide +kernel
theorem dX12_compared_23 : decode cX12_compared 23 = .ok (.bipush 62, 2) := by decide +kernel
theorem dX12_compared_25 : decode cX12_compared 25 = .ok (.if_icmp .eq 5, 3) := by decide +kernel
theorem dX12_compared_28 : decode cX12_compared 28 = .ok (.iload_n 1, 1) := by decide +kernel
theorem dX12_compared_29 : decode cX12_compared 29 = .ok (.ireturn, 1) := by decide +kernel
theorem dX12_compared_30 : decode cX12_compared 30 = .ok (.aload_n 0, 1) := by decide +kernel
theorem dX12_compared_31 : decode cX12_compared 31 = .ok (.dup, 1) := by decide +kernel
theorem dX12_compared_32 : decode cX12_compared 32 = .ok (.getfield 94, 3) := by decide +kernel
theorem dX12_compared_35 : decode cX12_compared 35 = .ok (.iconst 1, 1) := by decide +kernel
theorem dX12_compared_36 : decode cX12_compared 36 = .ok (.iadd, 1) := by decide +kernel
theorem dX12_compared_37 : decode cX12_compared 37 = .ok (.putfield 94, 3) := by decide +kernel
theorem dX12_compared_40 : decode cX12_compared 40 = .ok (.aload_n 0, 1) := by decide +kernel
theorem dX12_compared_41 : decode cX12_compared 41 = .ok (.invokevirtual 125, 3) := by decide +kernel
theorem dX12_compared_44 : decode cX12_compared 44 = .ok (.istore_n 3, 1) := by decide +kernel
theorem dX12_compared_45 : decode cX12_compared 45 = .ok (.iload_n 2, 1) := by decide +kernel
theorem dX12_compared_46 : decode cX12_compared 46 = .ok (.bipush 60, 2) := by decide +kernel
theorem dX12_compared_48 : decode cX12_compared 48 = .ok (.if_icmp .ne 11, 3) := by decide +kernel
theorem dX12_compared_51 : decode cX12_compared 51 = .ok (.iload_n 1, 1) := by decide +kernel
theorem dX12_compared_52 : decode cX12_compared 52 = .ok (.iload_n 3, 1) := by decide +kernel
theorem dX12_compared_53 : decode cX12_compared 53 = .ok (.if_icmp .ge 29, 3) := by decide +kernel
theorem dX12_compared_56 : decode cX12_compared 56 = .ok (.goto 22, 3) := by decide +kernel
theorem dX12_compared_59 : decode cX12_compared 59 = .ok (.iload_n 2, 1) := by decide +kernel
theorem dX12_compared_60 : decode cX12_compared 60 = .ok (.bipush 61, 2) := by decide +kernel
theorem dX12_compared_62 : decode cX12_compared 62 = .ok (.if_icmp .ne 11, 3) := by decide +kernel
theorem dX12_compared_65 : decode cX12_compared 65 = .ok (.iload_n 1, 1) := by decide +kernel
theorem dX12_compared_66 : decode cX12_compared 66 = .ok (.iload_n 3, 1) := by decide +kernel
theorem dX12_compared_67 : decode cX12_compared 67 = .ok (.if_icmp .ne 15, 3) := by decide +kernel
theorem dX12_compared_70 : decode cX12_compared 70 = .ok (.goto 8, 3) := by decide +kernel
theorem dX12_compared_73 : decode cX12_compared 73 = .ok (.iload_n 1, 1) := by decide +kernel
theorem dX12_compared_74 : decode cX12_compared 74 = .ok (.iload_n 3, 1) := by decide +kernel
theorem dX12_compared_75 : decode cX12_compared 75 = .ok (.if_icmp .le 7, 3) := by decide +kernel
theorem dX12_compared_78 : decode cX12_compared 78 = .ok (.iconst 1, 1) := by decide +kernel
theorem dX12_compared_79 : decode cX12_compared 79 = .ok (.goto 4, 3) := by decide +kernel
theorem dX12_compared_82 : decode cX12_compared 82 = .ok (.iconst 0, 1) := by decide +kernel
theorem dX12_compared_83 : decode cX12_compared 83 = .ok (.ireturn, 1) := by decide +kernel
theorem dX12_sum_0 : decode cX12_sum 0 = .ok (.aload_n 0, 1) := by decide +kernel
theorem dX12_sum_1 : decode cX12_sum 1 = .ok (.invokevirtual 128, 3) := by decide +kernel
theorem dX12_sum_4 : decode cX12_sum 4 = .ok (.istore_n 1, 1) := by decide +kernel
theorem dX12_sum_5 : decode cX12_sum 5 = .ok (.aload_n 0, 1) := by decide +kernel
theorem dX12_sum_6 : decode cX12_sum 6 = .ok (.invokevirtual 107, 3) := by decide +kernel
theorem dX12_sum_9 : decode cX12_sum 9 = .ok (.bipush 43, 2) := by decide +kernel
theorem dX12_sum_11 : decode cX12_sum 11 = .ok (.if_icmp .eq 12, 3) := by decide +kernel
theorem dX12_sum_14 : decode cX12_sum 14 = .ok (.aload_n 0, 1) := by decide +kernel
theorem dX12_sum_15 : decode cX12_sum 15 = .ok (.invokevirtual 107, 3) := by decide +kernel
theorem dX12_sum_18 : decode cX12_sum 18 = .ok (.bipush 45, 2) := by decide +kernel
theorem dX12_sum_20 : decode cX12_sum 20 = .ok (.if_icmp .ne 42, 3) := by decide +kernel
theorem dX12_sum_23 : decode cX12_sum 23 = .ok (.aload_n 0, 1) := by decide +kernel
theorem dX12_sum_24 : decode cX12_sum 24 = .ok (.invokevirtual 107, 3) := by decide +kernel
theorem dX12_sum_27 : decode cX12_sum 27 = .ok (.istore_n 2, 1) := by decide +kernel
theorem dX12_sum_28 : decode cX12_sum 28 = .ok (.aload_n 0, 1) := by decide +kernel
theorem dX12_sum_29 : decode cX12_sum 29 = .ok (.dup, 1) := by decide +kernel
theorem dX12_sum_30 : decode cX12_sum 30 = .ok (.getfield 94, 3) := by decide +kernel
theorem dX12_sum_33 : decode cX12_sum 33 = .ok (.iconst 1, 1) := by decide +kernel
theorem dX12_sum_34 : decode cX12_sum 34 = .ok (.iadd, 1) := by decide +kernel
theorem dX12_sum_35 : decode cX12_sum 35 = .ok (.putfield 94, 3) := by decide +kernel
theorem dX12_sum_38 : decode cX12_sum 38 = .ok (.aload_n 0, 1) := by decide +kernel
theorem dX12_sum_39 : decode cX12_sum 39 = .ok (.invokevirtual 128, 3) := by decide +kernel
theorem dX12_sum_42 : decode cX12_sum 42 = .ok (.istore_n 3, 1) := by decide +kernel
theorem dX12_sum_43 : decode cX12_sum 43 = .ok (.iload_n 2, 1) := by decide +kernel
theorem dX12_sum_44 : decode cX12_sum 44 = .ok (.bipush 43, 2) := by decide +kernel
theorem dX12_sum_46 : decode cX12_sum 46 = .ok (.if_icmp .ne 9, 3) := by decide +kernel
theorem dX12_sum_49 : decode cX12_sum 49 = .ok (.iload_n 1, 1) := by decide +kernel
theorem dX12_sum_50 : decode cX12_sum 50 = .ok (.iload_n 3, 1) := by decide +kernel
theorem dX12_sum_51 : decode cX12_sum 51 = .ok (.iadd, 1) := by decide +kernel
theorem dX12_sum_52 : decode cX12_sum 52 = .ok (.goto 6, 3) := by decide +kernel
theorem dX12_sum_55 : decode cX12_sum 55 = .ok (.iload_n 1, 1) := by decide +kernel
theorem dX12_sum_56 : decode cX12_sum 56 = .ok (.iload_n 3, 1) := by decide +kernel
theorem dX12_sum_57 : decode cX12_sum 57 = .ok (.isub, 1) := by decide +kernel
theorem dX12_sum_58 : decode cX12_sum 58 = .ok (.istore_n 1, 1) := by decide +kernel
theorem dX12_sum_59 : decode cX12_sum 59 = .ok (.goto (-54), 3) := by decide +kernel
theorem dX12_sum_62 : decode cX12_sum 62 = .ok (.iload_n 1, 1) := by decide +kernel
theorem dX12_sum_63 : decode cX12_sum 63 = .ok (.ireturn, 1) := by decide +kernel
theorem dX12_product_0 : decode cX12_product 0 = .ok (.aload_n 0, 1) := by decide +kernel
theorem dX12_product_1 : decode cX12_product 1 = .ok (.invokevirtual 131, 3) := by decide +kernel
theorem dX12_product_4 : decode cX12_product 4 = .ok (.istore_n 1, 1) := by decide +kernel
theorem dX12_product_5 : decode cX12_product 5 = .ok (.aload_n 0, 1) := by decide +kernel
theorem dX12_product_6 : decode cX12_product 6 = .ok (.invokevirtual 107, 3) := by decide +kernel
theorem dX12_product_9 : decode cX12_product 9 = .ok (.bipush 42, 2) := by decide +kernel
theorem dX12_product_11 : decode cX12_product 11 = .ok (.if_icmp .eq 21, 3) := by decide +kernel
theorem dX12_product_14 : decode cX12_product 14 = .ok (.aload_n 0, 1) := by decide +kernel
theorem dX12_product_15 : decode cX12_product 15 = .ok (.invokevirtual 107, 3) := by decide +kernel
theorem dX12_product_18 : decode cX12_product 18 = .ok (.bipush 47, 2) := by decide +kernel
theorem dX12_product_20 : decode cX12_product 20 = .ok (.if_icmp .eq 12, 3) := by decide +kernel
theorem dX12_product_23 : decode cX12_product 23 = .ok (.aload_n 0, 1) := by decide +kernel
theorem dX12_product_24 : decode cX12_product 24 = .ok (.invokevirtual 107, 3) := by decide +kernel
theorem dX12_product_27 : decode cX12_product 27 = .ok (.bipush 37, 2) := by decide +kernel
theorem dX12_product_29 : decode cX12_product 29 = .ok (.if_icmp .ne 62, 3) := by decide +kernel
theorem dX12_product_32 : decode cX12_product 32 = .ok (.aload_n 0, 1) := by decide +kernel
theorem dX12_product_33 : decode cX12_product 33 = .ok (.invokevirtual 107, 3) := by decide +kernel
theorem dX12_product_36 : decode cX12_product 36 = .ok (.istore_n 2, 1) := by decide +kernel
theorem dX12_product_37 : decode cX12_product 37 = .ok (.aload_n 0, 1) := by decide +kernel
theorem dX12_product_38 : decode cX12_product 38 = .ok (.dup, 1) := by decide +kernel
theorem dX12_product_39 : decode cX12_product 39 = .ok (.getfield 94, 3) := by decide +kernel
theorem dX12_product_42 : decode cX12_product 42 = .ok (.iconst 1, 1) := by decide +kernel
theorem dX12_product_43 : decode cX12_product 43 = .ok (.iadd, 1) := by decide +kernel
theorem dX12_product_44 : decode cX12_product 44 = .ok (.putfield 94, 3) := by decide +kernel
theorem dX12_product_47 : decode cX12_product 47 = .ok (.aload_n 0, 1) := by decide +kernel
theorem dX12_product_48 : decode cX12_product 48 = .ok (.invokevirtual 131, 3) := by decide +kernel
theorem dX12_product_51 : decode cX12_product 51 = .ok (.istore_n 3, 1) := by decide +kernel
theorem dX12_product_52 : decode cX12_product 52 = .ok (.iload_n 2, 1) := by decide +kernel
theorem dX12_product_53 : decode cX12_product 53 = .ok (.bipush 42, 2) := by decide +kernel
theorem dX12_product_55 : decode cX12_product 55 = .ok (.if_icmp .ne 9, 3) := by decide +kernel
theorem dX12_product_58 : decode cX12_product 58 = .ok (.iload_n 1, 1) := by decide +kernel
theorem dX12_product_59 : decode cX12_product 59 = .ok (.iload_n 3, 1) := by decide +kernel
theorem dX12_product_60 : decode cX12_product 60 = .ok (.imul, 1) := by decide +kernel
theorem dX12_product_61 : decode cX12_product 61 = .ok (.goto 26, 3) := by decide +kernel
theorem dX12_product_64 : decode cX12_product 64 = .ok (.iload_n 3, 1) := by decide +kernel
theorem dX12_product_65 : decode cX12_product 65 = .ok (.ifCond .ne 7, 3) := by decide +kernel
theorem dX12_product_68 : decode cX12_product 68 = .ok (.iconst 0, 1) := by decide +kernel
theorem dX12_product_69 : decode cX12_product 69 = .ok (.goto 18, 3) := by decide +kernel
theorem dX12_product_72 : decode cX12_product 72 = .ok (.iload_n 2, 1) := by decide +kernel
theorem dX12_product_73 : decode cX12_product 73 = .ok (.bipush 47, 2) := by decide +kernel
theorem dX12_product_75 : decode cX12_product 75 = .ok (.if_icmp .ne 9, 3) := by decide +kernel
theorem dX12_product_78 : decode cX12_product 78 = .ok (.iload_n 1, 1) := by decide +kernel
theorem dX12_product_79 : decode cX12_product 79 = .ok (.iload_n 3, 1) := by decide +kernel
theorem dX12_product_80 : decode cX12_product 80 = .ok (.idiv, 1) := by decide +kernel
theorem dX12_product_81 : decode cX12_product 81 = .ok (.goto 6, 3) := by decide +kernel
theorem dX12_product_84 : decode cX12_product 84 = .ok (.iload_n 1, 1) := by decide +kernel
theorem dX12_product_85 : decode cX12_product 85 = .ok (.iload_n 3, 1) := by decide +kernel
theorem dX12_product_86 : decode cX12_product 86 = .ok (.irem, 1) := by decide +kernel
theorem dX12_product_87 : decode cX12_product 87 = .ok (.istore_n 1, 1) := by decide +kernel
theorem dX12_product_88 : decode cX12_product 88 = .ok (.goto (-83), 3) := by decide +kernel
theorem dX12_product_91 : decode cX12_product 91 = .ok (.iload_n 1, 1) := by decide +kernel
theorem dX12_product_92 : decode cX12_product 92 = .ok (.ireturn, 1) := by decide +kernel
theorem dX12_unit_0 : decode cX12_unit 0 = .ok (.aload_n 0, 1) := by decide +kernel
theorem dX12_unit_1 : decode cX12_unit 1 = .ok (.invokevirtual 107, 3) := by decide +kernel
theorem dX12_unit_4 : decode cX12_unit 4 = .ok (.istore_n 1, 1) := by decide +kernel
theorem dX12_unit_5 : decode cX12_unit 5 = .ok (.iload_n 1, 1) := by decide +kernel
theorem dX12_unit_6 : decode cX12_unit 6 = .ok (.bipush 33, 2) := by decide +kernel
theorem dX12_unit_8 : decode cX12_unit 8 = .ok (.if_icmp .eq 9, 3) := by decide +kernel
theorem dX12_unit_11 : decode cX12_unit 11 = .ok (.iload_n 1, 1) := by decide +kernel
theorem dX12_unit_12 : decode cX12_unit 12 = .ok (.bipush 40, 2) := by decide +kernel
theorem dX12_unit_14 : decode cX12_unit 14 = .ok (.if_icmp .ne 104, 3) := by decide +kernel
theorem dX12_unit_17 : decode cX12_unit 17 = .ok (.aload_n 0, 1) := by decide +kernel
theorem dX12_unit_18 : decode cX12_unit 18 = .ok (.getfield 134, 3) := by decide +kernel
theorem dX12_unit_21 : decode cX12_unit 21 = .ok (.iconst 5, 1) := by decide +kernel
theorem dX12_unit_22 : decode cX12_unit 22 = .ok (.if_icmp .ne 8, 3) := by decide +kernel
theorem dX12_unit_25 : decode cX12_unit 25 = .ok (.aload_n 0, 1) := by decide +kernel
theorem dX12_unit_26 : decode cX12_unit 26 = .ok (.invokevirtual 137, 3) := by decide +kernel
theorem dX12_unit_29 : decode cX12_unit 29 = .ok (.ireturn, 1) := by decide +kernel
theorem dX12_unit_30 : decode cX12_unit 30 = .ok (.aload_n 0, 1) := by decide +kernel
theorem dX12_unit_31 : decode cX12_unit 31 = .ok (.dup, 1) := by decide +kernel
theorem dX12_unit_32 : decode cX12_unit 32 = .ok (.getfield 134, 3) := by decide +kernel
theorem dX12_unit_35 : decode cX12_unit 35 = .ok (.iconst 1, 1) := by decide +kernel
theorem dX12_unit_36 : decode cX12_unit 36 = .ok (.iadd, 1) := by decide +kernel
theorem dX12_unit_37 : decode cX12_unit 37 = .ok (.putfield 134, 3) := by decide +kernel
theorem dX12_unit_40 : decode cX12_unit 40 = .ok (.aload_n 0, 1) := by decide +kernel
theorem dX12_unit_41 : decode cX12_unit 41 = .ok (.dup, 1) := by decide +kernel
theorem dX12_unit_42 : decode cX12_unit 42 = .ok (.getfield 94, 3) := by decide +kernel
theorem dX12_unit_45 : decode cX12_unit 45 = .ok (.iconst 1, 1) := by decide +kernel
theorem dX12_unit_46 : decode cX12_unit 46 = .ok (.iadd, 1) := by decide +kernel
theorem dX12_unit_47 : decode cX12_unit 47 = .ok (.putfield 94, 3) := by decide +kernel
theorem dX12_unit_50 : decode cX12_unit 50 = .ok (.iload_n 1, 1) := by decide +kernel
theorem dX12_unit_51 : decode cX12_unit 51 = .ok (.bipush 40, 2) := by decide +kernel
theorem dX12_unit_53 : decode cX12_unit 53 = .ok (.if_icmp .ne 10, 3) := by decide +kernel
theorem dX12_unit_56 : decode cX12_unit 56 = .ok (.aload_n 0, 1) := by decide +kernel
theorem dX12_unit_57 : decode cX12_unit 57 = .ok (.invokevirtual 140, 3) := by decide +kernel
theorem dX12_unit_60 : decode cX12_unit 60 = .ok (.goto 7, 3) := by decide +kernel
theorem dX12_unit_63 : decode cX12_unit 63 = .ok (.aload_n 0, 1) := by decide +kernel
theorem dX12_unit_64 : decode cX12_unit 64 = .ok (.invokevirtual 131, 3) := by decide +kernel
theorem dX12_unit_67 : decode cX12_unit 67 = .ok (.istore_n 2, 1) := by decide +kernel
theorem dX12_unit_68 : decode cX12_unit 68 = .ok (.iload_n 1, 1) := by decide +kernel
theorem dX12_unit_69 : decode cX12_unit 69 = .ok (.bipush 40, 2) := by decide +kernel
theorem dX12_unit_71 : decode cX12_unit 71 = .ok (.if_icmp .ne 17, 3) := by decide +kernel
theorem dX12_unit_74 : decode cX12_unit 74 = .ok (.aload_n 0, 1) := by decide +kernel
theorem dX12_unit_75 : decode cX12_unit 75 = .ok (.bipush 41, 2) := by decide +kernel
theorem dX12_unit_77 : decode cX12_unit 77 = .ok (.invokevirtual 118, 3) := by decide +kernel
theorem dX12_unit_80 : decode cX12_unit 80 = .ok (.ifCond .ne 8, 3) := by decide +kernel
theorem dX12_unit_83 : decode cX12_unit 83 = .ok (.aload_n 0, 1) := by decide +kernel
theorem dX12_unit_84 : decode cX12_unit 84 = .ok (.invokevirtual 137, 3) := by decide +kernel
theorem dX12_unit_87 : decode cX12_unit 87 = .ok (.ireturn, 1) := by decide +kernel
theorem dX12_unit_88 : decode cX12_unit 88 = .ok (.aload_n 0, 1) := by decide +kernel
theorem dX12_unit_89 : decode cX12_unit 89 = .ok (.dup, 1) := by decide +kernel
theorem dX12_unit_90 : decode cX12_unit 90 = .ok (.getfield 134, 3) := by decide +kernel
theorem dX12_unit_93 : decode cX12_unit 93 = .ok (.iconst 1, 1) := by decide +kernel
theorem dX12_unit_94 : decode cX12_unit 94 = .ok (.isub, 1) := by decide +kernel
theorem dX12_unit_95 : decode cX12_unit 95 = .ok (.putfield 134, 3) := by decide +kernel
theorem dX12_unit_98 : decode cX12_unit 98 = .ok (.iload_n 1, 1) := by decide +kernel
theorem dX12_unit_99 : decode cX12_unit 99 = .ok (.bipush 40, 2) := by decide +kernel
theorem dX12_unit_101 : decode cX12_unit 101 = .ok (.if_icmp .ne 7, 3) := by decide +kernel
theorem dX12_unit_104 : decode cX12_unit 104 = .ok (.iload_n 2, 1) := by decide +kernel
theorem dX12_unit_105 : decode cX12_unit 105 = .ok (.goto 12, 3) := by decide +kernel
theorem dX12_unit_108 : decode cX12_unit 108 = .ok (.iload_n 2, 1) := by decide +kernel
theorem dX12_unit_109 : decode cX12_unit 109 = .ok (.ifCond .ne 7, 3) := by decide +kernel
theorem dX12_unit_112 : decode cX12_unit 112 = .ok (.iconst 1, 1) := by decide +kernel
theorem dX12_unit_113 : decode cX12_unit 113 = .ok (.goto 4, 3) := by decide +kernel
theorem dX12_unit_116 : decode cX12_unit 116 = .ok (.iconst 0, 1) := by decide +kernel
theorem dX12_unit_117 : decode cX12_unit 117 = .ok (.ireturn, 1) := by decide +kernel
theorem dX12_unit_118 : decode cX12_unit 118 = .ok (.aload_n 0, 1) := by decide +kernel
theorem dX12_unit_119 : decode cX12_unit 119 = .ok (.iload_n 1, 1) := by decide +kernel
theorem dX12_unit_120 : decode cX12_unit 120 = .ok (.invokevirtual 143, 3) := by decide +kernel
theorem dX12_unit_123 : decode cX12_unit 123 = .ok (.istore_n 2, 1) := by decide +kernel
theorem dX12_unit_124 : decode cX12_unit 124 = .ok (.iload_n 2, 1) := by decide +kernel
theorem dX12_unit_125 : decode cX12_unit 125 = .ok (.ifCond .lt 20, 3) := by decide +kernel
theorem dX12_unit_128 : decode cX12_unit 128 = .ok (.aload_n 0, 1) := by decide +kernel
theorem dX12_unit_129 : decode cX12_unit 129 = .ok (.dup, 1) := by decide +kernel
theorem dX12_unit_130 : decode cX12_unit 130 = .ok (.getfield 94, 3) := by decide +kernel
theorem dX12_unit_133 : decode cX12_unit 133 = .ok (.iconst 1, 1) := by decide +kernel
theorem dX12_unit_134 : decode cX12_unit 134 = .ok (.iadd, 1) := by decide +kernel
theorem dX12_unit_135 : decode cX12_unit 135 = .ok (.putfield 94, 3) := by decide +kernel
theorem dX12_unit_138 : decode cX12_unit 138 = .ok (.aload_n 0, 1) := by decide +kernel
theorem dX12_unit_139 : decode cX12_unit 139 = .ok (.getfield 19, 3) := by decide +kernel
theorem dX12_unit_142 : decode cX12_unit 142 = .ok (.iload_n 2, 1) := by decide +kernel
theorem dX12_unit_143 : decode cX12_unit 143 = .ok (.iaload, 1) := by decide +kernel
theorem dX12_unit_144 : decode cX12_unit 144 = .ok (.ireturn, 1) := by decide +kernel
theorem dX12_unit_145 : decode cX12_unit 145 = .ok (.iconst 0, 1) := by decide +kernel
theorem dX12_unit_146 : decode cX12_unit 146 = .ok (.istore_n 3, 1) := by decide +kernel
theorem dX12_unit_147 : decode cX12_unit 147 = .ok (.iconst 0, 1) := by decide +kernel
theorem dX12_unit_148 : decode cX12_unit 148 = .ok (.istore 4, 2) := by decide +kernel
theorem dX12_unit_150 : decode cX12_unit 150 = .ok (.iload 4, 2) := by decide +kernel
theorem dX12_unit_152 : decode cX12_unit 152 = .ok (.iconst 4, 1) := by decide +kernel
theorem dX12_unit_153 : decode cX12_unit 153 = .ok (.if_icmp .ge 49, 3) := by decide +kernel
theorem dX12_unit_156 : decode cX12_unit 156 = .ok (.aload_n 0, 1) := by decide +kernel
theorem dX12_unit_157 : decode cX12_unit 157 = .ok (.invokevirtual 107, 3) := by decide +kernel
theorem dX12_unit_160 : decode cX12_unit 160 = .ok (.i2l, 1) := by decide +kernel
theorem dX12_unit_161 : decode cX12_unit 161 = .ok (.ldc2_w 146, 3) := by decide +kernel
theorem dX12_unit_164 : decode cX12_unit 164 = .ok (.ldc2_w 148, 3) := by decide +kernel
theorem dX12_unit_167 : decode cX12_unit 167 = .ok (.invokestatic 78, 3) := by decide +kernel
theorem dX12_unit_170 : decode cX12_unit 170 = .ok (.ifCond .eq 32, 3) := by decide +kernel
theorem dX12_unit_173 : decode cX12_unit 173 = .ok (.bipush 10, 2) := by decide +kernel
theorem dX12_unit_175 : decode cX12_unit 175 = .ok (.iload_n 3, 1) := by decide +kernel
theorem dX12_unit_176 : decode cX12_unit 176 = .ok (.imul, 1) := by decide +kernel
theorem dX12_unit_177 : decode cX12_unit 177 = .ok (.aload_n 0, 1) := by decide +kernel
theorem dX12_unit_178 : decode cX12_unit 178 = .ok (.invokevirtual 107, 3) := by decide +kernel
theorem dX12_unit_181 : decode cX12_unit 181 = .ok (.iadd, 1) := by decide +kernel
theorem dX12_unit_182 : decode cX12_unit 182 = .ok (.bipush 48, 2) := by decide +kernel
theorem dX12_unit_184 : decode cX12_unit 184 = .ok (.isub, 1) := by decide +kernel
theorem dX12_unit_185 : decode cX12_unit 185 = .ok (.istore_n 3, 1) := by decide +kernel
theorem dX12_unit_186 : decode cX12_unit 186 = .ok (.aload_n 0, 1) := by decide +kernel
theorem dX12_unit_187 : decode cX12_unit 187 = .ok (.dup, 1) := by decide +kernel
theorem dX12_unit_188 : decode cX12_unit 188 = .ok (.getfield 94, 3) := by decide +kernel
theorem dX12_unit_191 : decode cX12_unit 191 = .ok (.iconst 1, 1) := by decide +kernel
theorem dX12_unit_192 : decode cX12_unit 192 = .ok (.iadd, 1) := by decide +kernel
theorem dX12_unit_193 : decode cX12_unit 193 = .ok (.putfield 94, 3) := by decide +kernel
theorem dX12_unit_196 : decode cX12_unit 196 = .ok (.iinc 4 1, 3) := by decide +kernel
theorem dX12_unit_199 : decode cX12_unit 199 = .ok (.goto (-49), 3) := by decide +kernel
theorem dX12_unit_202 : decode cX12_unit 202 = .ok (.iload 4, 2) := by decide +kernel
theorem dX12_unit_204 : decode cX12_unit 204 = .ok (.ifCond .ne 10, 3) := by decide +kernel
theorem dX12_unit_207 : decode cX12_unit 207 = .ok (.aload_n 0, 1) := by decide +kernel
theorem dX12_unit_208 : decode cX12_unit 208 = .ok (.invokevirtual 137, 3) := by decide +kernel
theorem dX12_unit_211 : decode cX12_unit 211 = .ok (.goto 4, 3) := by decide +kernel
theorem dX12_unit_214 : decode cX12_unit 214 = .ok (.iload_n 3, 1) := by decide +kernel
theorem dX12_unit_215 : decode cX12_unit 215 = .ok (.ireturn, 1) := by decide +kernel
theorem dX12_worked_0 : decode cX12_worked 0 = .ok (.aload_n 0, 1) := by decide +kernel
theorem dX12_worked_1 : decode cX12_worked 1 = .ok (.iload_n 1, 1) := by decide +kernel
theorem dX12_worked_2 : decode cX12_worked 2 = .ok (.putfield 104, 3) := by decide +kernel
theorem dX12_worked_5 : decode cX12_worked 5 = .ok (.aload_n 0, 1) := by decide +kernel
theorem dX12_worked_6 : decode cX12_worked 6 = .ok (.iconst 0, 1) := by decide +kernel
theorem dX12_worked_7 : decode cX12_worked 7 = .ok (.putfield 94, 3) := by decide +kernel
theorem dX12_worked_10 : decode cX12_worked 10 = .ok (.aload_n 0, 1) := by decide +kernel
theorem dX12_worked_11 : decode cX12_worked 11 = .ok (.iload_n 2, 1) := by decide +kernel
theorem dX12_worked_12 : decode cX12_worked 12 = .ok (.putfield 98, 3) := by decide +kernel
theorem dX12_worked_15 : decode cX12_worked 15 = .ok (.aload_n 0, 1) := by decide +kernel
theorem dX12_worked_16 : decode cX12_worked 16 = .ok (.iconst (-1), 1) := by decide +kernel
theorem dX12_worked_17 : decode cX12_worked 17 = .ok (.putfield 101, 3) := by decide +kernel
theorem dX12_worked_20 : decode cX12_worked 20 = .ok (.aload_n 0, 1) := by decide +kernel
theorem dX12_worked_21 : decode cX12_worked 21 = .ok (.iconst 0, 1) := by decide +kernel
theorem dX12_worked_22 : decode cX12_worked 22 = .ok (.putfield 134, 3) := by decide +kernel
theorem dX12_worked_25 : decode cX12_worked 25 = .ok (.aload_n 0, 1) := by decide +kernel
theorem dX12_worked_26 : decode cX12_worked 26 = .ok (.iload_n 3, 1) := by decide +kernel
theorem dX12_worked_27 : decode cX12_worked 27 = .ok (.iconst 1, 1) := by decide +kernel
theorem dX12_worked_28 : decode cX12_worked 28 = .ok (.if_icmp .ne 7, 3) := by decide +kernel
theorem dX12_worked_31 : decode cX12_worked 31 = .ok (.iconst 1, 1) := by decide +kernel
theorem dX12_worked_32 : decode cX12_worked 32 = .ok (.goto 4, 3) := by decide +kernel
theorem dX12_worked_35 : decode cX12_worked 35 = .ok (.iconst 0, 1) := by decide +kernel
theorem dX12_worked_36 : decode cX12_worked 36 = .ok (.putfield 111, 3) := by decide +kernel
theorem dX12_worked_39 : decode cX12_worked 39 = .ok (.aload_n 0, 1) := by decide +kernel
theorem dX12_worked_40 : decode cX12_worked 40 = .ok (.invokevirtual 140, 3) := by decide +kernel
theorem dX12_worked_43 : decode cX12_worked 43 = .ok (.istore 4, 2) := by decide +kernel
theorem dX12_worked_45 : decode cX12_worked 45 = .ok (.aload_n 0, 1) := by decide +kernel
theorem dX12_worked_46 : decode cX12_worked 46 = .ok (.getfield 101, 3) := by decide +kernel
theorem dX12_worked_49 : decode cX12_worked 49 = .ok (.ifCond .ge 19, 3) := by decide +kernel
theorem dX12_worked_52 : decode cX12_worked 52 = .ok (.aload_n 0, 1) := by decide +kernel
theorem dX12_worked_53 : decode cX12_worked 53 = .ok (.getfield 94, 3) := by decide +kernel
theorem dX12_worked_56 : decode cX12_worked 56 = .ok (.aload_n 0, 1) := by decide +kernel
theorem dX12_worked_57 : decode cX12_worked 57 = .ok (.getfield 98, 3) := by decide +kernel
theorem dX12_worked_60 : decode cX12_worked 60 = .ok (.if_icmp .ge 8, 3) := by decide +kernel
theorem dX12_worked_63 : decode cX12_worked 63 = .ok (.aload_n 0, 1) := by decide +kernel
theorem dX12_worked_64 : decode cX12_worked 64 = .ok (.invokevirtual 137, 3) := by decide +kernel
theorem dX12_worked_67 : decode cX12_worked 67 = .ok (.ireturn, 1) := by decide +kernel
theorem dX12_worked_68 : decode cX12_worked 68 = .ok (.iload 4, 2) := by decide +kernel
theorem dX12_worked_70 : decode cX12_worked 70 = .ok (.ireturn, 1) := by decide +kernel
theorem dX12_feed_0 : decode cX12_feed 0 = .ok (.iload_n 3, 1) := by decide +kernel
theorem dX12_feed_1 : decode cX12_feed 1 = .ok (.i2l, 1) := by decide +kernel
theorem dX12_feed_2 : decode cX12_feed 2 = .ok (.lconst 1, 1) := by decide +kernel
theorem dX12_feed_3 : decode cX12_feed 3 = .ok (.ldc2_w 150, 3) := by decide +kernel
theorem dX12_feed_6 : decode cX12_feed 6 = .ok (.invokestatic 78, 3) := by decide +kernel
theorem dX12_feed_9 : decode cX12_feed 9 = .ok (.ifCond .ne 9, 3) := by decide +kernel
theorem dX12_feed_12 : decode cX12_feed 12 = .ok (.aload_n 0, 1) := by decide +kernel
theorem dX12_feed_13 : decode cX12_feed 13 = .ok (.iconst 1, 1) := by decide +kernel
theorem dX12_feed_14 : decode cX12_feed 14 = .ok (.invokevirtual 152, 3) := by decide +kernel
theorem dX12_feed_17 : decode cX12_feed 17 = .ok (.ireturn, 1) := by decide +kernel
theorem dX12_feed_18 : decode cX12_feed 18 = .ok (.aload_n 0, 1) := by decide +kernel
theorem dX12_feed_19 : decode cX12_feed 19 = .ok (.getfield 7, 3) := by decide +kernel
theorem dX12_feed_22 : decode cX12_feed 22 = .ok (.bipush 24, 2) := by decide +kernel
theorem dX12_feed_24 : decode cX12_feed 24 = .ok (.iaload, 1) := by decide +kernel
theorem dX12_feed_25 : decode cX12_feed 25 = .ok (.iload_n 3, 1) := by decide +kernel
theorem dX12_feed_26 : decode cX12_feed 26 = .ok (.iadd, 1) := by decide +kernel
theorem dX12_feed_27 : decode cX12_feed 27 = .ok (.bipush 50, 2) := by decide +kernel
theorem dX12_feed_29 : decode cX12_feed 29 = .ok (.if_icmp .le 9, 3) := by decide +kernel
theorem dX12_feed_32 : decode cX12_feed 32 = .ok (.aload_n 0, 1) := by decide +kernel
theorem dX12_feed_33 : decode cX12_feed 33 = .ok (.iconst 4, 1) := by decide +kernel
theorem dX12_feed_34 : decode cX12_feed 34 = .ok (.invokevirtual 152, 3) := by decide +kernel
theorem dX12_feed_37 : decode cX12_feed 37 = .ok (.ireturn, 1) := by decide +kernel
theorem dX12_feed_38 : decode cX12_feed 38 = .ok (.iconst 0, 1) := by decide +kernel
theorem dX12_feed_39 : decode cX12_feed 39 = .ok (.istore 4, 2) := by decide +kernel
theorem dX12_feed_41 : decode cX12_feed 41 = .ok (.iload 4, 2) := by decide +kernel
theorem dX12_feed_43 : decode cX12_feed 43 = .ok (.iload_n 3, 1) := by decide +kernel
theorem dX12_feed_44 : decode cX12_feed 44 = .ok (.if_icmp .ge 48, 3) := by decide +kernel
theorem dX12_feed_47 : decode cX12_feed 47 = .ok (.aload_n 0, 1) := by decide +kernel
theorem dX12_feed_48 : decode cX12_feed 48 = .ok (.getfield 7, 3) := by decide +kernel
theorem dX12_feed_51 : decode cX12_feed 51 = .ok (.sipush 148, 3) := by decide +kernel
theorem dX12_feed_54 : decode cX12_feed 54 = .ok (.aload_n 0, 1) := by decide +kernel
theorem dX12_feed_55 : decode cX12_feed 55 = .ok (.getfield 7, 3) := by decide +kernel
theorem dX12_feed_58 : decode cX12_feed 58 = .ok (.bipush 24, 2) := by decide +kernel
theorem dX12_feed_60 : decode cX12_feed 60 = .ok (.iaload, 1) := by decide +kernel
theorem dX12_feed_61 : decode cX12_feed 61 = .ok (.iadd, 1) := by decide +kernel
theorem dX12_feed_62 : decode cX12_feed 62 = .ok (.lload_n 1, 1) := by decide +kernel
theorem dX12_feed_63 : decode cX12_feed 63 = .ok (.bipush 8, 2) := by decide +kernel
theorem dX12_feed_65 : decode cX12_feed 65 = .ok (.iload 4, 2) := by decide +kernel
theorem dX12_feed_67 : decode cX12_feed 67 = .ok (.imul, 1) := by decide +kernel
theorem dX12_feed_68 : decode cX12_feed 68 = .ok (.lshr, 1) := by decide +kernel
theorem dX12_feed_69 : decode cX12_feed 69 = .ok (.ldc2_w 155, 3) := by decide +kernel
