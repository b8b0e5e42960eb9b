theorem dX12_bars_23 : decode cX12_bars 23 = .ok (.invokevirtual 152, 3) := by decide +kernel
theorem dX12_bars_26 : decode cX12_bars 26 = .ok (.ireturn, 1) := by decide +kernel
theorem dX12_bars_27 : decode cX12_bars 27 = .ok (.aload_n 0, 1) := by decide +kernel
theorem dX12_bars_28 : decode cX12_bars 28 = .ok (.invokevirtual 173, 3) := by decide +kernel
theorem dX12_bars_31 : decode cX12_bars 31 = .ok (.invokestatic 86, 3) := by decide +kernel
theorem dX12_bars_34 : decode cX12_bars 34 = .ok (.istore_n 3, 1) := by decide +kernel
theorem dX12_bars_35 : decode cX12_bars 35 = .ok (.iload_n 3, 1) := by decide +kernel
theorem dX12_bars_36 : decode cX12_bars 36 = .ok (.ifCond .ne 9, 3) := by decide +kernel
theorem dX12_bars_39 : decode cX12_bars 39 = .ok (.aload_n 0, 1) := by decide +kernel
theorem dX12_bars_40 : decode cX12_bars 40 = .ok (.iconst 3, 1) := by decide +kernel
theorem dX12_bars_41 : decode cX12_bars 41 = .ok (.invokevirtual 152, 3) := by decide +kernel
theorem dX12_bars_44 : decode cX12_bars 44 = .ok (.ireturn, 1) := by decide +kernel
theorem dX12_bars_45 : decode cX12_bars 45 = .ok (.aload_n 0, 1) := by decide +kernel
theorem dX12_bars_46 : decode cX12_bars 46 = .ok (.invokevirtual 203, 3) := by decide +kernel
theorem dX12_bars_49 : decode cX12_bars 49 = .ok (.iconst 0, 1) := by decide +kernel
theorem dX12_bars_50 : decode cX12_bars 50 = .ok (.istore 4, 2) := by decide +kernel
theorem dX12_bars_52 : decode cX12_bars 52 = .ok (.iload 4, 2) := by decide +kernel
theorem dX12_bars_54 : decode cX12_bars 54 = .ok (.iload_n 2, 1) := by decide +kernel
theorem dX12_bars_55 : decode cX12_bars 55 = .ok (.iload_n 2, 1) := by decide +kernel
theorem dX12_bars_56 : decode cX12_bars 56 = .ok (.imul, 1) := by decide +kernel
theorem dX12_bars_57 : decode cX12_bars 57 = .ok (.iload_n 2, 1) := by decide +kernel
theorem dX12_bars_58 : decode cX12_bars 58 = .ok (.imul, 1) := by decide +kernel
theorem dX12_bars_59 : decode cX12_bars 59 = .ok (.if_icmp .ge 80, 3) := by decide +kernel
theorem dX12_bars_62 : decode cX12_bars 62 = .ok (.aload_n 0, 1) := by decide +kernel
theorem dX12_bars_63 : decode cX12_bars 63 = .ok (.iload 4, 2) := by decide +kernel
theorem dX12_bars_65 : decode cX12_bars 65 = .ok (.iload_n 2, 1) := by decide +kernel
theorem dX12_bars_66 : decode cX12_bars 66 = .ok (.invokevirtual 257, 3) := by decide +kernel
theorem dX12_bars_69 : decode cX12_bars 69 = .ok (.ifCond .eq 64, 3) := by decide +kernel
theorem dX12_bars_72 : decode cX12_bars 72 = .ok (.iconst 0, 1) := by decide +kernel
theorem dX12_bars_73 : decode cX12_bars 73 = .ok (.istore 5, 2) := by decide +kernel
theorem dX12_bars_75 : decode cX12_bars 75 = .ok (.iconst 0, 1) := by decide +kernel
theorem dX12_bars_76 : decode cX12_bars 76 = .ok (.istore 6, 2) := by decide +kernel
theorem dX12_bars_78 : decode cX12_bars 78 = .ok (.iload 6, 2) := by decide +kernel
theorem dX12_bars_80 : decode cX12_bars 80 = .ok (.iconst 3, 1) := by decide +kernel
theorem dX12_bars_81 : decode cX12_bars 81 = .ok (.if_icmp .ge 32, 3) := by decide +kernel
theorem dX12_bars_84 : decode cX12_bars 84 = .ok (.iload 5, 2) := by decide +kernel
theorem dX12_bars_86 : decode cX12_bars 86 = .ok (.iload 4, 2) := by decide +kernel
theorem dX12_bars_88 : decode cX12_bars 88 = .ok (.iload_n 2, 1) := by decide +kernel
theorem dX12_bars_89 : decode cX12_bars 89 = .ok (.iload 6, 2) := by decide +kernel
theorem dX12_bars_91 : decode cX12_bars 91 = .ok (.invokestatic 254, 3) := by decide +kernel
theorem dX12_bars_94 : decode cX12_bars 94 = .ok (.aload_n 0, 1) := by decide +kernel
theorem dX12_bars_95 : decode cX12_bars 95 = .ok (.getfield 7, 3) := by decide +kernel
theorem dX12_bars_98 : decode cX12_bars 98 = .ok (.iconst 0, 1) := by decide +kernel
theorem dX12_bars_99 : decode cX12_bars 99 = .ok (.iload 6, 2) := by decide +kernel
theorem dX12_bars_101 : decode cX12_bars 101 = .ok (.iadd, 1) := by decide +kernel
theorem dX12_bars_102 : decode cX12_bars 102 = .ok (.iaload, 1) := by decide +kernel
theorem dX12_bars_103 : decode cX12_bars 103 = .ok (.imul, 1) := by decide +kernel
theorem dX12_bars_104 : decode cX12_bars 104 = .ok (.iadd, 1) := by decide +kernel
theorem dX12_bars_105 : decode cX12_bars 105 = .ok (.istore 5, 2) := by decide +kernel
theorem dX12_bars_107 : decode cX12_bars 107 = .ok (.iinc 6 1, 3) := by decide +kernel
theorem dX12_bars_110 : decode cX12_bars 110 = .ok (.goto (-32), 3) := by decide +kernel
theorem dX12_bars_113 : decode cX12_bars 113 = .ok (.iload 5, 2) := by decide +kernel
theorem dX12_bars_115 : decode cX12_bars 115 = .ok (.iload_n 2, 1) := by decide +kernel
theorem dX12_bars_116 : decode cX12_bars 116 = .ok (.irem, 1) := by decide +kernel
theorem dX12_bars_117 : decode cX12_bars 117 = .ok (.iload 4, 2) := by decide +kernel
theorem dX12_bars_119 : decode cX12_bars 119 = .ok (.iload_n 2, 1) := by decide +kernel
theorem dX12_bars_120 : decode cX12_bars 120 = .ok (.iload_n 1, 1) := by decide +kernel
theorem dX12_bars_121 : decode cX12_bars 121 = .ok (.invokestatic 254, 3) := by decide +kernel
theorem dX12_bars_124 : decode cX12_bars 124 = .ok (.iload_n 3, 1) := by decide +kernel
theorem dX12_bars_125 : decode cX12_bars 125 = .ok (.imul, 1) := by decide +kernel
theorem dX12_bars_126 : decode cX12_bars 126 = .ok (.iload_n 2, 1) := by decide +kernel
theorem dX12_bars_127 : decode cX12_bars 127 = .ok (.irem, 1) := by decide +kernel
theorem dX12_bars_128 : decode cX12_bars 128 = .ok (.if_icmp .eq 5, 3) := by decide +kernel
theorem dX12_bars_131 : decode cX12_bars 131 = .ok (.iconst 1, 1) := by decide +kernel
theorem dX12_bars_132 : decode cX12_bars 132 = .ok (.ireturn, 1) := by decide +kernel
theorem dX12_bars_133 : decode cX12_bars 133 = .ok (.iinc 4 1, 3) := by decide +kernel
theorem dX12_bars_136 : decode cX12_bars 136 = .ok (.goto (-84), 3) := by decide +kernel
theorem dX12_bars_139 : decode cX12_bars 139 = .ok (.iconst 0, 1) := by decide +kernel
theorem dX12_bars_140 : decode cX12_bars 140 = .ok (.ireturn, 1) := by decide +kernel
theorem dX12_findWays_0 : decode cX12_findWays 0 = .ok (.aload_n 0, 1) := by decide +kernel
theorem dX12_findWays_1 : decode cX12_findWays 1 = .ok (.invokevirtual 203, 3) := by decide +kernel
theorem dX12_findWays_4 : decode cX12_findWays 4 = .ok (.aload_n 0, 1) := by decide +kernel
theorem dX12_findWays_5 : decode cX12_findWays 5 = .ok (.invokevirtual 206, 3) := by decide +kernel
theorem dX12_findWays_8 : decode cX12_findWays 8 = .ok (.istore_n 2, 1) := by decide +kernel
theorem dX12_findWays_9 : decode cX12_findWays 9 = .ok (.iconst 0, 1) := by decide +kernel
theorem dX12_findWays_10 : decode cX12_findWays 10 = .ok (.istore_n 3, 1) := by decide +kernel
theorem dX12_findWays_11 : decode cX12_findWays 11 = .ok (.iload_n 3, 1) := by decide +kernel
theorem dX12_findWays_12 : decode cX12_findWays 12 = .ok (.sipush 2197, 3) := by decide +kernel
theorem dX12_findWays_15 : decode cX12_findWays 15 = .ok (.if_icmp .ge 28, 3) := by decide +kernel
theorem dX12_findWays_18 : decode cX12_findWays 18 = .ok (.aload_n 0, 1) := by decide +kernel
theorem dX12_findWays_19 : decode cX12_findWays 19 = .ok (.getfield 35, 3) := by decide +kernel
theorem dX12_findWays_22 : decode cX12_findWays 22 = .ok (.iload_n 3, 1) := by decide +kernel
theorem dX12_findWays_23 : decode cX12_findWays 23 = .ok (.iload_n 3, 1) := by decide +kernel
theorem dX12_findWays_24 : decode cX12_findWays 24 = .ok (.aload_n 0, 1) := by decide +kernel
theorem dX12_findWays_25 : decode cX12_findWays 25 = .ok (.invokevirtual 173, 3) := by decide +kernel
theorem dX12_findWays_28 : decode cX12_findWays 28 = .ok (.if_icmp .ne 7, 3) := by decide +kernel
theorem dX12_findWays_31 : decode cX12_findWays 31 = .ok (.lconst 1, 1) := by decide +kernel
theorem dX12_findWays_32 : decode cX12_findWays 32 = .ok (.goto 4, 3) := by decide +kernel
theorem dX12_findWays_35 : decode cX12_findWays 35 = .ok (.lconst 0, 1) := by decide +kernel
theorem dX12_findWays_36 : decode cX12_findWays 36 = .ok (.lastore, 1) := by decide +kernel
theorem dX12_findWays_37 : decode cX12_findWays 37 = .ok (.iinc 3 1, 3) := by decide +kernel
theorem dX12_findWays_40 : decode cX12_findWays 40 = .ok (.goto (-29), 3) := by decide +kernel
theorem dX12_findWays_43 : decode cX12_findWays 43 = .ok (.iconst 0, 1) := by decide +kernel
theorem dX12_findWays_44 : decode cX12_findWays 44 = .ok (.istore_n 3, 1) := by decide +kernel
theorem dX12_findWays_45 : decode cX12_findWays 45 = .ok (.iload_n 3, 1) := by decide +kernel
theorem dX12_findWays_46 : decode cX12_findWays 46 = .ok (.iload_n 1, 1) := by decide +kernel
theorem dX12_findWays_47 : decode cX12_findWays 47 = .ok (.if_icmp .ge 205, 3) := by decide +kernel
theorem dX12_findWays_50 : decode cX12_findWays 50 = .ok (.iconst 0, 1) := by decide +kernel
theorem dX12_findWays_51 : decode cX12_findWays 51 = .ok (.istore 4, 2) := by decide +kernel
theorem dX12_findWays_53 : decode cX12_findWays 53 = .ok (.iload 4, 2) := by decide +kernel
theorem dX12_findWays_55 : decode cX12_findWays 55 = .ok (.sipush 2197, 3) := by decide +kernel
theorem dX12_findWays_58 : decode cX12_findWays 58 = .ok (.if_icmp .ge 17, 3) := by decide +kernel
theorem dX12_findWays_61 : decode cX12_findWays 61 = .ok (.aload_n 0, 1) := by decide +kernel
theorem dX12_findWays_62 : decode cX12_findWays 62 = .ok (.getfield 39, 3) := by decide +kernel
theorem dX12_findWays_65 : decode cX12_findWays 65 = .ok (.iload 4, 2) := by decide +kernel
theorem dX12_findWays_67 : decode cX12_findWays 67 = .ok (.lconst 0, 1) := by decide +kernel
theorem dX12_findWays_68 : decode cX12_findWays 68 = .ok (.lastore, 1) := by decide +kernel
theorem dX12_findWays_69 : decode cX12_findWays 69 = .ok (.iinc 4 1, 3) := by decide +kernel
theorem dX12_findWays_72 : decode cX12_findWays 72 = .ok (.goto (-19), 3) := by decide +kernel
theorem dX12_findWays_75 : decode cX12_findWays 75 = .ok (.iconst 0, 1) := by decide +kernel
theorem dX12_findWays_76 : decode cX12_findWays 76 = .ok (.istore 4, 2) := by decide +kernel
theorem dX12_findWays_78 : decode cX12_findWays 78 = .ok (.iload 4, 2) := by decide +kernel
theorem dX12_findWays_80 : decode cX12_findWays 80 = .ok (.sipush 2197, 3) := by decide +kernel
theorem dX12_findWays_83 : decode cX12_findWays 83 = .ok (.if_icmp .ge 132, 3) := by decide +kernel
theorem dX12_findWays_86 : decode cX12_findWays 86 = .ok (.iconst 0, 1) := by decide +kernel
theorem dX12_findWays_87 : decode cX12_findWays 87 = .ok (.istore 5, 2) := by decide +kernel
theorem dX12_findWays_89 : decode cX12_findWays 89 = .ok (.iload 5, 2) := by decide +kernel
theorem dX12_findWays_91 : decode cX12_findWays 91 = .ok (.bipush 6, 2) := by decide +kernel
theorem dX12_findWays_93 : decode cX12_findWays 93 = .ok (.if_icmp .ge 116, 3) := by decide +kernel
theorem dX12_findWays_96 : decode cX12_findWays 96 = .ok (.aload_n 0, 1) := by decide +kernel
theorem dX12_findWays_97 : decode cX12_findWays 97 = .ok (.getfield 35, 3) := by decide +kernel
theorem dX12_findWays_100 : decode cX12_findWays 100 = .ok (.iload 4, 2) := by decide +kernel
theorem dX12_findWays_102 : decode cX12_findWays 102 = .ok (.laload, 1) := by decide +kernel
theorem dX12_findWays_103 : decode cX12_findWays 103 = .ok (.lconst 0, 1) := by decide +kernel
theorem dX12_findWays_104 : decode cX12_findWays 104 = .ok (.lcmp, 1) := by decide +kernel
theorem dX12_findWays_105 : decode cX12_findWays 105 = .ok (.ifCond .le 98, 3) := by decide +kernel
theorem dX12_findWays_108 : decode cX12_findWays 108 = .ok (.aload_n 0, 1) := by decide +kernel
theorem dX12_findWays_109 : decode cX12_findWays 109 = .ok (.iload 4, 2) := by decide +kernel
theorem dX12_findWays_111 : decode cX12_findWays 111 = .ok (.iload 5, 2) := by decide +kernel
theorem dX12_findWays_113 : decode cX12_findWays 113 = .ok (.iload_n 2, 1) := by decide +kernel
theorem dX12_findWays_114 : decode cX12_findWays 114 = .ok (.invokevirtual 209, 3) := by decide +kernel
theorem dX12_findWays_117 : decode cX12_findWays 117 = .ok (.ifCond .eq 86, 3) := by decide +kernel
theorem dX12_findWays_120 : decode cX12_findWays 120 = .ok (.iload 4, 2) := by decide +kernel
theorem dX12_findWays_122 : decode cX12_findWays 122 = .ok (.iload 5, 2) := by decide +kernel
theorem dX12_findWays_124 : decode cX12_findWays 124 = .ok (.invokestatic 181, 3) := by decide +kernel
theorem dX12_findWays_127 : decode cX12_findWays 127 = .ok (.invokestatic 90, 3) := by decide +kernel
theorem dX12_findWays_130 : decode cX12_findWays 130 = .ok (.istore 6, 2) := by decide +kernel
theorem dX12_findWays_132 : decode cX12_findWays 132 = .ok (.iload 4, 2) := by decide +kernel
theorem dX12_findWays_134 : decode cX12_findWays 134 = .ok (.iload 5, 2) := by decide +kernel
theorem dX12_findWays_136 : decode cX12_findWays 136 = .ok (.invokestatic 184, 3) := by decide +kernel
theorem dX12_findWays_139 : decode cX12_findWays 139 = .ok (.invokestatic 90, 3) := by decide +kernel
theorem dX12_findWays_142 : decode cX12_findWays 142 = .ok (.istore 7, 2) := by decide +kernel
theorem dX12_findWays_144 : decode cX12_findWays 144 = .ok (.iload 5, 2) := by decide +kernel
theorem dX12_findWays_146 : decode cX12_findWays 146 = .ok (.invokestatic 181, 3) := by decide +kernel
theorem dX12_findWays_149 : decode cX12_findWays 149 = .ok (.iload 5, 2) := by decide +kernel
theorem dX12_findWays_151 : decode cX12_findWays 151 = .ok (.invokestatic 184, 3) := by decide +kernel
theorem dX12_findWays_154 : decode cX12_findWays 154 = .ok (.if_icmp .ne 15, 3) := by decide +kernel
theorem dX12_findWays_157 : decode cX12_findWays 157 = .ok (.iload 6, 2) := by decide +kernel
theorem dX12_findWays_159 : decode cX12_findWays 159 = .ok (.iload 6, 2) := by decide +kernel
theorem dX12_findWays_161 : decode cX12_findWays 161 = .ok (.iconst 1, 1) := by decide +kernel
theorem dX12_findWays_162 : decode cX12_findWays 162 = .ok (.isub, 1) := by decide +kernel
theorem dX12_findWays_163 : decode cX12_findWays 163 = .ok (.imul, 1) := by decide +kernel
theorem dX12_findWays_164 : decode cX12_findWays 164 = .ok (.iconst 2, 1) := by decide +kernel
theorem dX12_findWays_165 : decode cX12_findWays 165 = .ok (.idiv, 1) := by decide +kernel
theorem dX12_findWays_166 : decode cX12_findWays 166 = .ok (.goto 8, 3) := by decide +kernel
theorem dX12_findWays_169 : decode cX12_findWays 169 = .ok (.iload 6, 2) := by decide +kernel
theorem dX12_findWays_171 : decode cX12_findWays 171 = .ok (.iload 7, 2) := by decide +kernel
theorem dX12_findWays_173 : decode cX12_findWays 173 = .ok (.imul, 1) := by decide +kernel
theorem dX12_findWays_174 : decode cX12_findWays 174 = .ok (.istore 8, 2) := by decide +kernel
theorem dX12_findWays_176 : decode cX12_findWays 176 = .ok (.aload_n 0, 1) := by decide +kernel
theorem dX12_findWays_177 : decode cX12_findWays 177 = .ok (.getfield 39, 3) := by decide +kernel
theorem dX12_findWays_180 : decode cX12_findWays 180 = .ok (.aload_n 0, 1) := by decide +kernel
theorem dX12_findWays_181 : decode cX12_findWays 181 = .ok (.iload 4, 2) := by decide +kernel
theorem dX12_findWays_183 : decode cX12_findWays 183 = .ok (.iload 5, 2) := by decide +kernel
theorem dX12_findWays_185 : decode cX12_findWays 185 = .ok (.invokevirtual 220, 3) := by decide +kernel
theorem dX12_findWays_188 : decode cX12_findWays 188 = .ok (.dup2, 1) := by decide +kernel
theorem dX12_findWays_189 : decode cX12_findWays 189 = .ok (.laload, 1) := by decide +kernel
theorem dX12_findWays_190 : decode cX12_findWays 190 = .ok (.aload_n 0, 1) := by decide +kernel
theorem dX12_findWays_191 : decode cX12_findWays 191 = .ok (.getfield 35, 3) := by decide +kernel
theorem dX12_findWays_194 : decode cX12_findWays 194 = .ok (.iload 4, 2) := by decide +kernel
theorem dX12_findWays_196 : decode cX12_findWays 196 = .ok (.laload, 1) := by decide +kernel
theorem dX12_findWays_197 : decode cX12_findWays 197 = .ok (.iload 8, 2) := by decide +kernel
theorem dX12_findWays_199 : decode cX12_findWays 199 = .ok (.i2l, 1) := by decide +kernel
theorem dX12_findWays_200 : decode cX12_findWays 200 = .ok (.lmul, 1) := by decide +kernel
theorem dX12_findWays_201 : decode cX12_findWays 201 = .ok (.ladd, 1) := by decide +kernel
theorem dX12_findWays_202 : decode cX12_findWays 202 = .ok (.lastore, 1) := by decide +kernel
theorem dX12_findWays_203 : decode cX12_findWays 203 = .ok (.iinc 5 1, 3) := by decide +kernel
theorem dX12_findWays_206 : decode cX12_findWays 206 = .ok (.goto (-117), 3) := by decide +kernel
theorem dX12_findWays_209 : decode cX12_findWays 209 = .ok (.iinc 4 1, 3) := by decide +kernel
theorem dX12_findWays_212 : decode cX12_findWays 212 = .ok (.goto (-134), 3) := by decide +kernel
theorem dX12_findWays_215 : decode cX12_findWays 215 = .ok (.iconst 0, 1) := by decide +kernel
theorem dX12_findWays_216 : decode cX12_findWays 216 = .ok (.istore 4, 2) := by decide +kernel
theorem dX12_findWays_218 : decode cX12_findWays 218 = .ok (.iload 4, 2) := by decide +kernel
theorem dX12_findWays_220 : decode cX12_findWays 220 = .ok (.sipush 2197, 3) := by decide +kernel
theorem dX12_findWays_223 : decode cX12_findWays 223 = .ok (.if_icmp .ge 23, 3) := by decide +kernel
theorem dX12_findWays_226 : decode cX12_findWays 226 = .ok (.aload_n 0, 1) := by decide +kernel
theorem dX12_findWays_227 : decode cX12_findWays 227 = .ok (.getfield 35, 3) := by decide +kernel
theorem dX12_findWays_230 : decode cX12_findWays 230 = .ok (.iload 4, 2) := by decide +kernel
theorem dX12_findWays_232 : decode cX12_findWays 232 = .ok (.aload_n 0, 1) := by decide +kernel
theorem dX12_findWays_233 : decode cX12_findWays 233 = .ok (.getfield 39, 3) := by decide +kernel
theorem dX12_findWays_236 : decode cX12_findWays 236 = .ok (.iload 4, 2) := by decide +kernel
theorem dX12_findWays_238 : decode cX12_findWays 238 = .ok (.laload, 1) := by decide +kernel
theorem dX12_findWays_239 : decode cX12_findWays 239 = .ok (.lastore, 1) := by decide +kernel
theorem dX12_findWays_240 : decode cX12_findWays 240 = .ok (.iinc 4 1, 3) := by decide +kernel
theorem dX12_findWays_243 : decode cX12_findWays 243 = .ok (.goto (-25), 3) := by decide +kernel
theorem dX12_findWays_246 : decode cX12_findWays 246 = .ok (.iinc 3 1, 3) := by decide +kernel
theorem dX12_findWays_249 : decode cX12_findWays 249 = .ok (.goto (-204), 3) := by decide +kernel
theorem dX12_findWays_252 : decode cX12_findWays 252 = .ok (.return_, 1) := by decide +kernel
theorem dX12_ways_0 : decode cX12_ways 0 = .ok (.iload_n 1, 1) := by decide +kernel
theorem dX12_ways_1 : decode cX12_ways 1 = .ok (.i2l, 1) := by decide +kernel
theorem dX12_ways_2 : decode cX12_ways 2 = .ok (.lconst 0, 1) := by decide +kernel
theorem dX12_ways_3 : decode cX12_ways 3 = .ok (.ldc2_w 213, 3) := by decide +kernel
theorem dX12_ways_6 : decode cX12_ways 6 = .ok (.invokestatic 78, 3) := by decide +kernel
theorem dX12_ways_9 : decode cX12_ways 9 = .ok (.ifCond .eq 10, 3) := by decide +kernel
theorem dX12_ways_12 : decode cX12_ways 12 = .ok (.iload_n 2, 1) := by decide +kernel
theorem dX12_ways_13 : decode cX12_ways 13 = .ok (.invokestatic 245, 3) := by decide +kernel
theorem dX12_ways_16 : decode cX12_ways 16 = .ok (.ifCond .ne 10, 3) := by decide +kernel
theorem dX12_ways_19 : decode cX12_ways 19 = .ok (.aload_n 0, 1) := by decide +kernel
theorem dX12_ways_20 : decode cX12_ways 20 = .ok (.iconst 1, 1) := by decide +kernel
theorem dX12_ways_21 : decode cX12_ways 21 = .ok (.invokevirtual 152, 3) := by decide +kernel
theorem dX12_ways_24 : decode cX12_ways 24 = .ok (.i2l, 1) := by decide +kernel
theorem dX12_ways_25 : decode cX12_ways 25 = .ok (.lreturn, 1) := by decide +kernel
theorem dX12_ways_26 : decode cX12_ways 26 = .ok (.aload_n 0, 1) := by decide +kernel
theorem dX12_ways_27 : decode cX12_ways 27 = .ok (.iload_n 1, 1) := by decide +kernel
theorem dX12_ways_28 : decode cX12_ways 28 = .ok (.invokevirtual 261, 3) := by decide +kernel
theorem dX12_ways_31 : decode cX12_ways 31 = .ok (.aload_n 0, 1) := by decide +kernel
theorem dX12_ways_32 : decode cX12_ways 32 = .ok (.getfield 35, 3) := by decide +kernel
theorem dX12_ways_35 : decode cX12_ways 35 = .ok (.iload_n 2, 1) := by decide +kernel
theorem dX12_ways_36 : decode cX12_ways 36 = .ok (.laload, 1) := by decide +kernel
theorem dX12_ways_37 : decode cX12_ways 37 = .ok (.lreturn, 1) := by decide +kernel
theorem dX12_allWays_0 : decode cX12_allWays 0 = .ok (.iload_n 1, 1) := by decide +kernel
theorem dX12_allWays_1 : decode cX12_allWays 1 = .ok (.i2l, 1) := by decide +kernel
theorem dX12_allWays_2 : decode cX12_allWays 2 = .ok (.lconst 0, 1) := by decide +kernel
theorem dX12_allWays_3 : decode cX12_allWays 3 = .ok (.ldc2_w 213, 3) := by decide +kernel
theorem dX12_allWays_6 : decode cX12_allWays 6 = .ok (.invokestatic 78, 3) := by decide +kernel
theorem dX12_allWays_9 : decode cX12_allWays 9 = .ok (.ifCond .ne 10, 3) := by decide +kernel
theorem dX12_allWays_12 : decode cX12_allWays 12 = .ok (.aload_n 0, 1) := by decide +kernel
theorem dX12_allWays_13 : decode cX12_allWays 13 = .ok (.iconst 1, 1) := by decide +kernel
theorem dX12_allWays_14 : decode cX12_allWays 14 = .ok (.invokevirtual 152, 3) := by decide +kernel
theorem dX12_allWays_17 : decode cX12_allWays 17 = .ok (.i2l, 1) := by decide +kernel
theorem dX12_allWays_18 : decode cX12_allWays 18 = .ok (.lreturn, 1) := by decide +kernel
theorem dX12_allWays_19 : decode cX12_allWays 19 = .ok (.aload_n 0, 1) := by decide +kernel
theorem dX12_allWays_20 : decode cX12_allWays 20 = .ok (.iload_n 1, 1) := by decide +kernel
theorem dX12_allWays_21 : decode cX12_allWays 21 = .ok (.invokevirtual 261, 3) := by decide +kernel
theorem dX12_allWays_24 : decode cX12_allWays 24 = .ok (.lconst 0, 1) := by decide +kernel
theorem dX12_allWays_25 : decode cX12_allWays 25 = .ok (.lstore_n 2, 1) := by decide +kernel
theorem dX12_allWays_26 : decode cX12_allWays 26 = .ok (.iconst 0, 1) := by decide +kernel
theorem dX12_allWays_27 : decode cX12_allWays 27 = .ok (.istore 4, 2) := by decide +kernel
theorem dX12_allWays_29 : decode cX12_allWays 29 = .ok (.iload 4, 2) := by decide +kernel
theorem dX12_allWays_31 : decode cX12_allWays 31 = .ok (.sipush 2197, 3) := by decide +kernel
theorem dX12_allWays_34 : decode cX12_allWays 34 = .ok (.if_icmp .ge 19, 3) := by decide +kernel
theorem dX12_allWays_37 : decode cX12_allWays 37 = .ok (.lload_n 2, 1) := by decide +kernel
theorem dX12_allWays_38 : decode cX12_allWays 38 = .ok (.aload_n 0, 1) := by decide +kernel
theorem dX12_allWays_39 : decode cX12_allWays 39 = .ok (.getfield 35, 3) := by decide +kernel
theorem dX12_allWays_42 : decode cX12_allWays 42 = .ok (.iload 4, 2) := by decide +kernel
theorem dX12_allWays_44 : decode cX12_allWays 44 = .ok (.laload, 1) := by decide +kernel
theorem dX12_allWays_45 : decode cX12_allWays 45 = .ok (.ladd, 1) := by decide +kernel
theorem dX12_allWays_46 : decode cX12_allWays 46 = .ok (.lstore_n 2, 1) := by decide +kernel
theorem dX12_allWays_47 : decode cX12_allWays 47 = .ok (.iinc 4 1, 3) := by decide +kernel
theorem dX12_allWays_50 : decode cX12_allWays 50 = .ok (.goto (-21), 3) := by decide +kernel
theorem dX12_allWays_53 : decode cX12_allWays 53 = .ok (.lload_n 2, 1) := by decide +kernel
theorem dX12_allWays_54 : decode cX12_allWays 54 = .ok (.lreturn, 1) := by decide +kernel
theorem dX12_ones_0 : decode cX12_ones 0 = .ok (.iconst 0, 1) := by decide +kernel
theorem dX12_ones_1 : decode cX12_ones 1 = .ok (.istore_n 1, 1) := by decide +kernel
theorem dX12_ones_2 : decode cX12_ones 2 = .ok (.iconst 0, 1) := by decide +kernel
theorem dX12_ones_3 : decode cX12_ones 3 = .ok (.istore_n 2, 1) := by decide +kernel
theorem dX12_ones_4 : decode cX12_ones 4 = .ok (.iload_n 2, 1) := by decide +kernel
theorem dX12_ones_5 : decode cX12_ones 5 = .ok (.bipush 6, 2) := by decide +kernel
theorem dX12_ones_7 : decode cX12_ones 7 = .ok (.if_icmp .ge 17, 3) := by decide +kernel
theorem dX12_ones_10 : decode cX12_ones 10 = .ok (.iload_n 1, 1) := by decide +kernel
theorem dX12_ones_11 : decode cX12_ones 11 = .ok (.iload_n 0, 1) := by decide +kernel
theorem dX12_ones_12 : decode cX12_ones 12 = .ok (.iload_n 2, 1) := by decide +kernel
theorem dX12_ones_13 : decode cX12_ones 13 = .ok (.ishr, 1) := by decide +kernel
theorem dX12_ones_14 : decode cX12_ones 14 = .ok (.iconst 1, 1) := by decide +kernel
theorem dX12_ones_15 : decode cX12_ones 15 = .ok (.iand, 1) := by decide +kernel
theorem dX12_ones_16 : decode cX12_ones 16 = .ok (.iadd, 1) := by decide +kernel
theorem dX12_ones_17 : decode cX12_ones 17 = .ok (.istore_n 1, 1) := by decide +kernel
theorem dX12_ones_18 : decode cX12_ones 18 = .ok (.iinc 2 1, 3) := by decide +kernel
theorem dX12_ones_21 : decode cX12_ones 21 = .ok (.goto (-17), 3) := by decide +kernel
theorem dX12_ones_24 : decode cX12_ones 24 = .ok (.iload_n 1, 1) := by decide +kernel
theorem dX12_ones_25 : decode cX12_ones 25 = .ok (.ireturn, 1) := by decide +kernel
theorem dX12_isEnd_0 : decode cX12_isEnd 0 = .ok (.iload_n 1, 1) := by decide +kernel
theorem dX12_isEnd_1 : decode cX12_isEnd 1 = .ok (.invokestatic 86, 3) := by decide +kernel
theorem dX12_isEnd_4 : decode cX12_isEnd 4 = .ok (.ifCond .le 19, 3) := by decide +kernel
theorem dX12_isEnd_7 : decode cX12_isEnd 7 = .ok (.iload_n 1, 1) := by decide +kernel
theorem dX12_isEnd_8 : decode cX12_isEnd 8 = .ok (.iload_n 2, 1) := by decide +kernel
theorem dX12_isEnd_9 : decode cX12_isEnd 9 = .ok (.invokestatic 90, 3) := by decide +kernel
theorem dX12_isEnd_12 : decode cX12_isEnd 12 = .ok (.iload_n 1, 1) := by decide +kernel
theorem dX12_isEnd_13 : decode cX12_isEnd 13 = .ok (.invokestatic 86, 3) := by decide +kernel
theorem dX12_isEnd_16 : decode cX12_isEnd 16 = .ok (.if_icmp .ne 7, 3) := by decide +kernel
theorem dX12_isEnd_19 : decode cX12_isEnd 19 = .ok (.iconst 1, 1) := by decide +kernel
theorem dX12_isEnd_20 : decode cX12_isEnd 20 = .ok (.goto 4, 3) := by decide +kernel
theorem dX12_isEnd_23 : decode cX12_isEnd 23 = .ok (.iconst 0, 1) := by decide +kernel
theorem dX12_isEnd_24 : decode cX12_isEnd 24 = .ok (.ireturn, 1) := by decide +kernel
theorem dX12_fences_0 : decode cX12_fences 0 = .ok (.iload_n 1, 1) := by decide +kernel
theorem dX12_fences_1 : decode cX12_fences 1 = .ok (.invokestatic 168, 3) := by decide +kernel
theorem dX12_fences_4 : decode cX12_fences 4 = .ok (.ifCond .eq 13, 3) := by decide +kernel
theorem dX12_fences_7 : decode cX12_fences 7 = .ok (.iload_n 2, 1) := by decide +kernel
theorem dX12_fences_8 : decode cX12_fences 8 = .ok (.i2l, 1) := by decide +kernel
theorem dX12_fences_9 : decode cX12_fences 9 = .ok (.lconst 0, 1) := by decide +kernel
theorem dX12_fences_10 : decode cX12_fences 10 = .ok (.lconst 1, 1) := by decide +kernel
theorem dX12_fences_11 : decode cX12_fences 11 = .ok (.invokestatic 78, 3) := by decide +kernel
theorem dX12_fences_14 : decode cX12_fences 14 = .ok (.ifCond .ne 9, 3) := by decide +kernel
theorem dX12_fences_17 : decode cX12_fences 17 = .ok (.aload_n 0, 1) := by decide +kernel
theorem dX12_fences_18 : decode cX12_fences 18 = .ok (.iconst 1, 1) := by decide +kernel
theorem dX12_fences_19 : decode cX12_fences 19 = .ok (.invokevirtual 152, 3) := by decide +kernel
theorem dX12_fences_22 : decode cX12_fences 22 = .ok (.ireturn, 1) := by decide +kernel
theorem dX12_fences_23 : decode cX12_fences 23 = .ok (.aload_n 0, 1) := by decide +kernel
theorem dX12_fences_24 : decode cX12_fences 24 = .ok (.aload_n 0, 1) := by decide +kernel
theorem dX12_fences_25 : decode cX12_fences 25 = .ok (.invokevirtual 173, 3) := by decide +kernel
theorem dX12_fences_28 : decode cX12_fences 28 = .ok (.iload_n 1, 1) := by decide +kernel
theorem dX12_fences_29 : decode cX12_fences 29 = .ok (.invokevirtual 264, 3) := by decide +kernel
theorem dX12_fences_32 : decode cX12_fences 32 = .ok (.ifCond .eq 9, 3) := by decide +kernel
theorem dX12_fences_35 : decode cX12_fences 35 = .ok (.aload_n 0, 1) := by decide +kernel
theorem dX12_fences_36 : decode cX12_fences 36 = .ok (.iconst 2, 1) := by decide +kernel
theorem dX12_fences_37 : decode cX12_fences 37 = .ok (.invokevirtual 152, 3) := by decide +kernel
theorem dX12_fences_40 : decode cX12_fences 40 = .ok (.ireturn, 1) := by decide +kernel
theorem dX12_fences_41 : decode cX12_fences 41 = .ok (.aload_n 0, 1) := by decide +kernel
theorem dX12_fences_42 : decode cX12_fences 42 = .ok (.invokevirtual 203, 3) := by decide +kernel
theorem dX12_fences_45 : decode cX12_fences 45 = .ok (.aload_n 0, 1) := by decide +kernel
theorem dX12_fences_46 : decode cX12_fences 46 = .ok (.invokevirtual 206, 3) := by decide +kernel
theorem dX12_fences_49 : decode cX12_fences 49 = .ok (.istore_n 3, 1) := by decide +kernel
theorem dX12_fences_50 : decode cX12_fences 50 = .ok (.iconst (-1), 1) := by decide +kernel
theorem dX12_fences_51 : decode cX12_fences 51 = .ok (.istore 4, 2) := by decide +kernel
theorem dX12_fences_53 : decode cX12_fences 53 = .ok (.iconst 0, 1) := by decide +kernel
theorem dX12_fences_54 : decode cX12_fences 54 = .ok (.istore 5, 2) := by decide +kernel
theorem dX12_fences_56 : decode cX12_fences 56 = .ok (.iload 5, 2) := by decide +kernel
theorem dX12_fences_58 : decode cX12_fences 58 = .ok (.bipush 64, 2) := by decide +kernel
theorem dX12_fences_60 : decode cX12_fences 60 = .ok (.if_icmp .ge 65, 3) := by decide +kernel
theorem dX12_fences_63 : decode cX12_fences 63 = .ok (.iload 5, 2) := by decide +kernel
theorem dX12_fences_65 : decode cX12_fences 65 = .ok (.iload_n 3, 1) := by decide +kernel
theorem dX12_fences_66 : decode cX12_fences 66 = .ok (.iand, 1) := by decide +kernel
theorem dX12_fences_67 : decode cX12_fences 67 = .ok (.ifCond .ne 52, 3) := by decide +kernel
theorem dX12_fences_70 : decode cX12_fences 70 = .ok (.iload 4, 2) := by decide +kernel
theorem dX12_fences_72 : decode cX12_fences 72 = .ok (.ifCond .lt 16, 3) := by decide +kernel
theorem dX12_fences_75 : decode cX12_fences 75 = .ok (.iload 5, 2) := by decide +kernel
theorem dX12_fences_77 : decode cX12_fences 77 = .ok (.invokestatic 267, 3) := by decide +kernel
theorem dX12_fences_80 : decode cX12_fences 80 = .ok (.iload 4, 2) := by decide +kernel
theorem dX12_fences_82 : decode cX12_fences 82 = .ok (.invokestatic 267, 3) := by decide +kernel
theorem dX12_fences_85 : decode cX12_fences 85 = .ok (.if_icmp .ge 34, 3) := by decide +kernel
theorem dX12_fences_88 : decode cX12_fences 88 = .ok (.aload_n 0, 1) := by decide +kernel
theorem dX12_fences_89 : decode cX12_fences 89 = .ok (.aload_n 0, 1) := by decide +kernel
theorem dX12_fences_90 : decode cX12_fences 90 = .ok (.invokevirtual 173, 3) := by decide +kernel
theorem dX12_fences_93 : decode cX12_fences 93 = .ok (.iload_n 3, 1) := by decide +kernel
theorem dX12_fences_94 : decode cX12_fences 94 = .ok (.iload 5, 2) := by decide +kernel
theorem dX12_fences_96 : decode cX12_fences 96 = .ok (.ior, 1) := by decide +kernel
theorem dX12_fences_97 : decode cX12_fences 97 = .ok (.invokevirtual 248, 3) := by decide +kernel
theorem dX12_fences_100 : decode cX12_fences 100 = .ok (.istore 6, 2) := by decide +kernel
theorem dX12_fences_102 : decode cX12_fences 102 = .ok (.aload_n 0, 1) := by decide +kernel
theorem dX12_fences_103 : decode cX12_fences 103 = .ok (.iload_n 1, 1) := by decide +kernel
theorem dX12_fences_104 : decode cX12_fences 104 = .ok (.invokevirtual 251, 3) := by decide +kernel
theorem dX12_fences_107 : decode cX12_fences 107 = .ok (.ifCond .ge 8, 3) := by decide +kernel
theorem dX12_fences_110 : decode cX12_fences 110 = .ok (.iload 5, 2) := by decide +kernel
theorem dX12_fences_112 : decode cX12_fences 112 = .ok (.goto 5, 3) := by decide +kernel
theorem dX12_fences_115 : decode cX12_fences 115 = .ok (.iload 4, 2) := by decide +kernel
theorem dX12_fences_117 : decode cX12_fences 117 = .ok (.istore 4, 2) := by decide +kernel
theorem dX12_fences_119 : decode cX12_fences 119 = .ok (.iinc 5 1, 3) := by decide +kernel
theorem dX12_fences_122 : decode cX12_fences 122 = .ok (.goto (-66), 3) := by decide +kernel
theorem dX12_fences_125 : decode cX12_fences 125 = .ok (.iload_n 2, 1) := by decide +kernel
theorem dX12_fences_126 : decode cX12_fences 126 = .ok (.ifCond .ne 11, 3) := by decide +kernel
theorem dX12_fences_129 : decode cX12_fences 129 = .ok (.iload 4, 2) := by decide +kernel
theorem dX12_fences_131 : decode cX12_fences 131 = .ok (.invokestatic 267, 3) := by decide +kernel
theorem dX12_fences_134 : decode cX12_fences 134 = .ok (.goto 5, 3) := by decide +kernel
theorem dX12_fences_137 : decode cX12_fences 137 = .ok (.iload 4, 2) := by decide +kernel
theorem dX12_fences_139 : decode cX12_fences 139 = .ok (.ireturn, 1) := by decide +kernel
theorem dX12_was_0 : decode cX12_was 0 = .ok (.iload_n 1, 1) := by decide +kernel
theorem dX12_was_1 : decode cX12_was 1 = .ok (.i2l, 1) := by decide +kernel
theorem dX12_was_2 : decode cX12_was 2 = .ok (.lconst 0, 1) := by decide +kernel
theorem dX12_was_3 : decode cX12_was 3 = .ok (.ldc2_w 213, 3) := by decide +kernel
theorem dX12_was_6 : decode cX12_was 6 = .ok (.invokestatic 78, 3) := by decide +kernel
theorem dX12_was_9 : decode cX12_was 9 = .ok (.ifCond .eq 13, 3) := by decide +kernel
theorem dX12_was_12 : decode cX12_was 12 = .ok (.iload_n 2, 1) := by decide +kernel
theorem dX12_was_13 : decode cX12_was 13 = .ok (.i2l, 1) := by decide +kernel
theorem dX12_was_14 : decode cX12_was 14 = .ok (.lconst 0, 1) := by decide +kernel
theorem dX12_was_15 : decode cX12_was 15 = .ok (.lconst 1, 1) := by decide +kernel
theorem dX12_was_16 : decode cX12_was 16 = .ok (.invokestatic 78, 3) := by decide +kernel
theorem dX12_was_19 : decode cX12_was 19 = .ok (.ifCond .ne 9, 3) := by decide +kernel
theorem dX12_was_22 : decode cX12_was 22 = .ok (.aload_n 0, 1) := by decide +kernel
theorem dX12_was_23 : decode cX12_was 23 = .ok (.iconst 1, 1) := by decide +kernel
theorem dX12_was_24 : decode cX12_was 24 = .ok (.invokevirtual 152, 3) := by decide +kernel
theorem dX12_was_27 : decode cX12_was 27 = .ok (.ireturn, 1) := by decide +kernel
theorem dX12_was_28 : decode cX12_was 28 = .ok (.aload_n 0, 1) := by decide +kernel
theorem dX12_was_29 : decode cX12_was 29 = .ok (.invokevirtual 203, 3) := by decide +kernel
theorem dX12_was_32 : decode cX12_was 32 = .ok (.aload_n 0, 1) := by decide +kernel
theorem dX12_was_33 : decode cX12_was 33 = .ok (.invokevirtual 206, 3) := by decide +kernel
theorem dX12_was_36 : decode cX12_was 36 = .ok (.istore_n 3, 1) := by decide +kernel
theorem dX12_was_37 : decode cX12_was 37 = .ok (.iconst 0, 1) := by decide +kernel
theorem dX12_was_38 : decode cX12_was 38 = .ok (.istore 4, 2) := by decide +kernel
theorem dX12_was_40 : decode cX12_was 40 = .ok (.iload 4, 2) := by decide +kernel
theorem dX12_was_42 : decode cX12_was 42 = .ok (.sipush 2197, 3) := by decide +kernel
theorem dX12_was_45 : decode cX12_was 45 = .ok (.if_icmp .ge 30, 3) := by decide +kernel
theorem dX12_was_48 : decode cX12_was 48 = .ok (.aload_n 0, 1) := by decide +kernel
theorem dX12_was_49 : decode cX12_was 49 = .ok (.getfield 42, 3) := by decide +kernel
theorem dX12_was_52 : decode cX12_was 52 = .ok (.iload 4, 2) := by decide +kernel
theorem dX12_was_54 : decode cX12_was 54 = .ok (.iload 4, 2) := by decide +kernel
theorem dX12_was_56 : decode cX12_was 56 = .ok (.aload_n 0, 1) := by decide +kernel
theorem dX12_was_57 : decode cX12_was 57 = .ok (.invokevirtual 173, 3) := by decide +kernel
theorem dX12_was_60 : decode cX12_was 60 = .ok (.if_icmp .ne 7, 3) := by decide +kernel
theorem dX12_was_63 : decode cX12_was 63 = .ok (.iconst 1, 1) := by decide +kernel
theorem dX12_was_64 : decode cX12_was 64 = .ok (.goto 4, 3) := by decide +kernel
theorem dX12_was_67 : decode cX12_was 67 = .ok (.iconst 0, 1) := by decide +kernel
theorem dX12_was_68 : decode cX12_was 68 = .ok (.bastore, 1) := by decide +kernel
theorem dX12_was_69 : decode cX12_was 69 = .ok (.iinc 4 1, 3) := by decide +kernel
theorem dX12_was_72 : decode cX12_was 72 = .ok (.goto (-32), 3) := by decide +kernel
theorem dX12_was_75 : decode cX12_was 75 = .ok (.iconst 0, 1) := by decide +kernel
theorem dX12_was_76 : decode cX12_was 76 = .ok (.istore 4, 2) := by decide +kernel
theorem dX12_was_78 : decode cX12_was 78 = .ok (.iload 4, 2) := by decide +kernel
theorem dX12_was_80 : decode cX12_was 80 = .ok (.iload_n 1, 1) := by decide +kernel
theorem dX12_was_81 : decode cX12_was 81 = .ok (.if_icmp .ge 132, 3) := by decide +kernel
theorem dX12_was_84 : decode cX12_was 84 = .ok (.iconst 0, 1) := by decide +kernel
theorem dX12_was_85 : decode cX12_was 85 = .ok (.istore 5, 2) := by decide +kernel
theorem dX12_was_87 : decode cX12_was 87 = .ok (.iload 5, 2) := by decide +kernel
theorem dX12_was_89 : decode cX12_was 89 = .ok (.sipush 2197, 3) := by decide +kernel
theorem dX12_was_92 : decode cX12_was 92 = .ok (.if_icmp .ge 84, 3) := by decide +kernel
theorem dX12_was_95 : decode cX12_was 95 = .ok (.aload_n 0, 1) := by decide +kernel
theorem dX12_was_96 : decode cX12_was 96 = .ok (.getfield 45, 3) := by decide +kernel
theorem dX12_was_99 : decode cX12_was 99 = .ok (.iload 5, 2) := by decide +kernel
theorem dX12_was_101 : decode cX12_was 101 = .ok (.iconst 0, 1) := by decide +kernel
theorem dX12_was_102 : decode cX12_was 102 = .ok (.bastore, 1) := by decide +kernel
theorem dX12_was_103 : decode cX12_was 103 = .ok (.iconst 0, 1) := by decide +kernel
theorem dX12_was_104 : decode cX12_was 104 = .ok (.istore 6, 2) := by decide +kernel
theorem dX12_was_106 : decode cX12_was 106 = .ok (.iload 6, 2) := by decide +kernel
theorem dX12_was_108 : decode cX12_was 108 = .ok (.bipush 6, 2) := by decide +kernel
theorem dX12_was_110 : decode cX12_was 110 = .ok (.if_icmp .ge 60, 3) := by decide +kernel
theorem dX12_was_113 : decode cX12_was 113 = .ok (.iload 5, 2) := by decide +kernel
theorem dX12_was_115 : decode cX12_was 115 = .ok (.invokestatic 245, 3) := by decide +kernel
theorem dX12_was_118 : decode cX12_was 118 = .ok (.ifCond .eq 52, 3) := by decide +kernel
theorem dX12_was_121 : decode cX12_was 121 = .ok (.aload_n 0, 1) := by decide +kernel
theorem dX12_was_122 : decode cX12_was 122 = .ok (.getfield 45, 3) := by decide +kernel
theorem dX12_was_125 : decode cX12_was 125 = .ok (.iload 5, 2) := by decide +kernel
theorem dX12_was_127 : decode cX12_was 127 = .ok (.dup2, 1) := by decide +kernel
theorem dX12_was_128 : decode cX12_was 128 = .ok (.baload, 1) := by decide +kernel
theorem dX12_was_129 : decode cX12_was 129 = .ok (.aload_n 0, 1) := by decide +kernel
theorem dX12_was_130 : decode cX12_was 130 = .ok (.iload 5, 2) := by decide +kernel
theorem dX12_was_132 : decode cX12_was 132 = .ok (.iload 6, 2) := by decide +kernel
theorem dX12_was_134 : decode cX12_was 134 = .ok (.iload_n 3, 1) := by decide +kernel
theorem dX12_was_135 : decode cX12_was 135 = .ok (.invokevirtual 209, 3) := by decide +kernel
theorem dX12_was_138 : decode cX12_was 138 = .ok (.ifCond .eq 23, 3) := by decide +kernel
theorem dX12_was_141 : decode cX12_was 141 = .ok (.aload_n 0, 1) := by decide +kernel
theorem dX12_was_142 : decode cX12_was 142 = .ok (.getfield 42, 3) := by decide +kernel
theorem dX12_was_145 : decode cX12_was 145 = .ok (.aload_n 0, 1) := by decide +kernel
theorem dX12_was_146 : decode cX12_was 146 = .ok (.iload 5, 2) := by decide +kernel
theorem dX12_was_148 : decode cX12_was 148 = .ok (.iload 6, 2) := by decide +kernel
theorem dX12_was_150 : decode cX12_was 150 = .ok (.invokevirtual 220, 3) := by decide +kernel
theorem dX12_was_153 : decode cX12_was 153 = .ok (.baload, 1) := by decide +kernel
theorem dX12_was_154 : decode cX12_was 154 = .ok (.ifCond .eq 7, 3) := by decide +kernel
theorem dX12_was_157 : decode cX12_was 157 = .ok (.iconst 1, 1) := by decide +kernel
theorem dX12_was_158 : decode cX12_was 158 = .ok (.goto 4, 3) := by decide +kernel
theorem dX12_was_161 : decode cX12_was 161 = .ok (.iconst 0, 1) := by decide +kernel
theorem dX12_was_162 : decode cX12_was 162 = .ok (.ior, 1) := by decide +kernel
theorem dX12_was_163 : decode cX12_was 163 = .ok (.bastore, 1) := by decide +kernel
theorem dX12_was_164 : decode cX12_was 164 = .ok (.iinc 6 1, 3) := by decide +kernel
theorem dX12_was_167 : decode cX12_was 167 = .ok (.goto (-61), 3) := by decide +kernel
theorem dX12_was_170 : decode cX12_was 170 = .ok (.iinc 5 1, 3) := by decide +kernel
theorem dX12_was_173 : decode cX12_was 173 = .ok (.goto (-86), 3) := by decide +kernel
theorem dX12_was_176 : decode cX12_was 176 = .ok (.iconst 0, 1) := by decide +kernel
theorem dX12_was_177 : decode cX12_was 177 = .ok (.istore 5, 2) := by decide +kernel
theorem dX12_was_179 : decode cX12_was 179 = .ok (.iload 5, 2) := by decide +kernel
theorem dX12_was_181 : decode cX12_was 181 = .ok (.sipush 2197, 3) := by decide +kernel
theorem dX12_was_184 : decode cX12_was 184 = .ok (.if_icmp .ge 23, 3) := by decide +kernel
theorem dX12_was_187 : decode cX12_was 187 = .ok (.aload_n 0, 1) := by decide +kernel
theorem dX12_was_188 : decode cX12_was 188 = .ok (.getfield 42, 3) := by decide +kernel
theorem dX12_was_191 : decode cX12_was 191 = .ok (.iload 5, 2) := by decide +kernel
theorem dX12_was_193 : decode cX12_was 193 = .ok (.aload_n 0, 1) := by decide +kernel
theorem dX12_was_194 : decode cX12_was 194 = .ok (.getfield 45, 3) := by decide +kernel
theorem dX12_was_197 : decode cX12_was 197 = .ok (.iload 5, 2) := by decide +kernel
theorem dX12_was_199 : decode cX12_was 199 = .ok (.baload, 1) := by decide +kernel
theorem dX12_was_200 : decode cX12_was 200 = .ok (.bastore, 1) := by decide +kernel
theorem dX12_was_201 : decode cX12_was 201 = .ok (.iinc 5 1, 3) := by decide +kernel
theorem dX12_was_204 : decode cX12_was 204 = .ok (.goto (-25), 3) := by decide +kernel
theorem dX12_was_207 : decode cX12_was 207 = .ok (.iinc 4 1, 3) := by decide +kernel
theorem dX12_was_210 : decode cX12_was 210 = .ok (.goto (-132), 3) := by decide +kernel
theorem dX12_was_213 : decode cX12_was 213 = .ok (.iconst 0, 1) := by decide +kernel
theorem dX12_was_214 : decode cX12_was 214 = .ok (.istore 4, 2) := by decide +kernel
theorem dX12_was_216 : decode cX12_was 216 = .ok (.iconst (-1), 1) := by decide +kernel
theorem dX12_was_217 : decode cX12_was 217 = .ok (.istore 5, 2) := by decide +kernel
theorem dX12_was_219 : decode cX12_was 219 = .ok (.sipush 2196, 3) := by decide +kernel
theorem dX12_was_222 : decode cX12_was 222 = .ok (.istore 6, 2) := by decide +kernel
theorem dX12_was_224 : decode cX12_was 224 = .ok (.iload 6, 2) := by decide +kernel
theorem dX12_was_226 : decode cX12_was 226 = .ok (.ifCond .lt 48, 3) := by decide +kernel
theorem dX12_was_229 : decode cX12_was 229 = .ok (.iload 4, 2) := by decide +kernel
theorem dX12_was_231 : decode cX12_was 231 = .ok (.aload_n 0, 1) := by decide +kernel
theorem dX12_was_232 : decode cX12_was 232 = .ok (.getfield 42, 3) := by decide +kernel
theorem dX12_was_235 : decode cX12_was 235 = .ok (.iload 6, 2) := by decide +kernel
theorem dX12_was_237 : decode cX12_was 237 = .ok (.baload, 1) := by decide +kernel
theorem dX12_was_238 : decode cX12_was 238 = .ok (.ifCond .eq 7, 3) := by decide +kernel
theorem dX12_was_241 : decode cX12_was 241 = .ok (.iconst 1, 1) := by decide +kernel
theorem dX12_was_242 : decode cX12_was 242 = .ok (.goto 4, 3) := by decide +kernel
theorem dX12_was_245 : decode cX12_was 245 = .ok (.iconst 0, 1) := by decide +kernel
theorem dX12_was_246 : decode cX12_was 246 = .ok (.iadd, 1) := by decide +kernel
theorem dX12_was_247 : decode cX12_was 247 = .ok (.istore 4, 2) := by decide +kernel
theorem dX12_was_249 : decode cX12_was 249 = .ok (.aload_n 0, 1) := by decide +kernel
theorem dX12_was_250 : decode cX12_was 250 = .ok (.getfield 42, 3) := by decide +kernel
theorem dX12_was_253 : decode cX12_was 253 = .ok (.iload 6, 2) := by decide +kernel
theorem dX12_was_255 : decode cX12_was 255 = .ok (.baload, 1) := by decide +kernel
theorem dX12_was_256 : decode cX12_was 256 = .ok (.ifCond .eq 8, 3) := by decide +kernel
theorem dX12_was_259 : decode cX12_was 259 = .ok (.iload 6, 2) := by decide +kernel
theorem dX12_was_261 : decode cX12_was 261 = .ok (.goto 5, 3) := by decide +kernel
theorem dX12_was_264 : decode cX12_was 264 = .ok (.iload 5, 2) := by decide +kernel
theorem dX12_was_266 : decode cX12_was 266 = .ok (.istore 5, 2) := by decide +kernel
theorem dX12_was_268 : decode cX12_was 268 = .ok (.iinc 6 (-1), 3) := by decide +kernel
theorem dX12_was_271 : decode cX12_was 271 = .ok (.goto (-47), 3) := by decide +kernel
theorem dX12_was_274 : decode cX12_was 274 = .ok (.iload_n 2, 1) := by decide +kernel
theorem dX12_was_275 : decode cX12_was 275 = .ok (.ifCond .ne 8, 3) := by decide +kernel
theorem dX12_was_278 : decode cX12_was 278 = .ok (.iload 4, 2) := by decide +kernel
theorem dX12_was_280 : decode cX12_was 280 = .ok (.goto 18, 3) := by decide +kernel
theorem dX12_was_283 : decode cX12_was 283 = .ok (.iload 5, 2) := by decide +kernel
theorem dX12_was_285 : decode cX12_was 285 = .ok (.ifCond .ge 11, 3) := by decide +kernel
theorem dX12_was_288 : decode cX12_was 288 = .ok (.aload_n 0, 1) := by decide +kernel
theorem dX12_was_289 : decode cX12_was 289 = .ok (.iconst 2, 1) := by decide +kernel
theorem dX12_was_290 : decode cX12_was 290 = .ok (.invokevirtual 152, 3) := by decide +kernel
theorem dX12_was_293 : decode cX12_was 293 = .ok (.goto 5, 3) := by decide +kernel
theorem dX12_was_296 : decode cX12_was 296 = .ok (.iload 5, 2) := by decide +kernel
theorem dX12_was_298 : decode cX12_was 298 = .ok (.ireturn, 1) := by decide +kernel
theorem dX12_oneMore_0 : decode cX12_oneMore 0 = .ok (.iconst 0, 1) := by decide +kernel
theorem dX12_oneMore_1 : decode cX12_oneMore 1 = .ok (.istore_n 3, 1) := by decide +kernel
theorem dX12_oneMore_2 : decode cX12_oneMore 2 = .ok (.iload_n 3, 1) := by decide +kernel
theorem dX12_oneMore_3 : decode cX12_oneMore 3 = .ok (.sipush 2197, 3) := by decide +kernel
theorem dX12_oneMore_6 : decode cX12_oneMore 6 = .ok (.if_icmp .ge 144, 3) := by decide +kernel
theorem dX12_oneMore_9 : decode cX12_oneMore 9 = .ok (.iconst 0, 1) := by decide +kernel
theorem dX12_oneMore_10 : decode cX12_oneMore 10 = .ok (.istore 4, 2) := by decide +kernel
theorem dX12_oneMore_12 : decode cX12_oneMore 12 = .ok (.iconst 0, 1) := by decide +kernel
theorem dX12_oneMore_13 : decode cX12_oneMore 13 = .ok (.istore 5, 2) := by decide +kernel
theorem dX12_oneMore_15 : decode cX12_oneMore 15 = .ok (.iconst 1, 1) := by decide +kernel
theorem dX12_oneMore_16 : decode cX12_oneMore 16 = .ok (.istore 6, 2) := by decide +kernel
theorem dX12_oneMore_18 : decode cX12_oneMore 18 = .ok (.iconst 0, 1) := by decide +kernel
theorem dX12_oneMore_19 : decode cX12_oneMore 19 = .ok (.istore 7, 2) := by decide +kernel
theorem dX12_oneMore_21 : decode cX12_oneMore 21 = .ok (.iload 7, 2) := by decide +kernel
theorem dX12_oneMore_23 : decode cX12_oneMore 23 = .ok (.bipush 6, 2) := by decide +kernel
theorem dX12_oneMore_25 : decode cX12_oneMore 25 = .ok (.if_icmp .ge 64, 3) := by decide +kernel
theorem dX12_oneMore_28 : decode cX12_oneMore 28 = .ok (.iload_n 3, 1) := by decide +kernel
theorem dX12_oneMore_29 : decode cX12_oneMore 29 = .ok (.invokestatic 245, 3) := by decide +kernel
theorem dX12_oneMore_32 : decode cX12_oneMore 32 = .ok (.ifCond .eq 57, 3) := by decide +kernel
theorem dX12_oneMore_35 : decode cX12_oneMore 35 = .ok (.aload_n 0, 1) := by decide +kernel
theorem dX12_oneMore_36 : decode cX12_oneMore 36 = .ok (.iload_n 3, 1) := by decide +kernel
theorem dX12_oneMore_37 : decode cX12_oneMore 37 = .ok (.iload 7, 2) := by decide +kernel
theorem dX12_oneMore_39 : decode cX12_oneMore 39 = .ok (.iload_n 2, 1) := by decide +kernel
theorem dX12_oneMore_40 : decode cX12_oneMore 40 = .ok (.invokevirtual 209, 3) := by decide +kernel
theorem dX12_oneMore_43 : decode cX12_oneMore 43 = .ok (.ifCond .eq 40, 3) := by decide +kernel
theorem dX12_oneMore_46 : decode cX12_oneMore 46 = .ok (.iconst 1, 1) := by decide +kernel
theorem dX12_oneMore_47 : decode cX12_oneMore 47 = .ok (.istore 4, 2) := by decide +kernel
theorem dX12_oneMore_49 : decode cX12_oneMore 49 = .ok (.iload 5, 2) := by decide +kernel
theorem dX12_oneMore_51 : decode cX12_oneMore 51 = .ok (.aload_n 0, 1) := by decide +kernel
theorem dX12_oneMore_52 : decode cX12_oneMore 52 = .ok (.getfield 51, 3) := by decide +kernel
theorem dX12_oneMore_55 : decode cX12_oneMore 55 = .ok (.aload_n 0, 1) := by decide +kernel
theorem dX12_oneMore_56 : decode cX12_oneMore 56 = .ok (.iload_n 3, 1) := by decide +kernel
theorem dX12_oneMore_57 : decode cX12_oneMore 57 = .ok (.iload 7, 2) := by decide +kernel
theorem dX12_oneMore_59 : decode cX12_oneMore 59 = .ok (.invokevirtual 220, 3) := by decide +kernel
theorem dX12_oneMore_62 : decode cX12_oneMore 62 = .ok (.baload, 1) := by decide +kernel
theorem dX12_oneMore_63 : decode cX12_oneMore 63 = .ok (.ior, 1) := by decide +kernel
theorem dX12_oneMore_64 : decode cX12_oneMore 64 = .ok (.istore 5, 2) := by decide +kernel
theorem dX12_oneMore_66 : decode cX12_oneMore 66 = .ok (.iload 6, 2) := by decide +kernel
theorem dX12_oneMore_68 : decode cX12_oneMore 68 = .ok (.aload_n 0, 1) := by decide +kernel
theorem dX12_oneMore_69 : decode cX12_oneMore 69 = .ok (.getfield 48, 3) := by decide +kernel
theorem dX12_oneMore_72 : decode cX12_oneMore 72 = .ok (.aload_n 0, 1) := by decide +kernel
theorem dX12_oneMore_73 : decode cX12_oneMore 73 = .ok (.iload_n 3, 1) := by decide +kernel
theorem dX12_oneMore_74 : decode cX12_oneMore 74 = .ok (.iload 7, 2) := by decide +kernel
theorem dX12_oneMore_76 : decode cX12_oneMore 76 = .ok (.invokevirtual 220, 3) := by decide +kernel
theorem dX12_oneMore_79 : decode cX12_oneMore 79 = .ok (.baload, 1) := by decide +kernel
theorem dX12_oneMore_80 : decode cX12_oneMore 80 = .ok (.iand, 1) := by decide +kernel
theorem dX12_oneMore_81 : decode cX12_oneMore 81 = .ok (.istore 6, 2) := by decide +kernel
theorem dX12_oneMore_83 : decode cX12_oneMore 83 = .ok (.iinc 7 1, 3) := by decide +kernel
theorem dX12_oneMore_86 : decode cX12_oneMore 86 = .ok (.goto (-65), 3) := by decide +kernel
theorem dX12_oneMore_89 : decode cX12_oneMore 89 = .ok (.aload_n 0, 1) := by decide +kernel
theorem dX12_oneMore_90 : decode cX12_oneMore 90 = .ok (.getfield 54, 3) := by decide +kernel
theorem dX12_oneMore_93 : decode cX12_oneMore 93 = .ok (.iload_n 3, 1) := by decide +kernel
theorem dX12_oneMore_94 : decode cX12_oneMore 94 = .ok (.aload_n 0, 1) := by decide +kernel
theorem dX12_oneMore_95 : decode cX12_oneMore 95 = .ok (.iload_n 3, 1) := by decide +kernel
theorem dX12_oneMore_96 : decode cX12_oneMore 96 = .ok (.iload_n 1, 1) := by decide +kernel
theorem dX12_oneMore_97 : decode cX12_oneMore 97 = .ok (.invokevirtual 264, 3) := by decide +kernel
theorem dX12_oneMore_100 : decode cX12_oneMore 100 = .ok (.ifCond .ne 8, 3) := by decide +kernel
theorem dX12_oneMore_103 : decode cX12_oneMore 103 = .ok (.iload 5, 2) := by decide +kernel
theorem dX12_oneMore_105 : decode cX12_oneMore 105 = .ok (.ifCond .eq 7, 3) := by decide +kernel
theorem dX12_oneMore_108 : decode cX12_oneMore 108 = .ok (.iconst 1, 1) := by decide +kernel
theorem dX12_oneMore_109 : decode cX12_oneMore 109 = .ok (.goto 4, 3) := by decide +kernel
theorem dX12_oneMore_112 : decode cX12_oneMore 112 = .ok (.iconst 0, 1) := by decide +kernel
theorem dX12_oneMore_113 : decode cX12_oneMore 113 = .ok (.bastore, 1) := by decide +kernel
theorem dX12_oneMore_114 : decode cX12_oneMore 114 = .ok (.aload_n 0, 1) := by decide +kernel
theorem dX12_oneMore_115 : decode cX12_oneMore 115 = .ok (.getfield 57, 3) := by decide +kernel
theorem dX12_oneMore_118 : decode cX12_oneMore 118 = .ok (.iload_n 3, 1) := by decide +kernel
theorem dX12_oneMore_119 : decode cX12_oneMore 119 = .ok (.aload_n 0, 1) := by decide +kernel
theorem dX12_oneMore_120 : decode cX12_oneMore 120 = .ok (.iload_n 3, 1) := by decide +kernel
theorem dX12_oneMore_121 : decode cX12_oneMore 121 = .ok (.iload_n 1, 1) := by decide +kernel
theorem dX12_oneMore_122 : decode cX12_oneMore 122 = .ok (.invokevirtual 264, 3) := by decide +kernel
theorem dX12_oneMore_125 : decode cX12_oneMore 125 = .ok (.ifCond .ne 13, 3) := by decide +kernel
theorem dX12_oneMore_128 : decode cX12_oneMore 128 = .ok (.iload 4, 2) := by decide +kernel
theorem dX12_oneMore_130 : decode cX12_oneMore 130 = .ok (.ifCond .eq 12, 3) := by decide +kernel
theorem dX12_oneMore_133 : decode cX12_oneMore 133 = .ok (.iload 6, 2) := by decide +kernel
theorem dX12_oneMore_135 : decode cX12_oneMore 135 = .ok (.ifCond .eq 7, 3) := by decide +kernel
theorem dX12_oneMore_138 : decode cX12_oneMore 138 = .ok (.iconst 1, 1) := by decide +kernel
theorem dX12_oneMore_139 : decode cX12_oneMore 139 = .ok (.goto 4, 3) := by decide +kernel
theorem dX12_oneMore_142 : decode cX12_oneMore 142 = .ok (.iconst 0, 1) := by decide +kernel
theorem dX12_oneMore_143 : decode cX12_oneMore 143 = .ok (.bastore, 1) := by decide +kernel
theorem dX12_oneMore_144 : decode cX12_oneMore 144 = .ok (.iinc 3 1, 3) := by decide +kernel
theorem dX12_oneMore_147 : decode cX12_oneMore 147 = .ok (.goto (-145), 3) := by decide +kernel
theorem dX12_oneMore_150 : decode cX12_oneMore 150 = .ok (.iconst 0, 1) := by decide +kernel
theorem dX12_oneMore_151 : decode cX12_oneMore 151 = .ok (.istore_n 3, 1) := by decide +kernel
theorem dX12_oneMore_152 : decode cX12_oneMore 152 = .ok (.iload_n 3, 1) := by decide +kernel
theorem dX12_oneMore_153 : decode cX12_oneMore 153 = .ok (.sipush 2197, 3) := by decide +kernel
theorem dX12_oneMore_156 : decode cX12_oneMore 156 = .ok (.if_icmp .ge 33, 3) := by decide +kernel
theorem dX12_oneMore_159 : decode cX12_oneMore 159 = .ok (.aload_n 0, 1) := by decide +kernel
theorem dX12_oneMore_160 : decode cX12_oneMore 160 = .ok (.getfield 48, 3) := by decide +kernel
theorem dX12_oneMore_163 : decode cX12_oneMore 163 = .ok (.iload_n 3, 1) := by decide +kernel
theorem dX12_oneMore_164 : decode cX12_oneMore 164 = .ok (.aload_n 0, 1) := by decide +kernel
theorem dX12_oneMore_165 : decode cX12_oneMore 165 = .ok (.getfield 54, 3) := by decide +kernel
theorem dX12_oneMore_168 : decode cX12_oneMore 168 = .ok (.iload_n 3, 1) := by decide +kernel
theorem dX12_oneMore_169 : decode cX12_oneMore 169 = .ok (.baload, 1) := by decide +kernel
theorem dX12_oneMore_170 : decode cX12_oneMore 170 = .ok (.bastore, 1) := by decide +kernel
theorem dX12_oneMore_171 : decode cX12_oneMore 171 = .ok (.aload_n 0, 1) := by decide +kernel
theorem dX12_oneMore_172 : decode cX12_oneMore 172 = .ok (.getfield 51, 3) := by decide +kernel
theorem dX12_oneMore_175 : decode cX12_oneMore 175 = .ok (.iload_n 3, 1) := by decide +kernel
theorem dX12_oneMore_176 : decode cX12_oneMore 176 = .ok (.aload_n 0, 1) := by decide +kernel
theorem dX12_oneMore_177 : decode cX12_oneMore 177 = .ok (.getfield 57, 3) := by decide +kernel
theorem dX12_oneMore_180 : decode cX12_oneMore 180 = .ok (.iload_n 3, 1) := by decide +kernel
theorem dX12_oneMore_181 : decode cX12_oneMore 181 = .ok (.baload, 1) := by decide +kernel
theorem dX12_oneMore_182 : decode cX12_oneMore 182 = .ok (.bastore, 1) := by decide +kernel
theorem dX12_oneMore_183 : decode cX12_oneMore 183 = .ok (.iinc 3 1, 3) := by decide +kernel
theorem dX12_oneMore_186 : decode cX12_oneMore 186 = .ok (.goto (-34), 3) := by decide +kernel
theorem dX12_oneMore_189 : decode cX12_oneMore 189 = .ok (.return_, 1) := by decide +kernel
theorem dX12_force_0 : decode cX12_force 0 = .ok (.iload_n 1, 1) := by decide +kernel
theorem dX12_force_1 : decode cX12_force 1 = .ok (.invokestatic 168, 3) := by decide +kernel
theorem dX12_force_4 : decode cX12_force 4 = .ok (.ifCond .ne 9, 3) := by decide +kernel
theorem dX12_force_7 : decode cX12_force 7 = .ok (.aload_n 0, 1) := by decide +kernel
theorem dX12_force_8 : decode cX12_force 8 = .ok (.iconst 1, 1) := by decide +kernel
theorem dX12_force_9 : decode cX12_force 9 = .ok (.invokevirtual 152, 3) := by decide +kernel
theorem dX12_force_12 : decode cX12_force 12 = .ok (.ireturn, 1) := by decide +kernel
theorem dX12_force_13 : decode cX12_force 13 = .ok (.aload_n 0, 1) := by decide +kernel
theorem dX12_force_14 : decode cX12_force 14 = .ok (.invokevirtual 203, 3) := by decide +kernel
theorem dX12_force_17 : decode cX12_force 17 = .ok (.aload_n 0, 1) := by decide +kernel
theorem dX12_force_18 : decode cX12_force 18 = .ok (.invokevirtual 206, 3) := by decide +kernel
theorem dX12_force_21 : decode cX12_force 21 = .ok (.istore_n 2, 1) := by decide +kernel
theorem dX12_force_22 : decode cX12_force 22 = .ok (.iconst 0, 1) := by decide +kernel
theorem dX12_force_23 : decode cX12_force 23 = .ok (.istore_n 3, 1) := by decide +kernel
theorem dX12_force_24 : decode cX12_force 24 = .ok (.iload_n 3, 1) := by decide +kernel
theorem dX12_force_25 : decode cX12_force 25 = .ok (.sipush 2197, 3) := by decide +kernel
theorem dX12_force_28 : decode cX12_force 28 = .ok (.if_icmp .ge 33, 3) := by decide +kernel
theorem dX12_force_31 : decode cX12_force 31 = .ok (.aload_n 0, 1) := by decide +kernel
theorem dX12_force_32 : decode cX12_force 32 = .ok (.getfield 48, 3) := by decide +kernel
theorem dX12_force_35 : decode cX12_force 35 = .ok (.iload_n 3, 1) := by decide +kernel
theorem dX12_force_36 : decode cX12_force 36 = .ok (.aload_n 0, 1) := by decide +kernel
theorem dX12_force_37 : decode cX12_force 37 = .ok (.iload_n 3, 1) := by decide +kernel
theorem dX12_force_38 : decode cX12_force 38 = .ok (.iload_n 1, 1) := by decide +kernel
theorem dX12_force_39 : decode cX12_force 39 = .ok (.invokevirtual 264, 3) := by decide +kernel
theorem dX12_force_42 : decode cX12_force 42 = .ok (.bastore, 1) := by decide +kernel
theorem dX12_force_43 : decode cX12_force 43 = .ok (.aload_n 0, 1) := by decide +kernel
theorem dX12_force_44 : decode cX12_force 44 = .ok (.getfield 51, 3) := by decide +kernel
theorem dX12_force_47 : decode cX12_force 47 = .ok (.iload_n 3, 1) := by decide +kernel
theorem dX12_force_48 : decode cX12_force 48 = .ok (.aload_n 0, 1) := by decide +kernel
theorem dX12_force_49 : decode cX12_force 49 = .ok (.iload_n 3, 1) := by decide +kernel
theorem dX12_force_50 : decode cX12_force 50 = .ok (.iload_n 1, 1) := by decide +kernel
theorem dX12_force_51 : decode cX12_force 51 = .ok (.invokevirtual 264, 3) := by decide +kernel
theorem dX12_force_54 : decode cX12_force 54 = .ok (.bastore, 1) := by decide +kernel
theorem dX12_force_55 : decode cX12_force 55 = .ok (.iinc 3 1, 3) := by decide +kernel
theorem dX12_force_58 : decode cX12_force 58 = .ok (.goto (-34), 3) := by decide +kernel
theorem dX12_force_61 : decode cX12_force 61 = .ok (.iconst 0, 1) := by decide +kernel
theorem dX12_force_62 : decode cX12_force 62 = .ok (.istore_n 3, 1) := by decide +kernel
theorem dX12_force_63 : decode cX12_force 63 = .ok (.iload_n 3, 1) := by decide +kernel
theorem dX12_force_64 : decode cX12_force 64 = .ok (.bipush 10, 2) := by decide +kernel
theorem dX12_force_66 : decode cX12_force 66 = .ok (.if_icmp .gt 29, 3) := by decide +kernel
theorem dX12_force_69 : decode cX12_force 69 = .ok (.aload_n 0, 1) := by decide +kernel
theorem dX12_force_70 : decode cX12_force 70 = .ok (.getfield 48, 3) := by decide +kernel
theorem dX12_force_73 : decode cX12_force 73 = .ok (.aload_n 0, 1) := by decide +kernel
theorem dX12_force_74 : decode cX12_force 74 = .ok (.invokevirtual 173, 3) := by decide +kernel
theorem dX12_force_77 : decode cX12_force 77 = .ok (.baload, 1) := by decide +kernel
theorem dX12_force_78 : decode cX12_force 78 = .ok (.ifCond .eq 5, 3) := by decide +kernel
theorem dX12_force_81 : decode cX12_force 81 = .ok (.iload_n 3, 1) := by decide +kernel
theorem dX12_force_82 : decode cX12_force 82 = .ok (.ireturn, 1) := by decide +kernel
theorem dX12_force_83 : decode cX12_force 83 = .ok (.aload_n 0, 1) := by decide +kernel
theorem dX12_force_84 : decode cX12_force 84 = .ok (.iload_n 1, 1) := by decide +kernel
theorem dX12_force_85 : decode cX12_force 85 = .ok (.iload_n 2, 1) := by decide +kernel
theorem dX12_force_86 : decode cX12_force 86 = .ok (.invokevirtual 270, 3) := by decide +kernel
theorem dX12_force_89 : decode cX12_force 89 = .ok (.iinc 3 1, 3) := by decide +kernel
theorem dX12_force_92 : decode cX12_force 92 = .ok (.goto (-29), 3) := by decide +kernel
theorem dX12_force_95 : decode cX12_force 95 = .ok (.aload_n 0, 1) := by decide +kernel
theorem dX12_force_96 : decode cX12_force 96 = .ok (.iconst 2, 1) := by decide +kernel
theorem dX12_force_97 : decode cX12_force 97 = .ok (.invokevirtual 152, 3) := by decide +kernel
theorem dX12_force_100 : decode cX12_force 100 = .ok (.ireturn, 1) := by decide +kernel
theorem dX12_seed_0 : decode cX12_seed 0 = .ok (.aload_n 0, 1) := by decide +kernel
theorem dX12_seed_1 : decode cX12_seed 1 = .ok (.getfield 7, 3) := by decide +kernel
theorem dX12_seed_4 : decode cX12_seed 4 = .ok (.bipush 23, 2) := by decide +kernel
theorem dX12_seed_6 : decode cX12_seed 6 = .ok (.iaload, 1) := by decide +kernel
theorem dX12_seed_7 : decode cX12_seed 7 = .ok (.istore_n 2, 1) := by decide +kernel
theorem dX12_seed_8 : decode cX12_seed 8 = .ok (.aload_n 0, 1) := by decide +kernel
theorem dX12_seed_9 : decode cX12_seed 9 = .ok (.getfield 7, 3) := by decide +kernel
theorem dX12_seed_12 : decode cX12_seed 12 = .ok (.bipush 23, 2) := by decide +kernel
theorem dX12_seed_14 : decode cX12_seed 14 = .ok (.iload_n 1, 1) := by decide +kernel
theorem dX12_seed_15 : decode cX12_seed 15 = .ok (.iastore, 1) := by decide +kernel
theorem dX12_seed_16 : decode cX12_seed 16 = .ok (.iload_n 2, 1) := by decide +kernel
theorem dX12_seed_17 : decode cX12_seed 17 = .ok (.ireturn, 1) := by decide +kernel
theorem dX12_ran_0 : decode cX12_ran 0 = .ok (.aload_n 0, 1) := by decide +kernel
theorem dX12_ran_1 : decode cX12_ran 1 = .ok (.getfield 274, 3) := by decide +kernel
theorem dX12_ran_4 : decode cX12_ran 4 = .ok (.bipush 40, 2) := by decide +kernel
theorem dX12_ran_6 : decode cX12_ran 6 = .ok (.if_icmp .ge 23, 3) := by decide +kernel
theorem dX12_ran_9 : decode cX12_ran 9 = .ok (.aload_n 0, 1) := by decide +kernel
theorem dX12_ran_10 : decode cX12_ran 10 = .ok (.getfield 60, 3) := by decide +kernel
theorem dX12_ran_13 : decode cX12_ran 13 = .ok (.aload_n 0, 1) := by decide +kernel
theorem dX12_ran_14 : decode cX12_ran 14 = .ok (.getfield 274, 3) := by decide +kernel
theorem dX12_ran_17 : decode cX12_ran 17 = .ok (.iload_n 1, 1) := by decide +kernel
theorem dX12_ran_18 : decode cX12_ran 18 = .ok (.iastore, 1) := by decide +kernel
theorem dX12_ran_19 : decode cX12_ran 19 = .ok (.aload_n 0, 1) := by decide +kernel
theorem dX12_ran_20 : decode cX12_ran 20 = .ok (.dup, 1) := by decide +kernel
theorem dX12_ran_21 : decode cX12_ran 21 = .ok (.getfield 274, 3) := by decide +kernel
theorem dX12_ran_24 : decode cX12_ran 24 = .ok (.iconst 1, 1) := by decide +kernel
theorem dX12_ran_25 : decode cX12_ran 25 = .ok (.iadd, 1) := by decide +kernel
theorem dX12_ran_26 : decode cX12_ran 26 = .ok (.putfield 274, 3) := by decide +kernel
theorem dX12_ran_29 : decode cX12_ran 29 = .ok (.return_, 1) := by decide +kernel
theorem dX12_own_0 : decode cX12_own 0 = .ok (.aload_n 0, 1) := by decide +kernel
theorem dX12_own_1 : decode cX12_own 1 = .ok (.getfield 7, 3) := by decide +kernel
theorem dX12_own_4 : decode cX12_own 4 = .ok (.iconst 3, 1) := by decide +kernel
theorem dX12_own_5 : decode cX12_own 5 = .ok (.aload_n 0, 1) := by decide +kernel
theorem dX12_own_6 : decode cX12_own 6 = .ok (.getfield 277, 3) := by decide +kernel
theorem dX12_own_9 : decode cX12_own 9 = .ok (.iadd, 1) := by decide +kernel
theorem dX12_own_10 : decode cX12_own 10 = .ok (.iaload, 1) := by decide +kernel
theorem dX12_own_11 : decode cX12_own 11 = .ok (.ireturn, 1) := by decide +kernel
theorem dX12_met_0 : decode cX12_met 0 = .ok (.iload_n 1, 1) := by decide +kernel
theorem dX12_met_1 : decode cX12_met 1 = .ok (.lookupswitch 58 #[(0, 27), (2, 40)], 27) := by decide +kernel
theorem dX12_met_28 : decode cX12_met 28 = .ok (.aload_n 0, 1) := by decide +kernel
theorem dX12_met_29 : decode cX12_met 29 = .ok (.bipush 10, 2) := by decide +kernel
theorem dX12_met_31 : decode cX12_met 31 = .ok (.invokevirtual 280, 3) := by decide +kernel
theorem dX12_met_34 : decode cX12_met 34 = .ok (.iload_n 2, 1) := by decide +kernel
theorem dX12_met_35 : decode cX12_met 35 = .ok (.aload_n 0, 1) := by decide +kernel
theorem dX12_met_36 : decode cX12_met 36 = .ok (.getfield 277, 3) := by decide +kernel
theorem dX12_met_39 : decode cX12_met 39 = .ok (.iadd, 1) := by decide +kernel
theorem dX12_met_40 : decode cX12_met 40 = .ok (.ireturn, 1) := by decide +kernel
theorem dX12_met_41 : decode cX12_met 41 = .ok (.aload_n 0, 1) := by decide +kernel
theorem dX12_met_42 : decode cX12_met 42 = .ok (.bipush 30, 2) := by decide +kernel
theorem dX12_met_44 : decode cX12_met 44 = .ok (.invokevirtual 280, 3) := by decide +kernel
theorem dX12_met_47 : decode cX12_met 47 = .ok (.aload_n 0, 1) := by decide +kernel
theorem dX12_met_48 : decode cX12_met 48 = .ok (.iconst 2, 1) := by decide +kernel
theorem dX12_met_49 : decode cX12_met 49 = .ok (.invokestatic 215, 3) := by decide +kernel
theorem dX12_met_52 : decode cX12_met 52 = .ok (.iload_n 2, 1) := by decide +kernel
theorem dX12_met_53 : decode cX12_met 53 = .ok (.invokevirtual 283, 3) := by decide +kernel
theorem dX12_met_56 : decode cX12_met 56 = .ok (.iconst 3, 1) := by decide +kernel
theorem dX12_met_57 : decode cX12_met 57 = .ok (.imul, 1) := by decide +kernel
theorem dX12_met_58 : decode cX12_met 58 = .ok (.ireturn, 1) := by decide +kernel
theorem dX12_met_59 : decode cX12_met 59 = .ok (.aload_n 0, 1) := by decide +kernel
theorem dX12_met_60 : decode cX12_met 60 = .ok (.iload_n 1, 1) := by decide +kernel
theorem dX12_met_61 : decode cX12_met 61 = .ok (.invokestatic 215, 3) := by decide +kernel
theorem dX12_met_64 : decode cX12_met 64 = .ok (.iload_n 2, 1) := by decide +kernel
theorem dX12_met_65 : decode cX12_met 65 = .ok (.invokevirtual 283, 3) := by decide +kernel
theorem dX12_met_68 : decode cX12_met 68 = .ok (.ireturn, 1) := by decide +kernel
theorem dX12_turns_0 : decode cX12_turns 0 = .ok (.iload_n 1, 1) := by decide +kernel
theorem dX12_turns_1 : decode cX12_turns 1 = .ok (.tableswitch 99 0 4 #[35, 53, 99, 99, 81], 35) := by decide +kernel
theorem dX12_turns_36 : decode cX12_turns 36 = .ok (.aload_n 0, 1) := by decide +kernel
theorem dX12_turns_37 : decode cX12_turns 37 = .ok (.bipush 11, 2) := by decide +kernel
theorem dX12_turns_39 : decode cX12_turns 39 = .ok (.invokevirtual 280, 3) := by decide +kernel
theorem dX12_turns_42 : decode cX12_turns 42 = .ok (.aload_n 0, 1) := by decide +kernel
theorem dX12_turns_43 : decode cX12_turns 43 = .ok (.aload_n 0, 1) := by decide +kernel
theorem dX12_turns_44 : decode cX12_turns 44 = .ok (.invokevirtual 286, 3) := by decide +kernel
theorem dX12_turns_47 : decode cX12_turns 47 = .ok (.iload_n 2, 1) := by decide +kernel
theorem dX12_turns_48 : decode cX12_turns 48 = .ok (.invokevirtual 283, 3) := by decide +kernel
theorem dX12_turns_51 : decode cX12_turns 51 = .ok (.iconst 2, 1) := by decide +kernel
theorem dX12_turns_52 : decode cX12_turns 52 = .ok (.imul, 1) := by decide +kernel
theorem dX12_turns_53 : decode cX12_turns 53 = .ok (.ireturn, 1) := by decide +kernel
theorem dX12_turns_54 : decode cX12_turns 54 = .ok (.aload_n 0, 1) := by decide +kernel
theorem dX12_turns_55 : decode cX12_turns 55 = .ok (.bipush 20, 2) := by decide +kernel
theorem dX12_turns_57 : decode cX12_turns 57 = .ok (.invokevirtual 280, 3) := by decide +kernel
theorem dX12_turns_60 : decode cX12_turns 60 = .ok (.aload_n 0, 1) := by decide +kernel
theorem dX12_turns_61 : decode cX12_turns 61 = .ok (.iconst 1, 1) := by decide +kernel
theorem dX12_turns_62 : decode cX12_turns 62 = .ok (.invokestatic 215, 3) := by decide +kernel
theorem dX12_turns_65 : decode cX12_turns 65 = .ok (.iload_n 2, 1) := by decide +kernel
theorem dX12_turns_66 : decode cX12_turns 66 = .ok (.invokevirtual 289, 3) := by decide +kernel
theorem dX12_turns_69 : decode cX12_turns 69 = .ok (.istore_n 3, 1) := by decide +kernel
theorem dX12_turns_70 : decode cX12_turns 70 = .ok (.iload_n 3, 1) := by decide +kernel
theorem dX12_turns_71 : decode cX12_turns 71 = .ok (.aload_n 0, 1) := by decide +kernel
theorem dX12_turns_72 : decode cX12_turns 72 = .ok (.aload_n 0, 1) := by decide +kernel
theorem dX12_turns_73 : decode cX12_turns 73 = .ok (.invokevirtual 286, 3) := by decide +kernel
theorem dX12_turns_76 : decode cX12_turns 76 = .ok (.iconst 1, 1) := by decide +kernel
theorem dX12_turns_77 : decode cX12_turns 77 = .ok (.invokevirtual 292, 3) := by decide +kernel
theorem dX12_turns_80 : decode cX12_turns 80 = .ok (.isub, 1) := by decide +kernel
theorem dX12_turns_81 : decode cX12_turns 81 = .ok (.ireturn, 1) := by decide +kernel
theorem dX12_turns_82 : decode cX12_turns 82 = .ok (.aload_n 0, 1) := by decide +kernel
theorem dX12_turns_83 : decode cX12_turns 83 = .ok (.bipush 50, 2) := by decide +kernel
theorem dX12_turns_85 : decode cX12_turns 85 = .ok (.invokevirtual 280, 3) := by decide +kernel
theorem dX12_turns_88 : decode cX12_turns 88 = .ok (.aload_n 0, 1) := by decide +kernel
theorem dX12_turns_89 : decode cX12_turns 89 = .ok (.iconst 4, 1) := by decide +kernel
theorem dX12_turns_90 : decode cX12_turns 90 = .ok (.invokestatic 215, 3) := by decide +kernel
theorem dX12_turns_93 : decode cX12_turns 93 = .ok (.iload_n 2, 1) := by decide +kernel
theorem dX12_turns_94 : decode cX12_turns 94 = .ok (.iconst 1, 1) := by decide +kernel
theorem dX12_turns_95 : decode cX12_turns 95 = .ok (.iadd, 1) := by decide +kernel
theorem dX12_turns_96 : decode cX12_turns 96 = .ok (.invokevirtual 289, 3) := by decide +kernel
theorem dX12_turns_99 : decode cX12_turns 99 = .ok (.ireturn, 1) := by decide +kernel
theorem dX12_turns_100 : decode cX12_turns 100 = .ok (.aload_n 0, 1) := by decide +kernel
theorem dX12_turns_101 : decode cX12_turns 101 = .ok (.iload_n 1, 1) := by decide +kernel
theorem dX12_turns_102 : decode cX12_turns 102 = .ok (.invokestatic 215, 3) := by decide +kernel
theorem dX12_turns_105 : decode cX12_turns 105 = .ok (.iload_n 2, 1) := by decide +kernel
theorem dX12_turns_106 : decode cX12_turns 106 = .ok (.invokevirtual 289, 3) := by decide +kernel
theorem dX12_turns_109 : decode cX12_turns 109 = .ok (.ireturn, 1) := by decide +kernel
theorem dX12_stay_0 : decode cX12_stay 0 = .ok (.iload_n 1, 1) := by decide +kernel
theorem dX12_stay_1 : decode cX12_stay 1 = .ok (.lookupswitch 95 #[(0, 35), (3, 56), (6, 73)], 35) := by decide +kernel
theorem dX12_stay_36 : decode cX12_stay 36 = .ok (.aload_n 0, 1) := by decide +kernel
theorem dX12_stay_37 : decode cX12_stay 37 = .ok (.bipush 12, 2) := by decide +kernel
theorem dX12_stay_39 : decode cX12_stay 39 = .ok (.invokevirtual 280, 3) := by decide +kernel
theorem dX12_stay_42 : decode cX12_stay 42 = .ok (.iload_n 2, 1) := by decide +kernel
theorem dX12_stay_43 : decode cX12_stay 43 = .ok (.aload_n 0, 1) := by decide +kernel
theorem dX12_stay_44 : decode cX12_stay 44 = .ok (.getfield 7, 3) := by decide +kernel
theorem dX12_stay_47 : decode cX12_stay 47 = .ok (.bipush 9, 2) := by decide +kernel
theorem dX12_stay_49 : decode cX12_stay 49 = .ok (.aload_n 0, 1) := by decide +kernel
theorem dX12_stay_50 : decode cX12_stay 50 = .ok (.getfield 277, 3) := by decide +kernel
theorem dX12_stay_53 : decode cX12_stay 53 = .ok (.iadd, 1) := by decide +kernel
theorem dX12_stay_54 : decode cX12_stay 54 = .ok (.iaload, 1) := by decide +kernel
theorem dX12_stay_55 : decode cX12_stay 55 = .ok (.isub, 1) := by decide +kernel
theorem dX12_stay_56 : decode cX12_stay 56 = .ok (.ireturn, 1) := by decide +kernel
theorem dX12_stay_57 : decode cX12_stay 57 = .ok (.aload_n 0, 1) := by decide +kernel
theorem dX12_stay_58 : decode cX12_stay 58 = .ok (.bipush 40, 2) := by decide +kernel
theorem dX12_stay_60 : decode cX12_stay 60 = .ok (.invokevirtual 280, 3) := by decide +kernel
theorem dX12_stay_63 : decode cX12_stay 63 = .ok (.aload_n 0, 1) := by decide +kernel
theorem dX12_stay_64 : decode cX12_stay 64 = .ok (.iconst 3, 1) := by decide +kernel
theorem dX12_stay_65 : decode cX12_stay 65 = .ok (.invokestatic 215, 3) := by decide +kernel
theorem dX12_stay_68 : decode cX12_stay 68 = .ok (.iload_n 2, 1) := by decide +kernel
theorem dX12_stay_69 : decode cX12_stay 69 = .ok (.invokevirtual 292, 3) := by decide +kernel
theorem dX12_stay_72 : decode cX12_stay 72 = .ok (.ineg, 1) := by decide +kernel
theorem dX12_stay_73 : decode cX12_stay 73 = .ok (.ireturn, 1) := by decide +kernel
theorem dX12_stay_74 : decode cX12_stay 74 = .ok (.aload_n 0, 1) := by decide +kernel
theorem dX12_stay_75 : decode cX12_stay 75 = .ok (.bipush 70, 2) := by decide +kernel
theorem dX12_stay_77 : decode cX12_stay 77 = .ok (.invokevirtual 280, 3) := by decide +kernel
theorem dX12_stay_80 : decode cX12_stay 80 = .ok (.aload_n 0, 1) := by decide +kernel
theorem dX12_stay_81 : decode cX12_stay 81 = .ok (.bipush 6, 2) := by decide +kernel
theorem dX12_stay_83 : decode cX12_stay 83 = .ok (.invokestatic 215, 3) := by decide +kernel
theorem dX12_stay_86 : decode cX12_stay 86 = .ok (.iload_n 2, 1) := by decide +kernel
theorem dX12_stay_87 : decode cX12_stay 87 = .ok (.invokevirtual 292, 3) := by decide +kernel
theorem dX12_stay_90 : decode cX12_stay 90 = .ok (.aload_n 0, 1) := by decide +kernel
theorem dX12_stay_91 : decode cX12_stay 91 = .ok (.getfield 277, 3) := by decide +kernel
theorem dX12_stay_94 : decode cX12_stay 94 = .ok (.ixor, 1) := by decide +kernel
theorem dX12_stay_95 : decode cX12_stay 95 = .ok (.ireturn, 1) := by decide +kernel
theorem dX12_stay_96 : decode cX12_stay 96 = .ok (.aload_n 0, 1) := by decide +kernel
theorem dX12_stay_97 : decode cX12_stay 97 = .ok (.iload_n 1, 1) := by decide +kernel
theorem dX12_stay_98 : decode cX12_stay 98 = .ok (.invokestatic 215, 3) := by decide +kernel
theorem dX12_stay_101 : decode cX12_stay 101 = .ok (.iload_n 2, 1) := by decide +kernel
theorem dX12_stay_102 : decode cX12_stay 102 = .ok (.invokevirtual 292, 3) := by decide +kernel
theorem dX12_stay_105 : decode cX12_stay 105 = .ok (.ireturn, 1) := by decide +kernel
theorem dX12_tells_0 : decode cX12_tells 0 = .ok (.iload_n 1, 1) := by decide +kernel
theorem dX12_tells_1 : decode cX12_tells 1 = .ok (.lookupswitch 120 #[(0, 35), (5, 63), (6, 91)], 35) := by decide +kernel
theorem dX12_tells_36 : decode cX12_tells 36 = .ok (.aload_n 0, 1) := by decide +kernel
theorem dX12_tells_37 : decode cX12_tells 37 = .ok (.bipush 13, 2) := by decide +kernel
theorem dX12_tells_39 : decode cX12_tells 39 = .ok (.invokevirtual 280, 3) := by decide +kernel
theorem dX12_tells_42 : decode cX12_tells 42 = .ok (.aload_n 0, 1) := by decide +kernel
theorem dX12_tells_43 : decode cX12_tells 43 = .ok (.aload_n 0, 1) := by decide +kernel
theorem dX12_tells_44 : decode cX12_tells 44 = .ok (.invokevirtual 286, 3) := by decide +kernel
theorem dX12_tells_47 : decode cX12_tells 47 = .ok (.iload_n 2, 1) := by decide +kernel
theorem dX12_tells_48 : decode cX12_tells 48 = .ok (.invokevirtual 289, 3) := by decide +kernel
theorem dX12_tells_51 : decode cX12_tells 51 = .ok (.istore_n 3, 1) := by decide +kernel
theorem dX12_tells_52 : decode cX12_tells 52 = .ok (.iload_n 3, 1) := by decide +kernel
theorem dX12_tells_53 : decode cX12_tells 53 = .ok (.aload_n 0, 1) := by decide +kernel
theorem dX12_tells_54 : decode cX12_tells 54 = .ok (.aload_n 0, 1) := by decide +kernel
theorem dX12_tells_55 : decode cX12_tells 55 = .ok (.invokevirtual 286, 3) := by decide +kernel
theorem dX12_tells_58 : decode cX12_tells 58 = .ok (.iload_n 2, 1) := by decide +kernel
theorem dX12_tells_59 : decode cX12_tells 59 = .ok (.invokevirtual 292, 3) := by decide +kernel
theorem dX12_tells_62 : decode cX12_tells 62 = .ok (.ixor, 1) := by decide +kernel
theorem dX12_tells_63 : decode cX12_tells 63 = .ok (.ireturn, 1) := by decide +kernel
theorem dX12_tells_64 : decode cX12_tells 64 = .ok (.aload_n 0, 1) := by decide +kernel
theorem dX12_tells_65 : decode cX12_tells 65 = .ok (.bipush 60, 2) := by decide +kernel
theorem dX12_tells_67 : decode cX12_tells 67 = .ok (.invokevirtual 280, 3) := by decide +kernel
theorem dX12_tells_70 : decode cX12_tells 70 = .ok (.aload_n 0, 1) := by decide +kernel
theorem dX12_tells_71 : decode cX12_tells 71 = .ok (.iconst 5, 1) := by decide +kernel
theorem dX12_tells_72 : decode cX12_tells 72 = .ok (.invokestatic 215, 3) := by decide +kernel
theorem dX12_tells_75 : decode cX12_tells 75 = .ok (.iload_n 2, 1) := by decide +kernel
theorem dX12_tells_76 : decode cX12_tells 76 = .ok (.invokevirtual 295, 3) := by decide +kernel
theorem dX12_tells_79 : decode cX12_tells 79 = .ok (.istore_n 3, 1) := by decide +kernel
theorem dX12_tells_80 : decode cX12_tells 80 = .ok (.iload_n 3, 1) := by decide +kernel
theorem dX12_tells_81 : decode cX12_tells 81 = .ok (.aload_n 0, 1) := by decide +kernel
theorem dX12_tells_82 : decode cX12_tells 82 = .ok (.aload_n 0, 1) := by decide +kernel
theorem dX12_tells_83 : decode cX12_tells 83 = .ok (.invokevirtual 286, 3) := by decide +kernel
theorem dX12_tells_86 : decode cX12_tells 86 = .ok (.iconst 2, 1) := by decide +kernel
theorem dX12_tells_87 : decode cX12_tells 87 = .ok (.invokevirtual 283, 3) := by decide +kernel
theorem dX12_tells_90 : decode cX12_tells 90 = .ok (.isub, 1) := by decide +kernel
theorem dX12_tells_91 : decode cX12_tells 91 = .ok (.ireturn, 1) := by decide +kernel
theorem dX12_tells_92 : decode cX12_tells 92 = .ok (.aload_n 0, 1) := by decide +kernel
theorem dX12_tells_93 : decode cX12_tells 93 = .ok (.bipush 71, 2) := by decide +kernel
theorem dX12_tells_95 : decode cX12_tells 95 = .ok (.invokevirtual 280, 3) := by decide +kernel
theorem dX12_tells_98 : decode cX12_tells 98 = .ok (.aload_n 0, 1) := by decide +kernel
theorem dX12_tells_99 : decode cX12_tells 99 = .ok (.aload_n 0, 1) := by decide +kernel
theorem dX12_tells_100 : decode cX12_tells 100 = .ok (.invokevirtual 286, 3) := by decide +kernel
theorem dX12_tells_103 : decode cX12_tells 103 = .ok (.iload_n 2, 1) := by decide +kernel
theorem dX12_tells_104 : decode cX12_tells 104 = .ok (.invokevirtual 289, 3) := by decide +kernel
theorem dX12_tells_107 : decode cX12_tells 107 = .ok (.istore_n 3, 1) := by decide +kernel
theorem dX12_tells_108 : decode cX12_tells 108 = .ok (.iload_n 3, 1) := by decide +kernel
theorem dX12_tells_109 : decode cX12_tells 109 = .ok (.aload_n 0, 1) := by decide +kernel
theorem dX12_tells_110 : decode cX12_tells 110 = .ok (.bipush 6, 2) := by decide +kernel
theorem dX12_tells_112 : decode cX12_tells 112 = .ok (.invokestatic 215, 3) := by decide +kernel
theorem dX12_tells_115 : decode cX12_tells 115 = .ok (.iload_n 2, 1) := by decide +kernel
theorem dX12_tells_116 : decode cX12_tells 116 = .ok (.invokevirtual 295, 3) := by decide +kernel
theorem dX12_tells_119 : decode cX12_tells 119 = .ok (.isub, 1) := by decide +kernel
theorem dX12_tells_120 : decode cX12_tells 120 = .ok (.ireturn, 1) := by decide +kernel
theorem dX12_tells_121 : decode cX12_tells 121 = .ok (.aload_n 0, 1) := by decide +kernel
theorem dX12_tells_122 : decode cX12_tells 122 = .ok (.iload_n 1, 1) := by decide +kernel
theorem dX12_tells_123 : decode cX12_tells 123 = .ok (.invokestatic 215, 3) := by decide +kernel
theorem dX12_tells_126 : decode cX12_tells 126 = .ok (.iload_n 2, 1) := by decide +kernel
theorem dX12_tells_127 : decode cX12_tells 127 = .ok (.invokevirtual 295, 3) := by decide +kernel
theorem dX12_tells_130 : decode cX12_tells 130 = .ok (.ireturn, 1) := by decide +kernel
theorem dX12_voice_0 : decode cX12_voice 0 = .ok (.iload_n 1, 1) := by decide +kernel
theorem dX12_voice_1 : decode cX12_voice 1 = .ok (.invokestatic 176, 3) := by decide +kernel
theorem dX12_voice_4 : decode cX12_voice 4 = .ok (.ifCond .eq 15, 3) := by decide +kernel
theorem dX12_voice_7 : decode cX12_voice 7 = .ok (.iload_n 2, 1) := by decide +kernel
theorem dX12_voice_8 : decode cX12_voice 8 = .ok (.i2l, 1) := by decide +kernel
theorem dX12_voice_9 : decode cX12_voice 9 = .ok (.lconst 0, 1) := by decide +kernel
theorem dX12_voice_10 : decode cX12_voice 10 = .ok (.ldc2_w 298, 3) := by decide +kernel
theorem dX12_voice_13 : decode cX12_voice 13 = .ok (.invokestatic 78, 3) := by decide +kernel
theorem dX12_voice_16 : decode cX12_voice 16 = .ok (.ifCond .ne 9, 3) := by decide +kernel
theorem dX12_voice_19 : decode cX12_voice 19 = .ok (.aload_n 0, 1) := by decide +kernel
theorem dX12_voice_20 : decode cX12_voice 20 = .ok (.iconst 1, 1) := by decide +kernel
theorem dX12_voice_21 : decode cX12_voice 21 = .ok (.invokevirtual 152, 3) := by decide +kernel
theorem dX12_voice_24 : decode cX12_voice 24 = .ok (.ireturn, 1) := by decide +kernel
theorem dX12_voice_25 : decode cX12_voice 25 = .ok (.aload_n 0, 1) := by decide +kernel
theorem dX12_voice_26 : decode cX12_voice 26 = .ok (.iconst 0, 1) := by decide +kernel
theorem dX12_voice_27 : decode cX12_voice 27 = .ok (.putfield 274, 3) := by decide +kernel
theorem dX12_voice_30 : decode cX12_voice 30 = .ok (.aload_n 0, 1) := by decide +kernel
theorem dX12_voice_31 : decode cX12_voice 31 = .ok (.iload_n 1, 1) := by decide +kernel
theorem dX12_voice_32 : decode cX12_voice 32 = .ok (.putfield 277, 3) := by decide +kernel
theorem dX12_voice_35 : decode cX12_voice 35 = .ok (.aload_n 0, 1) := by decide +kernel
theorem dX12_voice_36 : decode cX12_voice 36 = .ok (.invokevirtual 286, 3) := by decide +kernel
theorem dX12_voice_39 : decode cX12_voice 39 = .ok (.istore 4, 2) := by decide +kernel
theorem dX12_voice_41 : decode cX12_voice 41 = .ok (.iload_n 2, 1) := by decide +kernel
theorem dX12_voice_42 : decode cX12_voice 42 = .ok (.ifCond .ne 13, 3) := by decide +kernel
theorem dX12_voice_45 : decode cX12_voice 45 = .ok (.aload_n 0, 1) := by decide +kernel
theorem dX12_voice_46 : decode cX12_voice 46 = .ok (.iload 4, 2) := by decide +kernel
theorem dX12_voice_48 : decode cX12_voice 48 = .ok (.iload_n 3, 1) := by decide +kernel
theorem dX12_voice_49 : decode cX12_voice 49 = .ok (.invokevirtual 283, 3) := by decide +kernel
theorem dX12_voice_52 : decode cX12_voice 52 = .ok (.goto 40, 3) := by decide +kernel
theorem dX12_voice_55 : decode cX12_voice 55 = .ok (.iload_n 2, 1) := by decide +kernel
theorem dX12_voice_56 : decode cX12_voice 56 = .ok (.iconst 1, 1) := by decide +kernel
theorem dX12_voice_57 : decode cX12_voice 57 = .ok (.if_icmp .ne 13, 3) := by decide +kernel
theorem dX12_voice_60 : decode cX12_voice 60 = .ok (.aload_n 0, 1) := by decide +kernel
theorem dX12_voice_61 : decode cX12_voice 61 = .ok (.iload 4, 2) := by decide +kernel
theorem dX12_voice_63 : decode cX12_voice 63 = .ok (.iload_n 3, 1) := by decide +kernel
theorem dX12_voice_64 : decode cX12_voice 64 = .ok (.invokevirtual 289, 3) := by decide +kernel
theorem dX12_voice_67 : decode cX12_voice 67 = .ok (.goto 25, 3) := by decide +kernel
theorem dX12_voice_70 : decode cX12_voice 70 = .ok (.iload_n 2, 1) := by decide +kernel
theorem dX12_voice_71 : decode cX12_voice 71 = .ok (.iconst 2, 1) := by decide +kernel
theorem dX12_voice_72 : decode cX12_voice 72 = .ok (.if_icmp .ne 13, 3) := by decide +kernel
theorem dX12_voice_75 : decode cX12_voice 75 = .ok (.aload_n 0, 1) := by decide +kernel
theorem dX12_voice_76 : decode cX12_voice 76 = .ok (.iload 4, 2) := by decide +kernel
theorem dX12_voice_78 : decode cX12_voice 78 = .ok (.iload_n 3, 1) := by decide +kernel
theorem dX12_voice_79 : decode cX12_voice 79 = .ok (.invokevirtual 292, 3) := by decide +kernel
theorem dX12_voice_82 : decode cX12_voice 82 = .ok (.goto 10, 3) := by decide +kernel
theorem dX12_voice_85 : decode cX12_voice 85 = .ok (.aload_n 0, 1) := by decide +kernel
theorem dX12_voice_86 : decode cX12_voice 86 = .ok (.iload 4, 2) := by decide +kernel
theorem dX12_voice_88 : decode cX12_voice 88 = .ok (.iload_n 3, 1) := by decide +kernel
theorem dX12_voice_89 : decode cX12_voice 89 = .ok (.invokevirtual 295, 3) := by decide +kernel
theorem dX12_voice_92 : decode cX12_voice 92 = .ok (.ireturn, 1) := by decide +kernel
theorem dX12_trace_0 : decode cX12_trace 0 = .ok (.iload_n 1, 1) := by decide +kernel
theorem dX12_trace_1 : decode cX12_trace 1 = .ok (.i2l, 1) := by decide +kernel
theorem dX12_trace_2 : decode cX12_trace 2 = .ok (.lconst 0, 1) := by decide +kernel
theorem dX12_trace_3 : decode cX12_trace 3 = .ok (.aload_n 0, 1) := by decide +kernel
theorem dX12_trace_4 : decode cX12_trace 4 = .ok (.getfield 274, 3) := by decide +kernel
theorem dX12_trace_7 : decode cX12_trace 7 = .ok (.iconst 1, 1) := by decide +kernel
theorem dX12_trace_8 : decode cX12_trace 8 = .ok (.isub, 1) := by decide +kernel
theorem dX12_trace_9 : decode cX12_trace 9 = .ok (.i2l, 1) := by decide +kernel
theorem dX12_trace_10 : decode cX12_trace 10 = .ok (.invokestatic 78, 3) := by decide +kernel
theorem dX12_trace_13 : decode cX12_trace 13 = .ok (.ifCond .eq 12, 3) := by decide +kernel
theorem dX12_trace_16 : decode cX12_trace 16 = .ok (.aload_n 0, 1) := by decide +kernel
theorem dX12_trace_17 : decode cX12_trace 17 = .ok (.getfield 60, 3) := by decide +kernel
theorem dX12_trace_20 : decode cX12_trace 20 = .ok (.iload_n 1, 1) := by decide +kernel
theorem dX12_trace_21 : decode cX12_trace 21 = .ok (.iaload, 1) := by decide +kernel
theorem dX12_trace_22 : decode cX12_trace 22 = .ok (.goto 8, 3) := by decide +kernel
theorem dX12_trace_25 : decode cX12_trace 25 = .ok (.aload_n 0, 1) := by decide +kernel
theorem dX12_trace_26 : decode cX12_trace 26 = .ok (.iconst 2, 1) := by decide +kernel
theorem dX12_trace_27 : decode cX12_trace 27 = .ok (.invokevirtual 152, 3) := by decide +kernel
theorem dX12_trace_30 : decode cX12_trace 30 = .ok (.ireturn, 1) := by decide +kernel
theorem dX12_isSheet_0 : decode cX12_isSheet 0 = .ok (.iload_n 0, 1) := by decide +kernel
theorem dX12_isSheet_1 : decode cX12_isSheet 1 = .ok (.i2l, 1) := by decide +kernel
theorem dX12_isSheet_2 : decode cX12_isSheet 2 = .ok (.lconst 0, 1) := by decide +kernel
theorem dX12_isSheet_3 : decode cX12_isSheet 3 = .ok (.ldc2_w 298, 3) := by decide +kernel
theorem dX12_isSheet_6 : decode cX12_isSheet 6 = .ok (.invokestatic 78, 3) := by decide +kernel
theorem dX12_isSheet_9 : decode cX12_isSheet 9 = .ok (.ireturn, 1) := by decide +kernel
theorem dX12_sheet_0 : decode cX12_sheet 0 = .ok (.iload_n 1, 1) := by decide +kernel
theorem dX12_sheet_1 : decode cX12_sheet 1 = .ok (.invokestatic 300, 3) := by decide +kernel
theorem dX12_sheet_4 : decode cX12_sheet 4 = .ok (.ifCond .eq 25, 3) := by decide +kernel
theorem dX12_sheet_7 : decode cX12_sheet 7 = .ok (.iload_n 2, 1) := by decide +kernel
theorem dX12_sheet_8 : decode cX12_sheet 8 = .ok (.ifCond .eq 27, 3) := by decide +kernel
theorem dX12_sheet_11 : decode cX12_sheet 11 = .ok (.iload_n 2, 1) := by decide +kernel
theorem dX12_sheet_12 : decode cX12_sheet 12 = .ok (.bipush 8, 2) := by decide +kernel
theorem dX12_sheet_14 : decode cX12_sheet 14 = .ok (.if_icmp .eq 21, 3) := by decide +kernel
theorem dX12_sheet_17 : decode cX12_sheet 17 = .ok (.iload_n 2, 1) := by decide +kernel
theorem dX12_sheet_18 : decode cX12_sheet 18 = .ok (.bipush 16, 2) := by decide +kernel
theorem dX12_sheet_20 : decode cX12_sheet 20 = .ok (.if_icmp .eq 15, 3) := by decide +kernel
theorem dX12_sheet_23 : decode cX12_sheet 23 = .ok (.iload_n 2, 1) := by decide +kernel
theorem dX12_sheet_24 : decode cX12_sheet 24 = .ok (.bipush 32, 2) := by decide +kernel
theorem dX12_sheet_26 : decode cX12_sheet 26 = .ok (.if_icmp .eq 9, 3) := by decide +kernel
theorem dX12_sheet_29 : decode cX12_sheet 29 = .ok (.aload_n 0, 1) := by decide +kernel
theorem dX12_sheet_30 : decode cX12_sheet 30 = .ok (.iconst 1, 1) := by decide +kernel
theorem dX12_sheet_31 : decode cX12_sheet 31 = .ok (.invokevirtual 152, 3) := by decide +kernel
theorem dX12_sheet_34 : decode cX12_sheet 34 = .ok (.ireturn, 1) := by decide +kernel
theorem dX12_sheet_35 : decode cX12_sheet 35 = .ok (.iload_n 2, 1) := by decide +kernel
theorem dX12_sheet_36 : decode cX12_sheet 36 = .ok (.ifCond .eq 13, 3) := by decide +kernel
theorem dX12_sheet_39 : decode cX12_sheet 39 = .ok (.iload_n 3, 1) := by decide +kernel
theorem dX12_sheet_40 : decode cX12_sheet 40 = .ok (.ifCond .ge 9, 3) := by decide +kernel
theorem dX12_sheet_43 : decode cX12_sheet 43 = .ok (.aload_n 0, 1) := by decide +kernel
theorem dX12_sheet_44 : decode cX12_sheet 44 = .ok (.iconst 3, 1) := by decide +kernel
theorem dX12_sheet_45 : decode cX12_sheet 45 = .ok (.invokevirtual 152, 3) := by decide +kernel
theorem dX12_sheet_48 : decode cX12_sheet 48 = .ok (.ireturn, 1) := by decide +kernel
theorem dX12_sheet_49 : decode cX12_sheet 49 = .ok (.iload_n 2, 1) := by decide +kernel
theorem dX12_sheet_50 : decode cX12_sheet 50 = .ok (.ifCond .eq 15, 3) := by decide +kernel
theorem dX12_sheet_53 : decode cX12_sheet 53 = .ok (.iload_n 3, 1) := by decide +kernel
theorem dX12_sheet_54 : decode cX12_sheet 54 = .ok (.bipush 40, 2) := by decide +kernel
theorem dX12_sheet_56 : decode cX12_sheet 56 = .ok (.if_icmp .le 9, 3) := by decide +kernel
theorem dX12_sheet_59 : decode cX12_sheet 59 = .ok (.aload_n 0, 1) := by decide +kernel
theorem dX12_sheet_60 : decode cX12_sheet 60 = .ok (.iconst 1, 1) := by decide +kernel
theorem dX12_sheet_61 : decode cX12_sheet 61 = .ok (.invokevirtual 152, 3) := by decide +kernel
theorem dX12_sheet_64 : decode cX12_sheet 64 = .ok (.ireturn, 1) := by decide +kernel
theorem dX12_sheet_65 : decode cX12_sheet 65 = .ok (.aload_n 0, 1) := by decide +kernel
theorem dX12_sheet_66 : decode cX12_sheet 66 = .ok (.getfield 63, 3) := by decide +kernel
theorem dX12_sheet_69 : decode cX12_sheet 69 = .ok (.iload_n 1, 1) := by decide +kernel
theorem dX12_sheet_70 : decode cX12_sheet 70 = .ok (.iload_n 2, 1) := by decide +kernel
theorem dX12_sheet_71 : decode cX12_sheet 71 = .ok (.iastore, 1) := by decide +kernel
theorem dX12_sheet_72 : decode cX12_sheet 72 = .ok (.aload_n 0, 1) := by decide +kernel
theorem dX12_sheet_73 : decode cX12_sheet 73 = .ok (.getfield 66, 3) := by decide +kernel
theorem dX12_sheet_76 : decode cX12_sheet 76 = .ok (.iload_n 1, 1) := by decide +kernel
theorem dX12_sheet_77 : decode cX12_sheet 77 = .ok (.iload_n 2, 1) := by decide +kernel
theorem dX12_sheet_78 : decode cX12_sheet 78 = .ok (.ifCond .ne 7, 3) := by decide +kernel
theorem dX12_sheet_81 : decode cX12_sheet 81 = .ok (.iconst 0, 1) := by decide +kernel
theorem dX12_sheet_82 : decode cX12_sheet 82 = .ok (.goto 4, 3) := by decide +kernel
theorem dX12_sheet_85 : decode cX12_sheet 85 = .ok (.iload_n 3, 1) := by decide +kernel
theorem dX12_sheet_86 : decode cX12_sheet 86 = .ok (.iastore, 1) := by decide +kernel
theorem dX12_sheet_87 : decode cX12_sheet 87 = .ok (.iconst 0, 1) := by decide +kernel
theorem dX12_sheet_88 : decode cX12_sheet 88 = .ok (.istore 4, 2) := by decide +kernel
theorem dX12_sheet_90 : decode cX12_sheet 90 = .ok (.iload 4, 2) := by decide +kernel
theorem dX12_sheet_92 : decode cX12_sheet 92 = .ok (.bipush 40, 2) := by decide +kernel
theorem dX12_sheet_94 : decode cX12_sheet 94 = .ok (.if_icmp .ge 22, 3) := by decide +kernel
theorem dX12_sheet_97 : decode cX12_sheet 97 = .ok (.aload_n 0, 1) := by decide +kernel
theorem dX12_sheet_98 : decode cX12_sheet 98 = .ok (.getfield 69, 3) := by decide +kernel
theorem dX12_sheet_101 : decode cX12_sheet 101 = .ok (.bipush 40, 2) := by decide +kernel
theorem dX12_sheet_103 : decode cX12_sheet 103 = .ok (.iload_n 1, 1) := by decide +kernel
theorem dX12_sheet_104 : decode cX12_sheet 104 = .ok (.imul, 1) := by decide +kernel
theorem dX12_sheet_105 : decode cX12_sheet 105 = .ok (.iload 4, 2) := by decide +kernel
theorem dX12_sheet_107 : decode cX12_sheet 107 = .ok (.iadd, 1) := by decide +kernel
theorem dX12_sheet_108 : decode cX12_sheet 108 = .ok (.iconst 0, 1) := by decide +kernel
theorem dX12_sheet_109 : decode cX12_sheet 109 = .ok (.iastore, 1) := by decide +kernel
theorem dX12_sheet_110 : decode cX12_sheet 110 = .ok (.iinc 4 1, 3) := by decide +kernel
theorem dX12_sheet_113 : decode cX12_sheet 113 = .ok (.goto (-23), 3) := by decide +kernel
theorem dX12_sheet_116 : decode cX12_sheet 116 = .ok (.iconst 1, 1) := by decide +kernel
theorem dX12_sheet_117 : decode cX12_sheet 117 = .ok (.ireturn, 1) := by decide +kernel
theorem dX12_put_0 : decode cX12_put 0 = .ok (.iload_n 1, 1) := by decide +kernel
theorem dX12_put_1 : decode cX12_put 1 = .ok (.invokestatic 300, 3) := by decide +kernel
theorem dX12_put_4 : decode cX12_put 4 = .ok (.ifCond .ne 9, 3) := by decide +kernel
theorem dX12_put_7 : decode cX12_put 7 = .ok (.aload_n 0, 1) := by decide +kernel
theorem dX12_put_8 : decode cX12_put 8 = .ok (.iconst 1, 1) := by decide +kernel
theorem dX12_put_9 : decode cX12_put 9 = .ok (.invokevirtual 152, 3) := by decide +kernel
theorem dX12_put_12 : decode cX12_put 12 = .ok (.ireturn, 1) := by decide +kernel
theorem dX12_put_13 : decode cX12_put 13 = .ok (.aload_n 0, 1) := by decide +kernel
theorem dX12_put_14 : decode cX12_put 14 = .ok (.getfield 63, 3) := by decide +kernel
theorem dX12_put_17 : decode cX12_put 17 = .ok (.iload_n 1, 1) := by decide +kernel
theorem dX12_put_18 : decode cX12_put 18 = .ok (.iaload, 1) := by decide +kernel
theorem dX12_put_19 : decode cX12_put 19 = .ok (.ifCond .ne 9, 3) := by decide +kernel
theorem dX12_put_22 : decode cX12_put 22 = .ok (.aload_n 0, 1) := by decide +kernel
theorem dX12_put_23 : decode cX12_put 23 = .ok (.iconst 2, 1) := by decide +kernel
theorem dX12_put_24 : decode cX12_put 24 = .ok (.invokevirtual 152, 3) := by decide +kernel
theorem dX12_put_27 : decode cX12_put 27 = .ok (.ireturn, 1) := by decide +kernel
theorem dX12_put_28 : decode cX12_put 28 = .ok (.iload_n 2, 1) := by decide +kernel
theorem dX12_put_29 : decode cX12_put 29 = .ok (.i2l, 1) := by decide +kernel
theorem dX12_put_30 : decode cX12_put 30 = .ok (.lconst 0, 1) := by decide +kernel
theorem dX12_put_31 : decode cX12_put 31 = .ok (.aload_n 0, 1) := by decide +kernel
theorem dX12_put_32 : decode cX12_put 32 = .ok (.getfield 66, 3) := by decide +kernel
theorem dX12_put_35 : decode cX12_put 35 = .ok (.iload_n 1, 1) := by decide +kernel
theorem dX12_put_36 : decode cX12_put 36 = .ok (.iaload, 1) := by decide +kernel
theorem dX12_put_37 : decode cX12_put 37 = .ok (.iconst 1, 1) := by decide +kernel
theorem dX12_put_38 : decode cX12_put 38 = .ok (.isub, 1) := by decide +kernel
theorem dX12_put_39 : decode cX12_put 39 = .ok (.i2l, 1) := by decide +kernel
theorem dX12_put_40 : decode cX12_put 40 = .ok (.invokestatic 78, 3) := by decide +kernel
theorem dX12_put_43 : decode cX12_put 43 = .ok (.ifCond .ne 9, 3) := by decide +kernel
theorem dX12_put_46 : decode cX12_put 46 = .ok (.aload_n 0, 1) := by decide +kernel
theorem dX12_put_47 : decode cX12_put 47 = .ok (.iconst 1, 1) := by decide +kernel
theorem dX12_put_48 : decode cX12_put 48 = .ok (.invokevirtual 152, 3) := by decide +kernel
theorem dX12_put_51 : decode cX12_put 51 = .ok (.ireturn, 1) := by decide +kernel
theorem dX12_put_52 : decode cX12_put 52 = .ok (.aload_n 0, 1) := by decide +kernel
theorem dX12_put_53 : decode cX12_put 53 = .ok (.getfield 69, 3) := by decide +kernel
theorem dX12_put_56 : decode cX12_put 56 = .ok (.bipush 40, 2) := by decide +kernel
theorem dX12_put_58 : decode cX12_put 58 = .ok (.iload_n 1, 1) := by decide +kernel
theorem dX12_put_59 : decode cX12_put 59 = .ok (.imul, 1) := by decide +kernel
theorem dX12_put_60 : decode cX12_put 60 = .ok (.iload_n 2, 1) := by decide +kernel
theorem dX12_put_61 : decode cX12_put 61 = .ok (.iadd, 1) := by decide +kernel
theorem dX12_put_62 : decode cX12_put 62 = .ok (.aload_n 0, 1) := by decide +kernel
theorem dX12_put_63 : decode cX12_put 63 = .ok (.getfield 63, 3) := by decide +kernel
theorem dX12_put_66 : decode cX12_put 66 = .ok (.iload_n 1, 1) := by decide +kernel
theorem dX12_put_67 : decode cX12_put 67 = .ok (.iaload, 1) := by decide +kernel
theorem dX12_put_68 : decode cX12_put 68 = .ok (.bipush 8, 2) := by decide +kernel
theorem dX12_put_70 : decode cX12_put 70 = .ok (.if_icmp .ne 8, 3) := by decide +kernel
theorem dX12_put_73 : decode cX12_put 73 = .ok (.iload_n 3, 1) := by decide +kernel
theorem dX12_put_74 : decode cX12_put 74 = .ok (.i2b, 1) := by decide +kernel
theorem dX12_put_75 : decode cX12_put 75 = .ok (.goto 20, 3) := by decide +kernel
theorem dX12_put_78 : decode cX12_put 78 = .ok (.aload_n 0, 1) := by decide +kernel
theorem dX12_put_79 : decode cX12_put 79 = .ok (.getfield 63, 3) := by decide +kernel
theorem dX12_put_82 : decode cX12_put 82 = .ok (.iload_n 1, 1) := by decide +kernel
theorem dX12_put_83 : decode cX12_put 83 = .ok (.iaload, 1) := by decide +kernel
theorem dX12_put_84 : decode cX12_put 84 = .ok (.bipush 16, 2) := by decide +kernel
theorem dX12_put_86 : decode cX12_put 86 = .ok (.if_icmp .ne 8, 3) := by decide +kernel
theorem dX12_put_89 : decode cX12_put 89 = .ok (.iload_n 3, 1) := by decide +kernel
theorem dX12_put_90 : decode cX12_put 90 = .ok (.i2s, 1) := by decide +kernel
theorem dX12_put_91 : decode cX12_put 91 = .ok (.goto 4, 3) := by decide +kernel
theorem dX12_put_94 : decode cX12_put 94 = .ok (.iload_n 3, 1) := by decide +kernel
theorem dX12_put_95 : decode cX12_put 95 = .ok (.iastore, 1) := by decide +kernel
theorem dX12_put_96 : decode cX12_put 96 = .ok (.iconst 1, 1) := by decide +kernel
theorem dX12_put_97 : decode cX12_put 97 = .ok (.ireturn, 1) := by decide +kernel
theorem dX12_move_0 : decode cX12_move 0 = .ok (.iload_n 1, 1) := by decide +kernel
theorem dX12_move_1 : decode cX12_move 1 = .ok (.invokestatic 300, 3) := by decide +kernel
theorem dX12_move_4 : decode cX12_move 4 = .ok (.ifCond .eq 10, 3) := by decide +kernel
theorem dX12_move_7 : decode cX12_move 7 = .ok (.iload_n 3, 1) := by decide +kernel
theorem dX12_move_8 : decode cX12_move 8 = .ok (.invokestatic 300, 3) := by decide +kernel
theorem dX12_move_11 : decode cX12_move 11 = .ok (.ifCond .ne 9, 3) := by decide +kernel
theorem dX12_move_14 : decode cX12_move 14 = .ok (.aload_n 0, 1) := by decide +kernel
theorem dX12_move_15 : decode cX12_move 15 = .ok (.iconst 1, 1) := by decide +kernel
theorem dX12_move_16 : decode cX12_move 16 = .ok (.invokevirtual 152, 3) := by decide +kernel
theorem dX12_move_19 : decode cX12_move 19 = .ok (.ireturn, 1) := by decide +kernel
theorem dX12_move_20 : decode cX12_move 20 = .ok (.aload_n 0, 1) := by decide +kernel
theorem dX12_move_21 : decode cX12_move 21 = .ok (.getfield 63, 3) := by decide +kernel
theorem dX12_move_24 : decode cX12_move 24 = .ok (.iload_n 1, 1) := by decide +kernel
theorem dX12_move_25 : decode cX12_move 25 = .ok (.iaload, 1) := by decide +kernel
theorem dX12_move_26 : decode cX12_move 26 = .ok (.ifCond .eq 12, 3) := by decide +kernel
theorem dX12_move_29 : decode cX12_move 29 = .ok (.aload_n 0, 1) := by decide +kernel
theorem dX12_move_30 : decode cX12_move 30 = .ok (.getfield 63, 3) := by decide +kernel
theorem dX12_move_33 : decode cX12_move 33 = .ok (.iload_n 3, 1) := by decide +kernel
theorem dX12_move_34 : decode cX12_move 34 = .ok (.iaload, 1) := by decide +kernel
theorem dX12_move_35 : decode cX12_move 35 = .ok (.ifCond .ne 9, 3) := by decide +kernel
theorem dX12_move_38 : decode cX12_move 38 = .ok (.aload_n 0, 1) := by decide +kernel
theorem dX12_move_39 : decode cX12_move 39 = .ok (.iconst 2, 1) := by decide +kernel
theorem dX12_move_40 : decode cX12_move 40 = .ok (.invokevirtual 152, 3) := by decide +kernel
theorem dX12_move_43 : decode cX12_move 43 = .ok (.ireturn, 1) := by decide +kernel
theorem dX12_move_44 : decode cX12_move 44 = .ok (.aload_n 0, 1) := by decide +kernel
theorem dX12_move_45 : decode cX12_move 45 = .ok (.getfield 63, 3) := by decide +kernel
theorem dX12_move_48 : decode cX12_move 48 = .ok (.iload_n 1, 1) := by decide +kernel
theorem dX12_move_49 : decode cX12_move 49 = .ok (.iaload, 1) := by decide +kernel
theorem dX12_move_50 : decode cX12_move 50 = .ok (.aload_n 0, 1) := by decide +kernel
theorem dX12_move_51 : decode cX12_move 51 = .ok (.getfield 63, 3) := by decide +kernel
theorem dX12_move_54 : decode cX12_move 54 = .ok (.iload_n 3, 1) := by decide +kernel
theorem dX12_move_55 : decode cX12_move 55 = .ok (.iaload, 1) := by decide +kernel
theorem dX12_move_56 : decode cX12_move 56 = .ok (.if_icmp .eq 9, 3) := by decide +kernel
theorem dX12_move_59 : decode cX12_move 59 = .ok (.aload_n 0, 1) := by decide +kernel
theorem dX12_move_60 : decode cX12_move 60 = .ok (.iconst 5, 1) := by decide +kernel
theorem dX12_move_61 : decode cX12_move 61 = .ok (.invokevirtual 152, 3) := by decide +kernel
theorem dX12_move_64 : decode cX12_move 64 = .ok (.ireturn, 1) := by decide +kernel
theorem dX12_move_65 : decode cX12_move 65 = .ok (.iload 5, 2) := by decide +kernel
theorem dX12_move_67 : decode cX12_move 67 = .ok (.ifCond .lt 39, 3) := by decide +kernel
theorem dX12_move_70 : decode cX12_move 70 = .ok (.iload_n 2, 1) := by decide +kernel
theorem dX12_move_71 : decode cX12_move 71 = .ok (.ifCond .lt 35, 3) := by decide +kernel
theorem dX12_move_74 : decode cX12_move 74 = .ok (.iload 4, 2) := by decide +kernel
theorem dX12_move_76 : decode cX12_move 76 = .ok (.ifCond .lt 30, 3) := by decide +kernel
theorem dX12_move_79 : decode cX12_move 79 = .ok (.iload 5, 2) := by decide +kernel
theorem dX12_move_81 : decode cX12_move 81 = .ok (.aload_n 0, 1) := by decide +kernel
theorem dX12_move_82 : decode cX12_move 82 = .ok (.getfield 66, 3) := by decide +kernel
theorem dX12_move_85 : decode cX12_move 85 = .ok (.iload_n 1, 1) := by decide +kernel
theorem dX12_move_86 : decode cX12_move 86 = .ok (.iaload, 1) := by decide +kernel
theorem dX12_move_87 : decode cX12_move 87 = .ok (.iload_n 2, 1) := by decide +kernel
theorem dX12_move_88 : decode cX12_move 88 = .ok (.isub, 1) := by decide +kernel
theorem dX12_move_89 : decode cX12_move 89 = .ok (.if_icmp .gt 17, 3) := by decide +kernel
theorem dX12_move_92 : decode cX12_move 92 = .ok (.iload 5, 2) := by decide +kernel
theorem dX12_move_94 : decode cX12_move 94 = .ok (.aload_n 0, 1) := by decide +kernel
theorem dX12_move_95 : decode cX12_move 95 = .ok (.getfield 66, 3) := by decide +kernel
theorem dX12_move_98 : decode cX12_move 98 = .ok (.iload_n 3, 1) := by decide +kernel
theorem dX12_move_99 : decode cX12_move 99 = .ok (.iaload, 1) := by decide +kernel
theorem dX12_move_100 : decode cX12_move 100 = .ok (.iload 4, 2) := by decide +kernel
theorem dX12_move_102 : decode cX12_move 102 = .ok (.isub, 1) := by decide +kernel
theorem dX12_move_103 : decode cX12_move 103 = .ok (.if_icmp .le 9, 3) := by decide +kernel
theorem dX12_move_106 : decode cX12_move 106 = .ok (.aload_n 0, 1) := by decide +kernel
theorem dX12_move_107 : decode cX12_move 107 = .ok (.iconst 1, 1) := by decide +kernel
theorem dX12_move_108 : decode cX12_move 108 = .ok (.invokevirtual 152, 3) := by decide +kernel
theorem dX12_move_111 : decode cX12_move 111 = .ok (.ireturn, 1) := by decide +kernel
theorem dX12_move_112 : decode cX12_move 112 = .ok (.iconst 0, 1) := by decide +kernel
theorem dX12_move_113 : decode cX12_move 113 = .ok (.istore 6, 2) := by decide +kernel
theorem dX12_move_115 : decode cX12_move 115 = .ok (.iload 6, 2) := by decide +kernel
theorem dX12_move_117 : decode cX12_move 117 = .ok (.iload 5, 2) := by decide +kernel
theorem dX12_move_119 : decode cX12_move 119 = .ok (.if_icmp .ge 30, 3) := by decide +kernel
theorem dX12_move_122 : decode cX12_move 122 = .ok (.aload_n 0, 1) := by decide +kernel
theorem dX12_move_123 : decode cX12_move 123 = .ok (.getfield 72, 3) := by decide +kernel
theorem dX12_move_126 : decode cX12_move 126 = .ok (.iload 6, 2) := by decide +kernel
theorem dX12_move_128 : decode cX12_move 128 = .ok (.aload_n 0, 1) := by decide +kernel
theorem dX12_move_129 : decode cX12_move 129 = .ok (.getfield 69, 3) := by decide +kernel
theorem dX12_move_132 : decode cX12_move 132 = .ok (.bipush 40, 2) := by decide +kernel
theorem dX12_move_134 : decode cX12_move 134 = .ok (.iload_n 1, 1) := by decide +kernel
theorem dX12_move_135 : decode cX12_move 135 = .ok (.imul, 1) := by decide +kernel
theorem dX12_move_136 : decode cX12_move 136 = .ok (.iload_n 2, 1) := by decide +kernel
theorem dX12_move_137 : decode cX12_move 137 = .ok (.iadd, 1) := by decide +kernel
theorem dX12_move_138 : decode cX12_move 138 = .ok (.iload 6, 2) := by decide +kernel
theorem dX12_move_140 : decode cX12_move 140 = .ok (.iadd, 1) := by decide +kernel
theorem dX12_move_141 : decode cX12_move 141 = .ok (.iaload, 1) := by decide +kernel
theorem dX12_move_142 : decode cX12_move 142 = .ok (.iastore, 1) := by decide +kernel
theorem dX12_move_143 : decode cX12_move 143 = .ok (.iinc 6 1, 3) := by decide +kernel
theorem dX12_move_146 : decode cX12_move 146 = .ok (.goto (-31), 3) := by decide +kernel
theorem dX12_move_149 : decode cX12_move 149 = .ok (.iconst 0, 1) := by decide +kernel
theorem dX12_move_150 : decode cX12_move 150 = .ok (.istore 6, 2) := by decide +kernel
theorem dX12_move_152 : decode cX12_move 152 = .ok (.iload 6, 2) := by decide +kernel
theorem dX12_move_154 : decode cX12_move 154 = .ok (.iload 5, 2) := by decide +kernel
theorem dX12_move_156 : decode cX12_move 156 = .ok (.if_icmp .ge 31, 3) := by decide +kernel
theorem dX12_move_159 : decode cX12_move 159 = .ok (.aload_n 0, 1) := by decide +kernel
theorem dX12_move_160 : decode cX12_move 160 = .ok (.getfield 69, 3) := by decide +kernel
theorem dX12_move_163 : decode cX12_move 163 = .ok (.bipush 40, 2) := by decide +kernel
theorem dX12_move_165 : decode cX12_move 165 = .ok (.iload_n 3, 1) := by decide +kernel
theorem dX12_move_166 : decode cX12_move 166 = .ok (.imul, 1) := by decide +kernel
theorem dX12_move_167 : decode cX12_move 167 = .ok (.iload 4, 2) := by decide +kernel
theorem dX12_move_169 : decode cX12_move 169 = .ok (.iadd, 1) := by decide +kernel
theorem dX12_move_170 : decode cX12_move 170 = .ok (.iload 6, 2) := by decide +kernel
theorem dX12_move_172 : decode cX12_move 172 = .ok (.iadd, 1) := by decide +kernel
theorem dX12_move_173 : decode cX12_move 173 = .ok (.aload_n 0, 1) := by decide +kernel
theorem dX12_move_174 : decode cX12_move 174 = .ok (.getfield 72, 3) := by decide +kernel
theorem dX12_move_177 : decode cX12_move 177 = .ok (.iload 6, 2) := by decide +kernel
theorem dX12_move_179 : decode cX12_move 179 = .ok (.iaload, 1) := by decide +kernel
theorem dX12_move_180 : decode cX12_move 180 = .ok (.iastore, 1) := by decide +kernel
theorem dX12_move_181 : decode cX12_move 181 = .ok (.iinc 6 1, 3) := by decide +kernel
theorem dX12_move_184 : decode cX12_move 184 = .ok (.goto (-32), 3) := by decide +kernel
theorem dX12_move_187 : decode cX12_move 187 = .ok (.iload 5, 2) := by decide +kernel
theorem dX12_move_189 : decode cX12_move 189 = .ok (.ireturn, 1) := by decide +kernel
theorem dX12_judge_0 : decode cX12_judge 0 = .ok (.iload_n 1, 1) := by decide +kernel
theorem dX12_judge_1 : decode cX12_judge 1 = .ok (.invokestatic 300, 3) := by decide +kernel
theorem dX12_judge_4 : decode cX12_judge 4 = .ok (.ifCond .ne 9, 3) := by decide +kernel
theorem dX12_judge_7 : decode cX12_judge 7 = .ok (.aload_n 0, 1) := by decide +kernel
theorem dX12_judge_8 : decode cX12_judge 8 = .ok (.iconst 1, 1) := by decide +kernel
theorem dX12_judge_9 : decode cX12_judge 9 = .ok (.invokevirtual 152, 3) := by decide +kernel
theorem dX12_judge_12 : decode cX12_judge 12 = .ok (.ireturn, 1) := by decide +kernel
theorem dX12_judge_13 : decode cX12_judge 13 = .ok (.aload_n 0, 1) := by decide +kernel
theorem dX12_judge_14 : decode cX12_judge 14 = .ok (.getfield 63, 3) := by decide +kernel
theorem dX12_judge_17 : decode cX12_judge 17 = .ok (.iload_n 1, 1) := by decide +kernel
theorem dX12_judge_18 : decode cX12_judge 18 = .ok (.iaload, 1) := by decide +kernel
theorem dX12_judge_19 : decode cX12_judge 19 = .ok (.ifCond .ne 9, 3) := by decide +kernel
theorem dX12_judge_22 : decode cX12_judge 22 = .ok (.aload_n 0, 1) := by decide +kernel
theorem dX12_judge_23 : decode cX12_judge 23 = .ok (.iconst 2, 1) := by decide +kernel
theorem dX12_judge_24 : decode cX12_judge 24 = .ok (.invokevirtual 152, 3) := by decide +kernel
theorem dX12_judge_27 : decode cX12_judge 27 = .ok (.ireturn, 1) := by decide +kernel
theorem dX12_judge_28 : decode cX12_judge 28 = .ok (.aload_n 0, 1) := by decide +kernel
theorem dX12_judge_29 : decode cX12_judge 29 = .ok (.invokevirtual 203, 3) := by decide +kernel
theorem dX12_judge_32 : decode cX12_judge 32 = .ok (.aload_n 0, 1) := by decide +kernel
theorem dX12_judge_33 : decode cX12_judge 33 = .ok (.invokevirtual 173, 3) := by decide +kernel
theorem dX12_judge_36 : decode cX12_judge 36 = .ok (.istore_n 2, 1) := by decide +kernel
theorem dX12_judge_37 : decode cX12_judge 37 = .ok (.iconst 0, 1) := by decide +kernel
theorem dX12_judge_38 : decode cX12_judge 38 = .ok (.istore_n 3, 1) := by decide +kernel
theorem dX12_judge_39 : decode cX12_judge 39 = .ok (.iload_n 3, 1) := by decide +kernel
theorem dX12_judge_40 : decode cX12_judge 40 = .ok (.aload_n 0, 1) := by decide +kernel
theorem dX12_judge_41 : decode cX12_judge 41 = .ok (.getfield 66, 3) := by decide +kernel
theorem dX12_judge_44 : decode cX12_judge 44 = .ok (.iload_n 1, 1) := by decide +kernel
theorem dX12_judge_45 : decode cX12_judge 45 = .ok (.iaload, 1) := by decide +kernel
theorem dX12_judge_46 : decode cX12_judge 46 = .ok (.if_icmp .ge 66, 3) := by decide +kernel
theorem dX12_judge_49 : decode cX12_judge 49 = .ok (.aload_n 0, 1) := by decide +kernel
theorem dX12_judge_50 : decode cX12_judge 50 = .ok (.getfield 69, 3) := by decide +kernel
theorem dX12_judge_53 : decode cX12_judge 53 = .ok (.bipush 40, 2) := by decide +kernel
theorem dX12_judge_55 : decode cX12_judge 55 = .ok (.iload_n 1, 1) := by decide +kernel
theorem dX12_judge_56 : decode cX12_judge 56 = .ok (.imul, 1) := by decide +kernel
theorem dX12_judge_57 : decode cX12_judge 57 = .ok (.iload_n 3, 1) := by decide +kernel
theorem dX12_judge_58 : decode cX12_judge 58 = .ok (.iadd, 1) := by decide +kernel
theorem dX12_judge_59 : decode cX12_judge 59 = .ok (.iaload, 1) := by decide +kernel
theorem dX12_judge_60 : decode cX12_judge 60 = .ok (.invokestatic 176, 3) := by decide +kernel
theorem dX12_judge_63 : decode cX12_judge 63 = .ok (.ifCond .eq 49, 3) := by decide +kernel
theorem dX12_judge_66 : decode cX12_judge 66 = .ok (.aload_n 0, 1) := by decide +kernel
theorem dX12_judge_67 : decode cX12_judge 67 = .ok (.iload_n 2, 1) := by decide +kernel
theorem dX12_judge_68 : decode cX12_judge 68 = .ok (.aload_n 0, 1) := by decide +kernel
theorem dX12_judge_69 : decode cX12_judge 69 = .ok (.getfield 69, 3) := by decide +kernel
theorem dX12_judge_72 : decode cX12_judge 72 = .ok (.bipush 40, 2) := by decide +kernel
theorem dX12_judge_74 : decode cX12_judge 74 = .ok (.iload_n 1, 1) := by decide +kernel
theorem dX12_judge_75 : decode cX12_judge 75 = .ok (.imul, 1) := by decide +kernel
theorem dX12_judge_76 : decode cX12_judge 76 = .ok (.iload_n 3, 1) := by decide +kernel
theorem dX12_judge_77 : decode cX12_judge 77 = .ok (.iadd, 1) := by decide +kernel
theorem dX12_judge_78 : decode cX12_judge 78 = .ok (.iaload, 1) := by decide +kernel
theorem dX12_judge_79 : decode cX12_judge 79 = .ok (.aload_n 0, 1) := by decide +kernel
theorem dX12_judge_80 : decode cX12_judge 80 = .ok (.invokevirtual 206, 3) := by decide +kernel
theorem dX12_judge_83 : decode cX12_judge 83 = .ok (.invokevirtual 209, 3) := by decide +kernel
theorem dX12_judge_86 : decode cX12_judge 86 = .ok (.ifCond .eq 26, 3) := by decide +kernel
theorem dX12_judge_89 : decode cX12_judge 89 = .ok (.aload_n 0, 1) := by decide +kernel
theorem dX12_judge_90 : decode cX12_judge 90 = .ok (.iload_n 2, 1) := by decide +kernel
theorem dX12_judge_91 : decode cX12_judge 91 = .ok (.aload_n 0, 1) := by decide +kernel
theorem dX12_judge_92 : decode cX12_judge 92 = .ok (.getfield 69, 3) := by decide +kernel
theorem dX12_judge_95 : decode cX12_judge 95 = .ok (.bipush 40, 2) := by decide +kernel
theorem dX12_judge_97 : decode cX12_judge 97 = .ok (.iload_n 1, 1) := by decide +kernel
theorem dX12_judge_98 : decode cX12_judge 98 = .ok (.imul, 1) := by decide +kernel
theorem dX12_judge_99 : decode cX12_judge 99 = .ok (.iload_n 3, 1) := by decide +kernel
theorem dX12_judge_100 : decode cX12_judge 100 = .ok (.iadd, 1) := by decide +kernel
theorem dX12_judge_101 : decode cX12_judge 101 = .ok (.iaload, 1) := by decide +kernel
theorem dX12_judge_102 : decode cX12_judge 102 = .ok (.invokevirtual 220, 3) := by decide +kernel
theorem dX12_judge_105 : decode cX12_judge 105 = .ok (.istore_n 2, 1) := by decide +kernel
theorem dX12_judge_106 : decode cX12_judge 106 = .ok (.iinc 3 1, 3) := by decide +kernel
theorem dX12_judge_109 : decode cX12_judge 109 = .ok (.goto (-70), 3) := by decide +kernel
theorem dX12_judge_112 : decode cX12_judge 112 = .ok (.iload_n 3, 1) := by decide +kernel
theorem dX12_judge_113 : decode cX12_judge 113 = .ok (.ireturn, 1) := by decide +kernel
theorem dX12_image_0 : decode cX12_image 0 = .ok (.aload_n 0, 1) := by decide +kernel
theorem dX12_image_1 : decode cX12_image 1 = .ok (.getfield 7, 3) := by decide +kernel
theorem dX12_image_4 : decode cX12_image 4 = .ok (.aload_n 0, 1) := by decide +kernel
theorem dX12_image_5 : decode cX12_image 5 = .ok (.getfield 13, 3) := by decide +kernel
theorem dX12_image_8 : decode cX12_image 8 = .ok (.invokestatic 303, 3) := by decide +kernel
theorem dX12_image_11 : decode cX12_image 11 = .ok (.aload_n 0, 1) := by decide +kernel
theorem dX12_image_12 : decode cX12_image 12 = .ok (.dup, 1) := by decide +kernel
theorem dX12_image_13 : decode cX12_image 13 = .ok (.getfield 307, 3) := by decide +kernel
theorem dX12_image_16 : decode cX12_image 16 = .ok (.iconst 1, 1) := by decide +kernel
theorem dX12_image_17 : decode cX12_image 17 = .ok (.iadd, 1) := by decide +kernel
theorem dX12_image_18 : decode cX12_image 18 = .ok (.putfield 307, 3) := by decide +kernel
theorem dX12_image_21 : decode cX12_image 21 = .ok (.aload_n 0, 1) := by decide +kernel
theorem dX12_image_22 : decode cX12_image 22 = .ok (.getfield 307, 3) := by decide +kernel
theorem dX12_image_25 : decode cX12_image 25 = .ok (.ireturn, 1) := by decide +kernel
theorem dX12_restore_0 : decode cX12_restore 0 = .ok (.aload_n 0, 1) := by decide +kernel
theorem dX12_restore_1 : decode cX12_restore 1 = .ok (.getfield 307, 3) := by decide +kernel
theorem dX12_restore_4 : decode cX12_restore 4 = .ok (.ifCond .ne 9, 3) := by decide +kernel
theorem dX12_restore_7 : decode cX12_restore 7 = .ok (.aload_n 0, 1) := by decide +kernel
theorem dX12_restore_8 : decode cX12_restore 8 = .ok (.iconst 2, 1) := by decide +kernel
theorem dX12_restore_9 : decode cX12_restore 9 = .ok (.invokevirtual 152, 3) := by decide +kernel
theorem dX12_restore_12 : decode cX12_restore 12 = .ok (.ireturn, 1) := by decide +kernel
theorem dX12_restore_13 : decode cX12_restore 13 = .ok (.aload_n 0, 1) := by decide +kernel
theorem dX12_restore_14 : decode cX12_restore 14 = .ok (.getfield 13, 3) := by decide +kernel
theorem dX12_restore_17 : decode cX12_restore 17 = .ok (.aload_n 0, 1) := by decide +kernel
theorem dX12_restore_18 : decode cX12_restore 18 = .ok (.getfield 7, 3) := by decide +kernel
theorem dX12_restore_21 : decode cX12_restore 21 = .ok (.invokestatic 303, 3) := by decide +kernel
theorem dX12_restore_24 : decode cX12_restore 24 = .ok (.aload_n 0, 1) := by decide +kernel
theorem dX12_restore_25 : decode cX12_restore 25 = .ok (.invokevirtual 173, 3) := by decide +kernel
theorem dX12_restore_28 : decode cX12_restore 28 = .ok (.ireturn, 1) := by decide +kernel
theorem dX12_tell_0 : decode cX12_tell 0 = .ok (.aload_n 0, 1) := by decide +kernel
theorem dX12_tell_1 : decode cX12_tell 1 = .ok (.getfield 7, 3) := by decide +kernel
theorem dX12_tell_4 : decode cX12_tell 4 = .ok (.bipush 25, 2) := by decide +kernel
theorem dX12_tell_6 : decode cX12_tell 6 = .ok (.iaload, 1) := by decide +kernel
theorem dX12_tell_7 : decode cX12_tell 7 = .ok (.bipush 20, 2) := by decide +kernel
theorem dX12_tell_9 : decode cX12_tell 9 = .ok (.if_icmp .ne 9, 3) := by decide +kernel
theorem dX12_tell_12 : decode cX12_tell 12 = .ok (.aload_n 0, 1) := by decide +kernel
theorem dX12_tell_13 : decode cX12_tell 13 = .ok (.iconst 4, 1) := by decide +kernel
theorem dX12_tell_14 : decode cX12_tell 14 = .ok (.invokevirtual 152, 3) := by decide +kernel
theorem dX12_tell_17 : decode cX12_tell 17 = .ok (.ireturn, 1) := by decide +kernel
theorem dX12_tell_18 : decode cX12_tell 18 = .ok (.aload_n 0, 1) := by decide +kernel
theorem dX12_tell_19 : decode cX12_tell 19 = .ok (.getfield 7, 3) := by decide +kernel
theorem dX12_tell_22 : decode cX12_tell 22 = .ok (.bipush 28, 2) := by decide +kernel
theorem dX12_tell_24 : decode cX12_tell 24 = .ok (.aload_n 0, 1) := by decide +kernel
theorem dX12_tell_25 : decode cX12_tell 25 = .ok (.getfield 7, 3) := by decide +kernel
theorem dX12_tell_28 : decode cX12_tell 28 = .ok (.bipush 25, 2) := by decide +kernel
theorem dX12_tell_30 : decode cX12_tell 30 = .ok (.iaload, 1) := by decide +kernel
theorem dX12_tell_31 : decode cX12_tell 31 = .ok (.iadd, 1) := by decide +kernel
theorem dX12_tell_32 : decode cX12_tell 32 = .ok (.iload_n 1, 1) := by decide +kernel
theorem dX12_tell_33 : decode cX12_tell 33 = .ok (.iastore, 1) := by decide +kernel
theorem dX12_tell_34 : decode cX12_tell 34 = .ok (.aload_n 0, 1) := by decide +kernel
theorem dX12_tell_35 : decode cX12_tell 35 = .ok (.getfield 7, 3) := by decide +kernel
theorem dX12_tell_38 : decode cX12_tell 38 = .ok (.bipush 25, 2) := by decide +kernel
theorem dX12_tell_40 : decode cX12_tell 40 = .ok (.dup2, 1) := by decide +kernel
theorem dX12_tell_41 : decode cX12_tell 41 = .ok (.iaload, 1) := by decide +kernel
theorem dX12_tell_42 : decode cX12_tell 42 = .ok (.iconst 1, 1) := by decide +kernel
theorem dX12_tell_43 : decode cX12_tell 43 = .ok (.iadd, 1) := by decide +kernel
theorem dX12_tell_44 : decode cX12_tell 44 = .ok (.iastore, 1) := by decide +kernel
theorem dX12_tell_45 : decode cX12_tell 45 = .ok (.aload_n 0, 1) := by decide +kernel
theorem dX12_tell_46 : decode cX12_tell 46 = .ok (.getfield 7, 3) := by decide +kernel
theorem dX12_tell_49 : decode cX12_tell 49 = .ok (.bipush 25, 2) := by decide +kernel
theorem dX12_tell_51 : decode cX12_tell 51 = .ok (.iaload, 1) := by decide +kernel
theorem dX12_tell_52 : decode cX12_tell 52 = .ok (.ireturn, 1) := by decide +kernel
theorem dX12_comesOf_0 : decode cX12_comesOf 0 = .ok (.iconst 0, 1) := by decide +kernel
theorem dX12_comesOf_1 : decode cX12_comesOf 1 = .ok (.istore_n 3, 1) := by decide +kernel
theorem dX12_comesOf_2 : decode cX12_comesOf 2 = .ok (.iload_n 3, 1) := by decide +kernel
theorem dX12_comesOf_3 : decode cX12_comesOf 3 = .ok (.bipush 6, 2) := by decide +kernel
theorem dX12_comesOf_5 : decode cX12_comesOf 5 = .ok (.if_icmp .ge 34, 3) := by decide +kernel
theorem dX12_comesOf_8 : decode cX12_comesOf 8 = .ok (.aload_n 0, 1) := by decide +kernel
theorem dX12_comesOf_9 : decode cX12_comesOf 9 = .ok (.iload_n 1, 1) := by decide +kernel
theorem dX12_comesOf_10 : decode cX12_comesOf 10 = .ok (.iload_n 3, 1) := by decide +kernel
theorem dX12_comesOf_11 : decode cX12_comesOf 11 = .ok (.aload_n 0, 1) := by decide +kernel
theorem dX12_comesOf_12 : decode cX12_comesOf 12 = .ok (.invokevirtual 206, 3) := by decide +kernel
theorem dX12_comesOf_15 : decode cX12_comesOf 15 = .ok (.invokevirtual 209, 3) := by decide +kernel
theorem dX12_comesOf_18 : decode cX12_comesOf 18 = .ok (.ifCond .eq 15, 3) := by decide +kernel
theorem dX12_comesOf_21 : decode cX12_comesOf 21 = .ok (.aload_n 0, 1) := by decide +kernel
theorem dX12_comesOf_22 : decode cX12_comesOf 22 = .ok (.iload_n 1, 1) := by decide +kernel
theorem dX12_comesOf_23 : decode cX12_comesOf 23 = .ok (.iload_n 3, 1) := by decide +kernel
theorem dX12_comesOf_24 : decode cX12_comesOf 24 = .ok (.invokevirtual 220, 3) := by decide +kernel
theorem dX12_comesOf_27 : decode cX12_comesOf 27 = .ok (.iload_n 2, 1) := by decide +kernel
theorem dX12_comesOf_28 : decode cX12_comesOf 28 = .ok (.if_icmp .ne 5, 3) := by decide +kernel
theorem dX12_comesOf_31 : decode cX12_comesOf 31 = .ok (.iconst 1, 1) := by decide +kernel
theorem dX12_comesOf_32 : decode cX12_comesOf 32 = .ok (.ireturn, 1) := by decide +kernel
theorem dX12_comesOf_33 : decode cX12_comesOf 33 = .ok (.iinc 3 1, 3) := by decide +kernel
theorem dX12_comesOf_36 : decode cX12_comesOf 36 = .ok (.goto (-34), 3) := by decide +kernel
theorem dX12_comesOf_39 : decode cX12_comesOf 39 = .ok (.iconst 0, 1) := by decide +kernel
theorem dX12_comesOf_40 : decode cX12_comesOf 40 = .ok (.ireturn, 1) := by decide +kernel
theorem dX12_check_0 : decode cX12_check 0 = .ok (.aload_n 0, 1) := by decide +kernel
theorem dX12_check_1 : decode cX12_check 1 = .ok (.getfield 7, 3) := by decide +kernel
theorem dX12_check_4 : decode cX12_check 4 = .ok (.bipush 25, 2) := by decide +kernel
theorem dX12_check_6 : decode cX12_check 6 = .ok (.iaload, 1) := by decide +kernel
theorem dX12_check_7 : decode cX12_check 7 = .ok (.istore_n 1, 1) := by decide +kernel
theorem dX12_check_8 : decode cX12_check 8 = .ok (.aload_n 0, 1) := by decide +kernel
theorem dX12_check_9 : decode cX12_check 9 = .ok (.getfield 7, 3) := by decide +kernel
theorem dX12_check_12 : decode cX12_check 12 = .ok (.bipush 25, 2) := by decide +kernel
theorem dX12_check_14 : decode cX12_check 14 = .ok (.iconst 0, 1) := by decide +kernel
theorem dX12_check_15 : decode cX12_check 15 = .ok (.iastore, 1) := by decide +kernel
theorem dX12_check_16 : decode cX12_check 16 = .ok (.aload_n 0, 1) := by decide +kernel
theorem dX12_check_17 : decode cX12_check 17 = .ok (.invokevirtual 203, 3) := by decide +kernel
theorem dX12_check_20 : decode cX12_check 20 = .ok (.aload_n 0, 1) := by decide +kernel
theorem dX12_check_21 : decode cX12_check 21 = .ok (.invokevirtual 173, 3) := by decide +kernel
theorem dX12_check_24 : decode cX12_check 24 = .ok (.istore_n 2, 1) := by decide +kernel
theorem dX12_check_25 : decode cX12_check 25 = .ok (.iconst 0, 1) := by decide +kernel
theorem dX12_check_26 : decode cX12_check 26 = .ok (.istore_n 3, 1) := by decide +kernel
theorem dX12_check_27 : decode cX12_check 27 = .ok (.iload_n 3, 1) := by decide +kernel
theorem dX12_check_28 : decode cX12_check 28 = .ok (.iload_n 1, 1) := by decide +kernel
theorem dX12_check_29 : decode cX12_check 29 = .ok (.if_icmp .ge 40, 3) := by decide +kernel
theorem dX12_check_32 : decode cX12_check 32 = .ok (.aload_n 0, 1) := by decide +kernel
theorem dX12_check_33 : decode cX12_check 33 = .ok (.iload_n 2, 1) := by decide +kernel
theorem dX12_check_34 : decode cX12_check 34 = .ok (.aload_n 0, 1) := by decide +kernel
theorem dX12_check_35 : decode cX12_check 35 = .ok (.getfield 7, 3) := by decide +kernel
theorem dX12_check_38 : decode cX12_check 38 = .ok (.bipush 28, 2) := by decide +kernel
theorem dX12_check_40 : decode cX12_check 40 = .ok (.iload_n 3, 1) := by decide +kernel
theorem dX12_check_41 : decode cX12_check 41 = .ok (.iadd, 1) := by decide +kernel
theorem dX12_check_42 : decode cX12_check 42 = .ok (.iaload, 1) := by decide +kernel
theorem dX12_check_43 : decode cX12_check 43 = .ok (.invokevirtual 310, 3) := by decide +kernel
theorem dX12_check_46 : decode cX12_check 46 = .ok (.ifCond .ne 7, 3) := by decide +kernel
theorem dX12_check_49 : decode cX12_check 49 = .ok (.iconst 1, 1) := by decide +kernel
theorem dX12_check_50 : decode cX12_check 50 = .ok (.iload_n 3, 1) := by decide +kernel
theorem dX12_check_51 : decode cX12_check 51 = .ok (.iadd, 1) := by decide +kernel
theorem dX12_check_52 : decode cX12_check 52 = .ok (.ireturn, 1) := by decide +kernel
theorem dX12_check_53 : decode cX12_check 53 = .ok (.aload_n 0, 1) := by decide +kernel
theorem dX12_check_54 : decode cX12_check 54 = .ok (.getfield 7, 3) := by decide +kernel
theorem dX12_check_57 : decode cX12_check 57 = .ok (.bipush 28, 2) := by decide +kernel
theorem dX12_check_59 : decode cX12_check 59 = .ok (.iload_n 3, 1) := by decide +kernel
theorem dX12_check_60 : decode cX12_check 60 = .ok (.iadd, 1) := by decide +kernel
theorem dX12_check_61 : decode cX12_check 61 = .ok (.iaload, 1) := by decide +kernel
theorem dX12_check_62 : decode cX12_check 62 = .ok (.istore_n 2, 1) := by decide +kernel
theorem dX12_check_63 : decode cX12_check 63 = .ok (.iinc 3 1, 3) := by decide +kernel
theorem dX12_check_66 : decode cX12_check 66 = .ok (.goto (-39), 3) := by decide +kernel
theorem dX12_check_69 : decode cX12_check 69 = .ok (.iconst 0, 1) := by decide +kernel
theorem dX12_check_70 : decode cX12_check 70 = .ok (.ireturn, 1) := by decide +kernel
theorem dX12_count_0 : decode cX12_count 0 = .ok (.iload_n 1, 1) := by decide +kernel
theorem dX12_count_1 : decode cX12_count 1 = .ok (.tableswitch 105 0 7 #[47, 52, 60, 68, 76, 84, 92, 97], 47) := by decide +kernel
theorem dX12_count_48 : decode cX12_count 48 = .ok (.aload_n 0, 1) := by decide +kernel
theorem dX12_count_49 : decode cX12_count 49 = .ok (.invokevirtual 173, 3) := by decide +kernel
theorem dX12_count_52 : decode cX12_count 52 = .ok (.ireturn, 1) := by decide +kernel
theorem dX12_count_53 : decode cX12_count 53 = .ok (.aload_n 0, 1) := by decide +kernel
theorem dX12_count_54 : decode cX12_count 54 = .ok (.invokevirtual 173, 3) := by decide +kernel
theorem dX12_count_57 : decode cX12_count 57 = .ok (.invokestatic 86, 3) := by decide +kernel
theorem dX12_count_60 : decode cX12_count 60 = .ok (.ireturn, 1) := by decide +kernel
theorem dX12_count_61 : decode cX12_count 61 = .ok (.aload_n 0, 1) := by decide +kernel
theorem dX12_count_62 : decode cX12_count 62 = .ok (.getfield 7, 3) := by decide +kernel
theorem dX12_count_65 : decode cX12_count 65 = .ok (.bipush 21, 2) := by decide +kernel
theorem dX12_count_67 : decode cX12_count 67 = .ok (.iaload, 1) := by decide +kernel
theorem dX12_count_68 : decode cX12_count 68 = .ok (.ireturn, 1) := by decide +kernel
theorem dX12_count_69 : decode cX12_count 69 = .ok (.aload_n 0, 1) := by decide +kernel
theorem dX12_count_70 : decode cX12_count 70 = .ok (.getfield 7, 3) := by decide +kernel
theorem dX12_count_73 : decode cX12_count 73 = .ok (.bipush 22, 2) := by decide +kernel
theorem dX12_count_75 : decode cX12_count 75 = .ok (.iaload, 1) := by decide +kernel
theorem dX12_count_76 : decode cX12_count 76 = .ok (.ireturn, 1) := by decide +kernel
theorem dX12_count_77 : decode cX12_count 77 = .ok (.aload_n 0, 1) := by decide +kernel
theorem dX12_count_78 : decode cX12_count 78 = .ok (.getfield 7, 3) := by decide +kernel
theorem dX12_count_81 : decode cX12_count 81 = .ok (.bipush 24, 2) := by decide +kernel
theorem dX12_count_83 : decode cX12_count 83 = .ok (.iaload, 1) := by decide +kernel
theorem dX12_count_84 : decode cX12_count 84 = .ok (.ireturn, 1) := by decide +kernel
theorem dX12_count_85 : decode cX12_count 85 = .ok (.aload_n 0, 1) := by decide +kernel
theorem dX12_count_86 : decode cX12_count 86 = .ok (.getfield 7, 3) := by decide +kernel
theorem dX12_count_89 : decode cX12_count 89 = .ok (.bipush 25, 2) := by decide +kernel
theorem dX12_count_91 : decode cX12_count 91 = .ok (.iaload, 1) := by decide +kernel
theorem dX12_count_92 : decode cX12_count 92 = .ok (.ireturn, 1) := by decide +kernel
theorem dX12_count_93 : decode cX12_count 93 = .ok (.aload_n 0, 1) := by decide +kernel
theorem dX12_count_94 : decode cX12_count 94 = .ok (.getfield 274, 3) := by decide +kernel
theorem dX12_count_97 : decode cX12_count 97 = .ok (.ireturn, 1) := by decide +kernel
theorem dX12_count_98 : decode cX12_count 98 = .ok (.aload_n 0, 1) := by decide +kernel
theorem dX12_count_99 : decode cX12_count 99 = .ok (.getfield 7, 3) := by decide +kernel
theorem dX12_count_102 : decode cX12_count 102 = .ok (.bipush 23, 2) := by decide +kernel
theorem dX12_count_104 : decode cX12_count 104 = .ok (.iaload, 1) := by decide +kernel
theorem dX12_count_105 : decode cX12_count 105 = .ok (.ireturn, 1) := by decide +kernel
theorem dX12_count_106 : decode cX12_count 106 = .ok (.aload_n 0, 1) := by decide +kernel
theorem dX12_count_107 : decode cX12_count 107 = .ok (.iconst 1, 1) := by decide +kernel
theorem dX12_count_108 : decode cX12_count 108 = .ok (.invokevirtual 152, 3) := by decide +kernel
theorem dX12_count_111 : decode cX12_count 111 = .ok (.ireturn, 1) := by decide +kernel
theorem dX12_told_0 : decode cX12_told 0 = .ok (.iload_n 1, 1) := by decide +kernel
theorem dX12_told_1 : decode cX12_told 1 = .ok (.i2l, 1) := by decide +kernel
theorem dX12_told_2 : decode cX12_told 2 = .ok (.lconst 1, 1) := by decide +kernel
theorem dX12_told_3 : decode cX12_told 3 = .ok (.ldc2_w 82, 3) := by decide +kernel
theorem dX12_told_6 : decode cX12_told 6 = .ok (.invokestatic 78, 3) := by decide +kernel
theorem dX12_told_9 : decode cX12_told 9 = .ok (.ifCond .eq 12, 3) := by decide +kernel
theorem dX12_told_12 : decode cX12_told 12 = .ok (.aload_n 0, 1) := by decide +kernel
theorem dX12_told_13 : decode cX12_told 13 = .ok (.getfield 16, 3) := by decide +kernel
theorem dX12_told_16 : decode cX12_told 16 = .ok (.iload_n 1, 1) := by decide +kernel
theorem dX12_told_17 : decode cX12_told 17 = .ok (.iaload, 1) := by decide +kernel
theorem dX12_told_18 : decode cX12_told 18 = .ok (.goto 8, 3) := by decide +kernel
theorem dX12_told_21 : decode cX12_told 21 = .ok (.aload_n 0, 1) := by decide +kernel
theorem dX12_told_22 : decode cX12_told 22 = .ok (.iconst 1, 1) := by decide +kernel
theorem dX12_told_23 : decode cX12_told 23 = .ok (.invokevirtual 152, 3) := by decide +kernel
theorem dX12_told_26 : decode cX12_told 26 = .ok (.ireturn, 1) := by decide +kernel
theorem dJ11_isValidCodePoint_9a6ad_0 : decode cJ11_isValidCodePoint_9a6ad 0 = .ok (.iload_n 0, 1) := by decide +kernel
theorem dJ11_isValidCodePoint_9a6ad_1 : decode cJ11_isValidCodePoint_9a6ad 1 = .ok (.bipush 16, 2) := by decide +kernel
theorem dJ11_isValidCodePoint_9a6ad_3 : decode cJ11_isValidCodePoint_9a6ad 3 = .ok (.iushr, 1) := by decide +kernel
theorem dJ11_isValidCodePoint_9a6ad_4 : decode cJ11_isValidCodePoint_9a6ad 4 = .ok (.istore_n 1, 1) := by decide +kernel
theorem dJ11_isValidCodePoint_9a6ad_5 : decode cJ11_isValidCodePoint_9a6ad 5 = .ok (.iload_n 1, 1) := by decide +kernel
theorem dJ11_isValidCodePoint_9a6ad_6 : decode cJ11_isValidCodePoint_9a6ad 6 = .ok (.bipush 17, 2) := by decide +kernel
theorem dJ11_isValidCodePoint_9a6ad_8 : decode cJ11_isValidCodePoint_9a6ad 8 = .ok (.if_icmp .ge 7, 3) := by decide +kernel
theorem dJ11_isValidCodePoint_9a6ad_11 : decode cJ11_isValidCodePoint_9a6ad 11 = .ok (.iconst 1, 1) := by decide +kernel
theorem dJ11_isValidCodePoint_9a6ad_12 : decode cJ11_isValidCodePoint_9a6ad 12 = .ok (.goto 4, 3) := by decide +kernel
theorem dJ11_isValidCodePoint_9a6ad_15 : decode cJ11_isValidCodePoint_9a6ad 15 = .ok (.iconst 0, 1) := by decide +kernel
theorem dJ11_isValidCodePoint_9a6ad_16 : decode cJ11_isValidCodePoint_9a6ad 16 = .ok (.ireturn, 1) := by decide +kernel
theorem dJ11_highSurrogate_5068e_0 : decode cJ11_highSurrogate_5068e 0 = .ok (.iload_n 0, 1) := by decide +kernel
theorem dJ11_highSurrogate_5068e_1 : decode cJ11_highSurrogate_5068e 1 = .ok (.bipush 10, 2) := by decide +kernel
theorem dJ11_highSurrogate_5068e_3 : decode cJ11_highSurrogate_5068e 3 = .ok (.iushr, 1) := by decide +kernel
theorem dJ11_highSurrogate_5068e_4 : decode cJ11_highSurrogate_5068e 4 = .ok (.ldc 110, 2) := by decide +kernel
theorem dJ11_highSurrogate_5068e_6 : decode cJ11_highSurrogate_5068e 6 = .ok (.iadd, 1) := by decide +kernel
theorem dJ11_highSurrogate_5068e_7 : decode cJ11_highSurrogate_5068e 7 = .ok (.i2c, 1) := by decide +kernel
theorem dJ11_highSurrogate_5068e_8 : decode cJ11_highSurrogate_5068e 8 = .ok (.ireturn, 1) := by decide +kernel
theorem dJ11_lowSurrogate_5068e_0 : decode cJ11_lowSurrogate_5068e 0 = .ok (.iload_n 0, 1) := by decide +kernel
theorem dJ11_lowSurrogate_5068e_1 : decode cJ11_lowSurrogate_5068e 1 = .ok (.sipush 1023, 3) := by decide +kernel
theorem dJ11_lowSurrogate_5068e_4 : decode cJ11_lowSurrogate_5068e 4 = .ok (.iand, 1) := by decide +kernel
theorem dJ11_lowSurrogate_5068e_5 : decode cJ11_lowSurrogate_5068e 5 = .ok (.ldc 76, 2) := by decide +kernel
theorem dJ11_lowSurrogate_5068e_7 : decode cJ11_lowSurrogate_5068e 7 = .ok (.iadd, 1) := by decide +kernel
theorem dJ11_lowSurrogate_5068e_8 : decode cJ11_lowSurrogate_5068e 8 = .ok (.i2c, 1) := by decide +kernel
theorem dJ11_lowSurrogate_5068e_9 : decode cJ11_lowSurrogate_5068e 9 = .ok (.ireturn, 1) := by decide +kernel
theorem dJ6_bitCount_0f7a4_0 : decode cJ6_bitCount_0f7a4 0 = .ok (.iload_n 0, 1) := by decide +kernel
theorem dJ6_bitCount_0f7a4_1 : decode cJ6_bitCount_0f7a4 1 = .ok (.iload_n 0, 1) := by decide +kernel
theorem dJ6_bitCount_0f7a4_2 : decode cJ6_bitCount_0f7a4 2 = .ok (.iconst 1, 1) := by decide +kernel
theorem dJ6_bitCount_0f7a4_3 : decode cJ6_bitCount_0f7a4 3 = .ok (.iushr, 1) := by decide +kernel
theorem dJ6_bitCount_0f7a4_4 : decode cJ6_bitCount_0f7a4 4 = .ok (.ldc_w 265, 3) := by decide +kernel
theorem dJ6_bitCount_0f7a4_7 : decode cJ6_bitCount_0f7a4 7 = .ok (.iand, 1) := by decide +kernel
theorem dJ6_bitCount_0f7a4_8 : decode cJ6_bitCount_0f7a4 8 = .ok (.isub, 1) := by decide +kernel
theorem dJ6_bitCount_0f7a4_9 : decode cJ6_bitCount_0f7a4 9 = .ok (.istore_n 0, 1) := by decide +kernel
theorem dJ6_bitCount_0f7a4_10 : decode cJ6_bitCount_0f7a4 10 = .ok (.iload_n 0, 1) := by decide +kernel
theorem dJ6_bitCount_0f7a4_11 : decode cJ6_bitCount_0f7a4 11 = .ok (.ldc_w 266, 3) := by decide +kernel
theorem dJ6_bitCount_0f7a4_14 : decode cJ6_bitCount_0f7a4 14 = .ok (.iand, 1) := by decide +kernel
theorem dJ6_bitCount_0f7a4_15 : decode cJ6_bitCount_0f7a4 15 = .ok (.iload_n 0, 1) := by decide +kernel
theorem dJ6_bitCount_0f7a4_16 : decode cJ6_bitCount_0f7a4 16 = .ok (.iconst 2, 1) := by decide +kernel
theorem dJ6_bitCount_0f7a4_17 : decode cJ6_bitCount_0f7a4 17 = .ok (.iushr, 1) := by decide +kernel
theorem dJ6_bitCount_0f7a4_18 : decode cJ6_bitCount_0f7a4 18 = .ok (.ldc_w 266, 3) := by decide +kernel
theorem dJ6_bitCount_0f7a4_21 : decode cJ6_bitCount_0f7a4 21 = .ok (.iand, 1) := by decide +kernel
theorem dJ6_bitCount_0f7a4_22 : decode cJ6_bitCount_0f7a4 22 = .ok (.iadd, 1) := by decide +kernel
theorem dJ6_bitCount_0f7a4_23 : decode cJ6_bitCount_0f7a4 23 = .ok (.istore_n 0, 1) := by decide +kernel
theorem dJ6_bitCount_0f7a4_24 : decode cJ6_bitCount_0f7a4 24 = .ok (.iload_n 0, 1) := by decide +kernel
theorem dJ6_bitCount_0f7a4_25 : decode cJ6_bitCount_0f7a4 25 = .ok (.iload_n 0, 1) := by decide +kernel
theorem dJ6_bitCount_0f7a4_26 : decode cJ6_bitCount_0f7a4 26 = .ok (.iconst 4, 1) := by decide +kernel
theorem dJ6_bitCount_0f7a4_27 : decode cJ6_bitCount_0f7a4 27 = .ok (.iushr, 1) := by decide +kernel
theorem dJ6_bitCount_0f7a4_28 : decode cJ6_bitCount_0f7a4 28 = .ok (.iadd, 1) := by decide +kernel
theorem dJ6_bitCount_0f7a4_29 : decode cJ6_bitCount_0f7a4 29 = .ok (.ldc_w 267, 3) := by decide +kernel
theorem dJ6_bitCount_0f7a4_32 : decode cJ6_bitCount_0f7a4 32 = .ok (.iand, 1) := by decide +kernel
theorem dJ6_bitCount_0f7a4_33 : decode cJ6_bitCount_0f7a4 33 = .ok (.istore_n 0, 1) := by decide +kernel
theorem dJ6_bitCount_0f7a4_34 : decode cJ6_bitCount_0f7a4 34 = .ok (.iload_n 0, 1) := by decide +kernel
theorem dJ6_bitCount_0f7a4_35 : decode cJ6_bitCount_0f7a4 35 = .ok (.iload_n 0, 1) := by decide +kernel
theorem dJ6_bitCount_0f7a4_36 : decode cJ6_bitCount_0f7a4 36 = .ok (.bipush 8, 2) := by decide +kernel
